/-! THE LAW'S LOOP. -/
section LWL
abbrev lw_lv (b h1 h2 t : Nat) : List (Nat × Value) := [(3, .int (nI (6 * t))), (2, .ref h2), (1, .ref h1), (0, .ref b)]
def lw_Cx (x : ac_X) (D : va_G) (cT : Nat → ClassId) (A : Nat → Prop) (l : Launch) (adK adV : Nat → Nat) (b L : Nat) (xs : Nat → Int32) : Prop := nw_Cx x D cT A l RL cL_law 4 room_1 ∧ rd_env x adK adV A ∧ va_X b L xs (ac_s x) (ac_s x).heap ∧ b < (ac_s x).heap.size ∧ ¬ A b ∧ L ≤ 3072
theorem so_wf_dl {l : Launch} {g : r_S} : ∀ (d : Nat) (p0 p1 p2 p3 : Int32) (M : Nat → Int32) (F : Nat → Nat → Int32) (Q : (Nat → Int32) → (Nat → Nat → Int32) → Prop), wf_dl d p0 p1 p2 p3 M F Q → r_MetV l g yX12_deals cX12_deals 8 (9 * d) [.ref (r_h g), .int p0, .int p1, .int p2, .int p3] M F Q := by
  intro d
  induction d with
  | zero => intro _ _ _ _ M F Q h; exact absurd h (fun h => h)
  | succ d ih => intro p0 p1 p2 p3 M F Q h; exact so_deals ih p0 p1 p2 p3 M F Q h
variable {x : ac_X} {D : va_G} {cT : Nat → ClassId} {A : Nat → Prop} {l : Launch} {adK adV : Nat → Nat} {b L : Nat} {xs : Nat → Int32} {P : Heap → Prop} {cs ss pc : Nat} {lv : List (Nat × Value)} {st : List Value} {h1 h2 t ks : Nat} {ad : Nat → Nat} {u : cl_S} {M : Nat → Int32} {F : Nat → Nat → Int32}
theorem lw_in {j : Nat} (hj : j < L) (hL : L ≤ 3072) : vp_in (nI j) L := by
  have h1 : ¬ nI j < 0 := nI_pos (by omega)
  have h2 : (nI j).toNatClampNeg = j := nI_clamp (by omega)
  intro h
  rcases h with h | h
  · exact h1 h
  · omega
theorem lw_sld (Z : lw_Cx x D cT A l adK adV b L xs) {i : Int32} {j : Nat} (hi : i = nI j) (hj : j < L) (hd : decode cL_law pc = .ok (.iaload, 1)) (k : ac_G x A 4 P cs ss (pc + 1) lv (.int (xs j) :: st)) : ac_G x A 4 P cs ss pc lv (.int i :: .ref b :: st) := by
  obtain ⟨p, l', e9, R, s, m, args, below, meth, c, Q0⟩ := x
  obtain ⟨⟨C0, -⟩, -, hX, hbl, hbA, hL⟩ := Z
  subst hi
  intro H locs ls hP hS hlv
  have hcl : (nI j).toNatClampNeg = j := nI_clamp (by omega)
  have hk := k H locs ls hP hS hlv
  refine va_sld C0.1 C0.2.1 hX hbl hbA hS (lw_in hj hL) hd ?_
  rw [hcl]
  exact hk
theorem lw_slen (Z : lw_Cx x D cT A l adK adV b L xs) (hd : decode cL_law pc = .ok (.arraylength, 1)) (k : ac_G x A 4 P cs ss (pc + 1) lv (.int (nI L) :: st)) : ac_G x A 4 P cs ss pc lv (.ref b :: st) := by
  obtain ⟨p, l', e9, R, s, m, args, below, meth, c, Q0⟩ := x
  obtain ⟨⟨C0, -⟩, -, hX, hbl, hbA, hL⟩ := Z
  intro H locs ls hP hS hlv
  exact va_slen C0.1 C0.2.1 hX hbl hbA hS hd (k H locs ls hP hS hlv)
theorem lw_arg (Z : lw_Cx x D cT A l adK adV b L xs) {k : Nat} (hk : 6 * t + k < L) {nn : Int} (d1 : decode cL_law pc = .ok (.aload_n 0, 1)) (d2 : decode cL_law (pc + 1) = .ok (.iload_n 3, 1)) (d3 : decode cL_law (pc + 2) = .ok (.iconst nn, 1)) (hv : Int32.ofInt nn = nI k) (d4 : decode cL_law (pc + 3) = .ok (.iadd, 1)) (d5 : decode cL_law (pc + 4) = .ok (.iaload, 1)) (kk : ac_G x A 4 P cs ss (pc + 5) (lw_lv b h1 h2 t) (.int (xs (6 * t + k)) :: st)) : ac_G x A 4 P cs ss pc (lw_lv b h1 h2 t) st := by
  refine ac_aload_n Z.1.1 3 d1 rfl ?_
  refine ac_iload_n Z.1.1 0 d2 rfl ?_
  refine ac_iconst Z.1.1 d3 hv ?_
  refine ac_iadd Z.1.1 d4 ?_
  exact lw_sld Z ni_add hk d5 kk
/-- the same bytes are fed on both sides -/
def lw_B (u : cl_S) (M : Nat → Int32) (F : Nat → Nat → Int32) : Prop := ∃ (B : Nat → Int32) (c : Nat), c ≤ 4000 ∧ y_B (cl_M u, u.2.2.2.2.1, u.2.2.2.2.2.1) B c ∧ z_B M F B c
theorem lw_B_eq {u u' : cl_S} {M M' : Nat → Int32} {F F' : Nat → Nat → Int32} (h : lw_B u M F) (h1 : cl_f u' = cl_f u) (h2 : u'.2.2.2.2.1 10 = u.2.2.2.2.1 10) (h3 : M' 1 = M 1) (h4 : F' 0 = F 0) : lw_B u' M' F' := by
  obtain ⟨B, c, hc, ⟨y1, y2⟩, ⟨z1, z2⟩⟩ := h
  refine ⟨B, c, hc, ⟨h1.trans y1, fun i hi => ?_⟩, ⟨h3.trans z1, fun i hi => by rw [h4]; exact z2 i hi⟩⟩
  show u'.2.2.2.2.1 10 i &&& 255 = B i
  rw [h2]; exact y2 i hi
theorem lw_B_f {u : cl_S} {M : Nat → Int32} {F : Nat → Nat → Int32} (h : lw_B u M F) : cl_f u = M 1 := by
  obtain ⟨B, c, hc, y, z⟩ := h
  exact y.1.trans z.1.symm
theorem lw_B_0 {u : cl_S} {M : Nat → Int32} {F : Nat → Nat → Int32} (h1 : cl_f u = 0) (h2 : M 1 = 0) : lw_B u M F := ⟨fun _ => 0, 0, by omega, ⟨h1, fun i hi => absurd hi (by omega)⟩, ⟨h2, fun i hi => absurd hi (by omega)⟩⟩
theorem fr_dl {A : Int32} {T : Nat → Int32} : ∀ (n : Nat) (q0 q1 q2 q3 : Int32) (M : Nat → Int32) (F : Nat → Nat → Int32) (Q Q' : (Nat → Int32) → (Nat → Nat → Int32) → Prop), fi A T M F → wf_dl n q0 q1 q2 q3 M F Q → (∀ M' F', fi A T M' F' → Q M' F' → Q' M' F') → wf_dl n q0 q1 q2 q3 M F Q' := by
  intro n
  induction n with
  | zero => intro _ _ _ _ _ _ _ _ _ h _; exact absurd h (fun q => q)
  | succ n ih => intro q0 q1 q2 q3 M F Q Q' hi h hq; exact fr_deals ih hi h hq
theorem zo_INV {M M' : Nat → Int32} {F F' : Nat → Nat → Int32} (h : e_INV M F) (z : z_only M M' F F') (h1 : 0 ≤ (M' 1).toInt ∧ (M' 1).toInt ≤ 4000) : e_INV M' F' := e_INV_hc (ks := [1]) (rs := [0]) ⟨fun k hk => z.1 k (fun q => hk (by rw [q]; exact List.mem_cons_self ..)), fun r hr => funext (fun i => z.2 r i (fun q => hr (by rw [q]; exact List.mem_cons_self ..)))⟩ (by decide) (by decide) h1 h
theorem re_rej {WB : e_M → e_F → (e_M → e_F → Prop) → Prop} {p : Int32} {M : e_M} {F : e_F} {Q : Int32 → e_M → e_F → Prop} (h : p.toInt < 0 ∨ (M 1).toInt < p.toInt) (hQ : Q (-1) M F) : w_read WB p M F Q := by
  have e0 : (0 : Int32).toInt = 0 := by decide
  refine ⟨fun _ => hQ, fun a => ⟨fun c => ?_, fun _ => hQ⟩⟩
  have a := ti_nlt a
  have c := Int32.le_iff_toInt_le.mp c
  omega
/-- a round's end, behind the calls -/
def lw_En (x : ac_X) (D : va_G) (cT : Nat → ClassId) (A : Nat → Prop) (b h1 h2 : Nat) (ad : Nat → Nat) (t : Nat) : Prop := ∀ (u : cl_S) (M : Nat → Int32) (F : Nat → Nat → Int32) (ks : Nat), cl_ok h1 u → e_INV M F → lw_B u M F → ks + 8 * (cl_f u).toInt.toNat ≤ 171000 + 600 * (t + 1) → ac_G x A 4 (lw_I (ac_s x) D cT A (r_W h2 ad (cT 0) (cT 1) M F) u (80 + 20 * (t + 1)) ks) 20000 2000000 468 (lw_lv b h1 h2 t) []
theorem lw_nI {n : Nat} (h : n < 2 ^ 31) : (nI n).toInt = (n : Int) := by
  have h1 : ¬ nI n < 0 := nI_pos (by omega)
  have h2 : (nI n).toNatClampNeg = n := nI_clamp (by omega)
  have h3 := ti_nlt h1
  have h4 : (nI n).toInt.toNat = n := h2
  have h5 : (0 : Int32).toInt = 0 := by decide
  omega
theorem lw_c2 (Z : lw_Cx x D cT A l adK adV b L xs) (ht : 6 * t + 6 ≤ L) (ok : cl_ok h1 u) (hV : e_INV M F) (hB : lw_B u M F) (hks : ks + 8 * (cl_f u).toInt.toNat ≤ 171000 + 600 * t) (hE : lw_En x D cT A b h1 h2 ad t) : ac_G x A 4 (lw_I (ac_s x) D cT A (r_W h2 ad (cT 0) (cT 1) M F) u (80 + 20 * t) ks) 20000 2000000 174 (lw_lv b h1 h2 t) [] := by
  have hL := Z.2.2.2.2.2
  have hO := ok.2.2.2.2.2.2.2.2
  refine ac_aload_n Z.1.1 2 dL_law_174 rfl ?_
  refine lw_arg Z (k := 1) (by omega) dL_law_175 dL_law_176 dL_law_177 (by decide) dL_law_178 dL_law_179 ?_
  refine lw_cu Z.1 Z.2.1 ok (cl_faultU ok (xs (6 * t + 1))) kX11_fault lL_23 (by decide) (by decide) (Nat.le_trans (m := 20007) (by show 20000 + (7 - _) ≤ 20007; omega) (by decide)) (Nat.le_trans (m := 2114688) (by show 2000000 + (114688 - _) ≤ 2114688; omega) (by decide)) rfl rfl (by decide) dL_law_180 (by omega) (by omega) (fun r u' ok' hp hrow => ?_)
  refine ac_pop Z.1.1 dL_law_183 rfl ?_
  refine ac_aload_n Z.1.1 1 dL_law_184 rfl ?_
  refine lw_arg Z (k := 1) (by omega) dL_law_185 dL_law_186 dL_law_187 (by decide) dL_law_188 dL_law_189 ?_
  refine lw_rc Z.1 Z.2.1 (so_fault (xs (6 * t + 1)) M F (fun _ M' F' => e_INV M' F' ∧ M' 1 = M 1 ∧ F' 0 = F 0) (p_fault (fun _ => ⟨hV, rfl, rfl⟩))) kX12_fault lL_26 (by decide) (by decide) (by decide) (by decide) rfl rfl (by decide) dL_law_190 (by omega) (by omega) ok'.2.2.2.2.2.2.2.2 (fun r2 M' F' hq => ?_)
  refine ac_pop Z.1.1 dL_law_193 rfl ?_
  refine ac_goto (tgt := 468) Z.1.1 dL_law_194 (by decide) ?_
  exact lw_I.mono (by omega) (Nat.le_refl _) (hE u' M' F' _ ok' hq.1 (lw_B_eq hB hp hrow hq.2.1 hq.2.2) (by rw [hp]; omega))
theorem lw_c3 (Z : lw_Cx x D cT A l adK adV b L xs) (ht : 6 * t + 6 ≤ L) (ok : cl_ok h1 u) (hV : e_INV M F) (hB : lw_B u M F) (hks : ks + 8 * (cl_f u).toInt.toNat ≤ 171000 + 600 * t) (hE : lw_En x D cT A b h1 h2 ad t) : ac_G x A 4 (lw_I (ac_s x) D cT A (r_W h2 ad (cT 0) (cT 1) M F) u (80 + 20 * t) ks) 20000 2000000 197 (lw_lv b h1 h2 t) [] := by
  have hL := Z.2.2.2.2.2
  have hO := ok.2.2.2.2.2.2.2.2
  refine ac_aload_n Z.1.1 2 dL_law_197 rfl ?_
  refine lw_arg Z (k := 1) (by omega) dL_law_198 dL_law_199 dL_law_200 (by decide) dL_law_201 dL_law_202 ?_
  refine lw_arg Z (k := 2) (by omega) dL_law_203 dL_law_204 dL_law_205 (by decide) dL_law_206 dL_law_207 ?_
  refine lw_arg Z (k := 3) (by omega) dL_law_208 dL_law_209 dL_law_210 (by decide) dL_law_211 dL_law_212 ?_
  refine lw_arg Z (k := 4) (by omega) dL_law_213 dL_law_214 dL_law_215 (by decide) dL_law_216 dL_law_217 ?_
  refine lw_cu Z.1 Z.2.1 ok (cl_policyU ok (xs (6 * t + 1)) (xs (6 * t + 2)) (xs (6 * t + 3)) (xs (6 * t + 4))) kX11_policy lL_27 (by decide) (by decide) (Nat.le_trans (m := 20007) (by show 20000 + (7 - _) ≤ 20007; omega) (by decide)) (Nat.le_trans (m := 2114688) (by show 2000000 + (114688 - _) ≤ 2114688; omega) (by decide)) rfl rfl (by decide) dL_law_218 (by omega) (by omega) (fun r u' ok' hp hrow => ?_)
  refine ac_pop Z.1.1 dL_law_221 rfl ?_
  refine ac_aload_n Z.1.1 1 dL_law_222 rfl ?_
  refine lw_arg Z (k := 1) (by omega) dL_law_223 dL_law_224 dL_law_225 (by decide) dL_law_226 dL_law_227 ?_
  refine lw_arg Z (k := 2) (by omega) dL_law_228 dL_law_229 dL_law_230 (by decide) dL_law_231 dL_law_232 ?_
  refine lw_arg Z (k := 3) (by omega) dL_law_233 dL_law_234 dL_law_235 (by decide) dL_law_236 dL_law_237 ?_
  refine lw_arg Z (k := 4) (by omega) dL_law_238 dL_law_239 dL_law_240 (by decide) dL_law_241 dL_law_242 ?_
  refine lw_rc Z.1 Z.2.1 (so_policy (xs (6 * t + 1)) (xs (6 * t + 2)) (xs (6 * t + 3)) (xs (6 * t + 4)) M F (fun _ M' F' => e_INV M' F' ∧ M' 1 = M 1 ∧ F' 0 = F 0) (fr_policy (A := M 1) (T := F 0) (Q := fun _ M' F' => e_INV M' F') ⟨rfl, rfl⟩ (p_policy hV (fun _ _ _ a _ _ => a)) (fun _ M' F' i q => (show e_INV M' F' ∧ M' 1 = M 1 ∧ F' 0 = F 0 from ⟨q, i.1, i.2⟩)))) kX12_policy lL_31 (by decide) (by decide) (by decide) (by decide) rfl rfl (by decide) dL_law_243 (by omega) (by omega) ok'.2.2.2.2.2.2.2.2 (fun r2 M' F' hq => ?_)
  refine ac_pop Z.1.1 dL_law_246 rfl ?_
  refine ac_goto (tgt := 468) Z.1.1 dL_law_247 (by decide) ?_
  exact lw_I.mono (by omega) (Nat.le_refl _) (hE u' M' F' _ ok' hq.1 (lw_B_eq hB hp hrow hq.2.1 hq.2.2) (by rw [hp]; omega))
theorem lw_c4 (Z : lw_Cx x D cT A l adK adV b L xs) (ht : 6 * t + 6 ≤ L) (ok : cl_ok h1 u) (hV : e_INV M F) (hB : lw_B u M F) (hks : ks + 8 * (cl_f u).toInt.toNat ≤ 171000 + 600 * t) (hE : lw_En x D cT A b h1 h2 ad t) : ac_G x A 4 (lw_I (ac_s x) D cT A (r_W h2 ad (cT 0) (cT 1) M F) u (80 + 20 * t) ks) 20000 2000000 250 (lw_lv b h1 h2 t) [] := by
  have hL := Z.2.2.2.2.2
  have hO := ok.2.2.2.2.2.2.2.2
  refine ac_aload_n Z.1.1 2 dL_law_250 rfl ?_
  refine lw_arg Z (k := 1) (by omega) dL_law_251 dL_law_252 dL_law_253 (by decide) dL_law_254 dL_law_255 ?_
  refine lw_arg Z (k := 2) (by omega) dL_law_256 dL_law_257 dL_law_258 (by decide) dL_law_259 dL_law_260 ?_
  refine lw_arg Z (k := 3) (by omega) dL_law_261 dL_law_262 dL_law_263 (by decide) dL_law_264 dL_law_265 ?_
  refine lw_cu Z.1 Z.2.1 ok (cl_complainU ok (xs (6 * t + 1)) (xs (6 * t + 2)) (xs (6 * t + 3))) kX11_complain lL_32 (by decide) (by decide) (Nat.le_trans (m := 20007) (by show 20000 + (7 - _) ≤ 20007; omega) (by decide)) (Nat.le_trans (m := 2114688) (by show 2000000 + (114688 - _) ≤ 2114688; omega) (by decide)) rfl rfl (by decide) dL_law_266 (by omega) (by omega) (fun r u' ok' hp hrow => ?_)
  refine ac_pop Z.1.1 dL_law_269 rfl ?_
  refine ac_aload_n Z.1.1 1 dL_law_270 rfl ?_
  refine lw_arg Z (k := 1) (by omega) dL_law_271 dL_law_272 dL_law_273 (by decide) dL_law_274 dL_law_275 ?_
  refine lw_arg Z (k := 2) (by omega) dL_law_276 dL_law_277 dL_law_278 (by decide) dL_law_279 dL_law_280 ?_
  refine lw_arg Z (k := 3) (by omega) dL_law_281 dL_law_282 dL_law_283 (by decide) dL_law_284 dL_law_285 ?_
  refine lw_rc Z.1 Z.2.1 (so_complain (xs (6 * t + 1)) (xs (6 * t + 2)) (xs (6 * t + 3)) M F (fun _ M' F' => e_INV M' F' ∧ M' 1 = M 1 ∧ F' 0 = F 0) (fr_complain (A := M 1) (T := F 0) (Q := fun _ M' F' => e_INV M' F') ⟨rfl, rfl⟩ (p_complain hV (fun _ _ _ a _ => a)) (fun _ M' F' i q => (show e_INV M' F' ∧ M' 1 = M 1 ∧ F' 0 = F 0 from ⟨q, i.1, i.2⟩)))) kX12_complain lL_36 (by decide) (by decide) (by decide) (by decide) rfl rfl (by decide) dL_law_286 (by omega) (by omega) ok'.2.2.2.2.2.2.2.2 (fun r2 M' F' hq => ?_)
  refine ac_pop Z.1.1 dL_law_289 rfl ?_
  refine ac_goto (tgt := 468) Z.1.1 dL_law_290 (by decide) ?_
  exact lw_I.mono (by omega) (Nat.le_refl _) (hE u' M' F' _ ok' hq.1 (lw_B_eq hB hp hrow hq.2.1 hq.2.2) (by rw [hp]; omega))
theorem lw_c5 (Z : lw_Cx x D cT A l adK adV b L xs) (ht : 6 * t + 6 ≤ L) (ok : cl_ok h1 u) (hV : e_INV M F) (hB : lw_B u M F) (hks : ks + 8 * (cl_f u).toInt.toNat ≤ 171000 + 600 * t) (hE : lw_En x D cT A b h1 h2 ad t) : ac_G x A 4 (lw_I (ac_s x) D cT A (r_W h2 ad (cT 0) (cT 1) M F) u (80 + 20 * t) ks) 20000 2000000 293 (lw_lv b h1 h2 t) [] := by
  have hL := Z.2.2.2.2.2
  have hO := ok.2.2.2.2.2.2.2.2
  refine ac_aload_n Z.1.1 2 dL_law_293 rfl ?_
  refine lw_arg Z (k := 1) (by omega) dL_law_294 dL_law_295 dL_law_296 (by decide) dL_law_297 dL_law_298 ?_
  refine lw_arg Z (k := 2) (by omega) dL_law_299 dL_law_300 dL_law_301 (by decide) dL_law_302 dL_law_303 ?_
  refine lw_arg Z (k := 3) (by omega) dL_law_304 dL_law_305 dL_law_306 (by decide) dL_law_307 dL_law_308 ?_
  refine lw_arg Z (k := 4) (by omega) dL_law_309 dL_law_310 dL_law_311 (by decide) dL_law_312 dL_law_313 ?_
  refine lw_cu Z.1 Z.2.1 ok (cl_trialU ok (xs (6 * t + 1)) (xs (6 * t + 2)) (xs (6 * t + 3)) (xs (6 * t + 4))) kX11_trial lL_37 (by decide) (by decide) (Nat.le_trans (m := 20007) (by show 20000 + (7 - _) ≤ 20007; omega) (by decide)) (Nat.le_trans (m := 2114688) (by show 2000000 + (114688 - _) ≤ 2114688; omega) (by decide)) rfl rfl (by decide) dL_law_314 (by omega) (by omega) (fun r u' ok' hp hrow => ?_)
  refine ac_pop Z.1.1 dL_law_317 rfl ?_
  refine ac_aload_n Z.1.1 1 dL_law_318 rfl ?_
  refine lw_arg Z (k := 1) (by omega) dL_law_319 dL_law_320 dL_law_321 (by decide) dL_law_322 dL_law_323 ?_
  refine lw_arg Z (k := 2) (by omega) dL_law_324 dL_law_325 dL_law_326 (by decide) dL_law_327 dL_law_328 ?_
  refine lw_arg Z (k := 3) (by omega) dL_law_329 dL_law_330 dL_law_331 (by decide) dL_law_332 dL_law_333 ?_
  refine lw_arg Z (k := 4) (by omega) dL_law_334 dL_law_335 dL_law_336 (by decide) dL_law_337 dL_law_338 ?_
  refine lw_rc Z.1 Z.2.1 (so_trial (so_wf_dl 3) (xs (6 * t + 1)) (xs (6 * t + 2)) (xs (6 * t + 3)) (xs (6 * t + 4)) M F (fun _ M' F' => e_INV M' F' ∧ M' 1 = M 1 ∧ F' 0 = F 0) (fr_trial (A := M 1) (T := F 0) (Q := fun _ M' F' => e_INV M' F') (fr_dl 3) ⟨rfl, rfl⟩ (p_trial (by decide) hV (fun _ _ _ a _ => a)) (fun _ M' F' i q => (show e_INV M' F' ∧ M' 1 = M 1 ∧ F' 0 = F 0 from ⟨q, i.1, i.2⟩)))) kX12_trial lL_41 (by decide) (by decide) (by decide) (by decide) rfl rfl (by decide) dL_law_339 (by omega) (by omega) ok'.2.2.2.2.2.2.2.2 (fun r2 M' F' hq => ?_)
  refine ac_pop Z.1.1 dL_law_342 rfl ?_
  refine ac_goto (tgt := 468) Z.1.1 dL_law_343 (by decide) ?_
  exact lw_I.mono (by omega) (Nat.le_refl _) (hE u' M' F' _ ok' hq.1 (lw_B_eq hB hp hrow hq.2.1 hq.2.2) (by rw [hp]; omega))
theorem lw_c6 (Z : lw_Cx x D cT A l adK adV b L xs) (ht : 6 * t + 6 ≤ L) (ok : cl_ok h1 u) (hV : e_INV M F) (hB : lw_B u M F) (hks : ks + 8 * (cl_f u).toInt.toNat ≤ 171000 + 600 * t) (hE : lw_En x D cT A b h1 h2 ad t) : ac_G x A 4 (lw_I (ac_s x) D cT A (r_W h2 ad (cT 0) (cT 1) M F) u (80 + 20 * t) ks) 20000 2000000 346 (lw_lv b h1 h2 t) [] := by
  have hL := Z.2.2.2.2.2
  have hO := ok.2.2.2.2.2.2.2.2
  refine ac_aload_n Z.1.1 2 dL_law_346 rfl ?_
  refine lw_arg Z (k := 1) (by omega) dL_law_347 dL_law_348 dL_law_349 (by decide) dL_law_350 dL_law_351 ?_
  refine lw_cu Z.1 Z.2.1 ok (cl_aboutU ok (xs (6 * t + 1))) kX11_about lL_42 (by decide) (by decide) (Nat.le_trans (m := 20007) (by show 20000 + (7 - _) ≤ 20007; omega) (by decide)) (Nat.le_trans (m := 2114688) (by show 2000000 + (114688 - _) ≤ 2114688; omega) (by decide)) rfl rfl (by decide) dL_law_352 (by omega) (by omega) (fun r u' ok' hp hrow => ?_)
  refine ac_pop Z.1.1 dL_law_355 rfl ?_
  refine ac_aload_n Z.1.1 1 dL_law_356 rfl ?_
  refine lw_arg Z (k := 1) (by omega) dL_law_357 dL_law_358 dL_law_359 (by decide) dL_law_360 dL_law_361 ?_
  refine lw_rc Z.1 Z.2.1 (so_about (xs (6 * t + 1)) M F (fun _ M' F' => e_INV M' F' ∧ M' 1 = M 1 ∧ F' 0 = F 0) (p_about (fun _ => ⟨hV, rfl, rfl⟩))) kX12_about lL_45 (by decide) (by decide) (by decide) (by decide) rfl rfl (by decide) dL_law_362 (by omega) (by omega) ok'.2.2.2.2.2.2.2.2 (fun r2 M' F' hq => ?_)
  refine ac_pop Z.1.1 dL_law_365 rfl ?_
  refine ac_goto (tgt := 468) Z.1.1 dL_law_366 (by decide) ?_
  exact lw_I.mono (by omega) (Nat.le_refl _) (hE u' M' F' _ ok' hq.1 (lw_B_eq hB hp hrow hq.2.1 hq.2.2) (by rw [hp]; omega))
theorem lw_c7 (Z : lw_Cx x D cT A l adK adV b L xs) (ht : 6 * t + 6 ≤ L) (ok : cl_ok h1 u) (hV : e_INV M F) (hB : lw_B u M F) (hks : ks + 8 * (cl_f u).toInt.toNat ≤ 171000 + 600 * t) (hE : lw_En x D cT A b h1 h2 ad t) : ac_G x A 4 (lw_I (ac_s x) D cT A (r_W h2 ad (cT 0) (cT 1) M F) u (80 + 20 * t) ks) 20000 2000000 369 (lw_lv b h1 h2 t) [] := by
  have hL := Z.2.2.2.2.2
  have hO := ok.2.2.2.2.2.2.2.2
  refine ac_aload_n Z.1.1 2 dL_law_369 rfl ?_
  refine lw_arg Z (k := 1) (by omega) dL_law_370 dL_law_371 dL_law_372 (by decide) dL_law_373 dL_law_374 ?_
  refine lw_cu Z.1 Z.2.1 ok (cl_noteU ok (xs (6 * t + 1))) kX11_note lL_46 (by decide) (by decide) (Nat.le_trans (m := 20007) (by show 20000 + (7 - _) ≤ 20007; omega) (by decide)) (Nat.le_trans (m := 2114688) (by show 2000000 + (114688 - _) ≤ 2114688; omega) (by decide)) rfl rfl (by decide) dL_law_375 (by omega) (by omega) (fun r u' ok' hp hrow => ?_)
  refine ac_pop Z.1.1 dL_law_378 rfl ?_
  refine ac_aload_n Z.1.1 1 dL_law_379 rfl ?_
  refine lw_arg Z (k := 1) (by omega) dL_law_380 dL_law_381 dL_law_382 (by decide) dL_law_383 dL_law_384 ?_
  refine lw_rc Z.1 Z.2.1 (so_note_ (xs (6 * t + 1)) M F (fun _ M' F' => e_INV M' F' ∧ M' 1 = M 1 ∧ F' 0 = F 0) (p_note_ hV.2.2 (fun _ => ⟨hV, rfl, rfl⟩))) kX12_note_ lL_49 (by decide) (by decide) (by decide) (by decide) rfl rfl (by decide) dL_law_385 (by omega) (by omega) ok'.2.2.2.2.2.2.2.2 (fun r2 M' F' hq => ?_)
  refine ac_pop Z.1.1 dL_law_388 rfl ?_
  refine ac_goto (tgt := 468) Z.1.1 dL_law_389 (by decide) ?_
  exact lw_I.mono (by omega) (Nat.le_refl _) (hE u' M' F' _ ok' hq.1 (lw_B_eq hB hp hrow hq.2.1 hq.2.2) (by rw [hp]; omega))
theorem lw_c8 (Z : lw_Cx x D cT A l adK adV b L xs) (ht : 6 * t + 6 ≤ L) (ok : cl_ok h1 u) (hV : e_INV M F) (hB : lw_B u M F) (hks : ks + 8 * (cl_f u).toInt.toNat ≤ 171000 + 600 * t) (hE : lw_En x D cT A b h1 h2 ad t) : ac_G x A 4 (lw_I (ac_s x) D cT A (r_W h2 ad (cT 0) (cT 1) M F) u (80 + 20 * t) ks) 20000 2000000 392 (lw_lv b h1 h2 t) [] := by
  have hL := Z.2.2.2.2.2
  have hO := ok.2.2.2.2.2.2.2.2
  refine ac_aload_n Z.1.1 2 dL_law_392 rfl ?_
  refine lw_arg Z (k := 1) (by omega) dL_law_393 dL_law_394 dL_law_395 (by decide) dL_law_396 dL_law_397 ?_
  refine lw_arg Z (k := 2) (by omega) dL_law_398 dL_law_399 dL_law_400 (by decide) dL_law_401 dL_law_402 ?_
  refine lw_cu Z.1 Z.2.1 ok (cl_chainU ok (xs (6 * t + 1)) (xs (6 * t + 2))) kX11_chain lL_50 (by decide) (by decide) (Nat.le_trans (m := 20007) (by show 20000 + (7 - _) ≤ 20007; omega) (by decide)) (Nat.le_trans (m := 2114688) (by show 2000000 + (114688 - _) ≤ 2114688; omega) (by decide)) rfl rfl (by decide) dL_law_403 (by omega) (by omega) (fun r u' ok' hp hrow => ?_)
  refine ac_pop Z.1.1 dL_law_406 rfl ?_
  refine ac_aload_n Z.1.1 1 dL_law_407 rfl ?_
  refine lw_arg Z (k := 1) (by omega) dL_law_408 dL_law_409 dL_law_410 (by decide) dL_law_411 dL_law_412 ?_
  refine lw_arg Z (k := 2) (by omega) dL_law_413 dL_law_414 dL_law_415 (by decide) dL_law_416 dL_law_417 ?_
  refine lw_rc Z.1 Z.2.1 (so_chain (xs (6 * t + 1)) (xs (6 * t + 2)) M F (fun _ M' F' => e_INV M' F' ∧ M' 1 = M 1 ∧ F' 0 = F 0) (p_chain hV.2.2 (fun _ => ⟨hV, rfl, rfl⟩))) kX12_chain lL_54 (by decide) (by decide) (by decide) (by decide) rfl rfl (by decide) dL_law_418 (by omega) (by omega) ok'.2.2.2.2.2.2.2.2 (fun r2 M' F' hq => ?_)
  refine ac_pop Z.1.1 dL_law_421 rfl ?_
  refine ac_goto (tgt := 468) Z.1.1 dL_law_422 (by decide) ?_
  exact lw_I.mono (by omega) (Nat.le_refl _) (hE u' M' F' _ ok' hq.1 (lw_B_eq hB hp hrow hq.2.1 hq.2.2) (by rw [hp]; omega))
theorem lw_c9 (Z : lw_Cx x D cT A l adK adV b L xs) (ht : 6 * t + 6 ≤ L) (ok : cl_ok h1 u) (hV : e_INV M F) (hB : lw_B u M F) (hks : ks + 8 * (cl_f u).toInt.toNat ≤ 171000 + 600 * t) (hE : lw_En x D cT A b h1 h2 ad t) : ac_G x A 4 (lw_I (ac_s x) D cT A (r_W h2 ad (cT 0) (cT 1) M F) u (80 + 20 * t) ks) 20000 2000000 425 (lw_lv b h1 h2 t) [] := by
  have hL := Z.2.2.2.2.2
  have hO := ok.2.2.2.2.2.2.2.2
  refine ac_aload_n Z.1.1 2 dL_law_425 rfl ?_
  refine lw_arg Z (k := 1) (by omega) dL_law_426 dL_law_427 dL_law_428 (by decide) dL_law_429 dL_law_430 ?_
  refine lw_arg Z (k := 2) (by omega) dL_law_431 dL_law_432 dL_law_433 (by decide) dL_law_434 dL_law_435 ?_
  refine lw_arg Z (k := 3) (by omega) dL_law_436 dL_law_437 dL_law_438 (by decide) dL_law_439 dL_law_440 ?_
  refine lw_cu Z.1 Z.2.1 ok (cl_complaintU ok (xs (6 * t + 1)) (xs (6 * t + 2)) (xs (6 * t + 3))) kX11_complaint lL_55 (by decide) (by decide) (Nat.le_trans (m := 20007) (by show 20000 + (7 - _) ≤ 20007; omega) (by decide)) (Nat.le_trans (m := 2114688) (by show 2000000 + (114688 - _) ≤ 2114688; omega) (by decide)) rfl rfl (by decide) dL_law_441 (by omega) (by omega) (fun r u' ok' hp hrow => ?_)
  refine ac_pop Z.1.1 dL_law_444 rfl ?_
  refine ac_aload_n Z.1.1 1 dL_law_445 rfl ?_
  refine lw_arg Z (k := 1) (by omega) dL_law_446 dL_law_447 dL_law_448 (by decide) dL_law_449 dL_law_450 ?_
  refine lw_arg Z (k := 2) (by omega) dL_law_451 dL_law_452 dL_law_453 (by decide) dL_law_454 dL_law_455 ?_
  refine lw_arg Z (k := 3) (by omega) dL_law_456 dL_law_457 dL_law_458 (by decide) dL_law_459 dL_law_460 ?_
  refine lw_rc Z.1 Z.2.1 (so_complaint (xs (6 * t + 1)) (xs (6 * t + 2)) (xs (6 * t + 3)) M F (fun _ M' F' => e_INV M' F' ∧ M' 1 = M 1 ∧ F' 0 = F 0) (p_complaint hV.2.2 (fun _ => ⟨hV, rfl, rfl⟩))) kX12_complaint lL_58 (by decide) (by decide) (by decide) (by decide) rfl rfl (by decide) dL_law_461 (by omega) (by omega) ok'.2.2.2.2.2.2.2.2 (fun r2 M' F' hq => ?_)
  refine ac_pop Z.1.1 dL_law_464 rfl ?_
  refine ac_goto (tgt := 468) Z.1.1 dL_law_465 (by decide) ?_
  exact lw_I.mono (by omega) (Nat.le_refl _) (hE u' M' F' _ ok' hq.1 (lw_B_eq hB hp hrow hq.2.1 hq.2.2) (by rw [hp]; omega))
theorem lw_c0 (Z : lw_Cx x D cT A l adK adV b L xs) (ht : 6 * t + 6 ≤ L) (ok : cl_ok h1 u) (hV : e_INV M F) (hB : lw_B u M F) (hks : ks + 8 * (cl_f u).toInt.toNat ≤ 171000 + 600 * t) (hE : lw_En x D cT A b h1 h2 ad t) : ac_G x A 4 (lw_I (ac_s x) D cT A (r_W h2 ad (cT 0) (cT 1) M F) u (80 + 20 * t) ks) 20000 2000000 88 (lw_lv b h1 h2 t) [] := by
  have hL := Z.2.2.2.2.2
  have hO := ok.2.2.2.2.2.2.2.2
  obtain ⟨B, cc, hcc, hyB, hzB⟩ := hB
  have ef : (cl_f u).toInt = (cc : Int) := by rw [show cl_f u = nI cc from hyB.1, fs_nI (by omega)]
  refine ac_aload_n Z.1.1 2 dL_law_88 rfl ?_
  refine lw_arg Z (k := 1) (by omega) dL_law_89 dL_law_90 dL_law_91 (by decide) dL_law_92 dL_law_93 ?_
  refine lw_arg Z (k := 2) (by omega) dL_law_94 dL_law_95 dL_law_96 (by decide) dL_law_97 dL_law_98 ?_
  refine lw_arg Z (k := 3) (by omega) dL_law_99 dL_law_100 dL_law_101 (by decide) dL_law_102 dL_law_103 ?_
  refine lw_arg Z (k := 4) (by omega) dL_law_104 dL_law_105 dL_law_106 (by decide) dL_law_107 dL_law_108 ?_
  refine lw_arg Z (k := 5) (by omega) dL_law_109 dL_law_110 dL_law_111 (by decide) dL_law_112 dL_law_113 ?_
  refine lw_cs Z.1 Z.2.1 ok (cl_feedV ok (xs (6 * t + 1)) (xs (6 * t + 2)) (xs (6 * t + 3)) (xs (6 * t + 4)) (xs (6 * t + 5)) hyB hcc) kX11_feed lL_13 (by decide) (by decide) (Nat.le_trans (m := 20007) (by show 20000 + (7 - _) ≤ 20007; omega) (by decide)) (Nat.le_trans (m := 2114688) (by show 2000000 + (114688 - _) ≤ 2114688; omega) (by decide)) rfl rfl (by decide) dL_law_114 (by omega) (by omega) (fun r u' ok' hp => ?_)
  refine ac_pop Z.1.1 dL_law_117 rfl ?_
  refine ac_aload_n Z.1.1 1 dL_law_118 rfl ?_
  refine lw_arg Z (k := 1) (by omega) dL_law_119 dL_law_120 dL_law_121 (by decide) dL_law_122 dL_law_123 ?_
  refine lw_arg Z (k := 2) (by omega) dL_law_124 dL_law_125 dL_law_126 (by decide) dL_law_127 dL_law_128 ?_
  refine lw_arg Z (k := 3) (by omega) dL_law_129 dL_law_130 dL_law_131 (by decide) dL_law_132 dL_law_133 ?_
  refine lw_arg Z (k := 4) (by omega) dL_law_134 dL_law_135 dL_law_136 (by decide) dL_law_137 dL_law_138 ?_
  refine lw_arg Z (k := 5) (by omega) dL_law_139 dL_law_140 dL_law_141 (by decide) dL_law_142 dL_law_143 ?_
  refine lw_rc Z.1 Z.2.1 (so_feed (xs (6 * t + 1)) (xs (6 * t + 2)) (xs (6 * t + 3)) (xs (6 * t + 4)) (xs (6 * t + 5)) M F (fun _ M' F' => e_INV M' F' ∧ ((cc + 20 ≤ 4000 ∧ z_B M' F' (x_fd B cc (xs (6 * t + 1)) (xs (6 * t + 2)) (xs (6 * t + 3)) (xs (6 * t + 4)) (xs (6 * t + 5))) (cc + 20)) ∨ (4000 < cc + 20 ∧ z_B M' F' B cc))) (z_feed hzB hcc (xs (6 * t + 1)) (xs (6 * t + 2)) (xs (6 * t + 3)) (xs (6 * t + 4)) (xs (6 * t + 5)) (fun g M' F' z1 z2 => ⟨zo_INV hV z2 (by rw [z1.1, fs_nI (by omega)]; omega), Or.inl ⟨g, z1⟩⟩) (fun g => ⟨hV, Or.inr ⟨g, hzB⟩⟩))) kX12_feed lL_17 (by decide) (by decide) (by decide) (by decide) rfl rfl (Nat.le_of_ble_eq_true rfl) dL_law_144 (by omega) (by omega) ok'.2.2.2.2.2.2.2.2 (fun r2 M' F' hq => ?_)
  refine ac_pop Z.1.1 dL_law_147 rfl ?_
  refine ac_goto (tgt := 468) Z.1.1 dL_law_148 (by decide) ?_
  have hb : lw_B u' M' F' ∧ (cl_f u').toInt ≤ (cl_f u).toInt + 20 := by
    rcases hp with ⟨a1, a2, a3⟩ | ⟨a1, a2, a3⟩ <;> rcases hq.2 with ⟨c1, c2⟩ | ⟨c1, c2⟩
    · exact ⟨⟨_, _, a1, a3, c2⟩, by rw [show cl_f u' = nI (cc + 20) from a3.1, fs_nI (by omega), ef]; omega⟩
    · omega
    · omega
    · exact ⟨⟨_, _, hcc, a3, c2⟩, by rw [show cl_f u' = nI cc from a3.1, fs_nI (by omega), ef]; omega⟩
  exact lw_I.mono (by omega) (Nat.le_refl _) (hE u' M' F' _ ok' hq.1 hb.1 (by have := hb.2; omega))
theorem lw_c1 (Z : lw_Cx x D cT A l adK adV b L xs) (ht : 6 * t + 6 ≤ L) (ok : cl_ok h1 u) (hV : e_INV M F) (hB : lw_B u M F) (hks : ks + 8 * (cl_f u).toInt.toNat ≤ 171000 + 600 * t) (hE : lw_En x D cT A b h1 h2 ad t) : ac_G x A 4 (lw_I (ac_s x) D cT A (r_W h2 ad (cT 0) (cT 1) M F) u (80 + 20 * t) ks) 20000 2000000 151 (lw_lv b h1 h2 t) [] := by
  have hL := Z.2.2.2.2.2
  have hO := ok.2.2.2.2.2.2.2.2
  have hf := lw_B_f hB
  have f0 : 0 ≤ (cl_f u).toInt := ok.2.2.1.1
  have f1 : (cl_f u).toInt ≤ 4000 := ok.2.2.1.2
  have h27 : M 27 = 0 ∨ M 27 = 1 := by
    obtain ⟨G, E, T, V, hC⟩ := hV.2.1
    have b := hC.1.1
    have e0 : (0 : Int32).toInt = 0 := by decide
    have e1 : (1 : Int32).toInt = 1 := by decide
    have : (M 27).toInt = 0 ∨ (M 27).toInt = 1 := by omega
    rcases this with q | q
    · exact Or.inl (Int32.toInt_inj.mp (by rw [q, e0]))
    · exact Or.inr (Int32.toInt_inj.mp (by rw [q, e1]))
  refine ac_aload_n Z.1.1 2 dL_law_151 rfl ?_
  refine lw_arg Z (k := 1) (by omega) dL_law_152 dL_law_153 dL_law_154 (by decide) dL_law_155 dL_law_156 ?_
  have rest : ∀ (r : Int32) (u' : cl_S) (kc' ks' : Nat) (G : (Nat → Int32) → (Nat → Nat → Int32) → Prop), cl_ok h1 u' → 80 + 20 * t + kc' ≤ 80 + 20 * (t + 1) → ks' ≤ 40000 → ks + ks' + 8 * (cl_f u').toInt.toNat ≤ 171000 + 600 * (t + 1) → w_read (wf_blk 22) (xs (6 * t + 1)) M F (fun r2 M' F' => (e_INV M' F' ∧ G M' F') ∧ r2 = r) → (∀ M' F', G M' F' → lw_B u' M' F') → ac_G x A 4 (lw_I (ac_s x) D cT A (r_W h2 ad (cT 0) (cT 1) M F) u' (80 + 20 * t + kc') (ks + ks')) 20000 2000000 160 (lw_lv b h1 h2 t) [.int r] := by
    intro r u' kc' ks' G ok' hkc hks' hk9 hw hG
    refine ac_aload_n Z.1.1 1 dL_law_160 rfl ?_
    refine lw_arg Z (k := 1) (by omega) dL_law_161 dL_law_162 dL_law_163 (by decide) dL_law_164 dL_law_165 ?_
    refine lw_rc Z.1 Z.2.1 (so_read (so_wf_blk 22) (xs (6 * t + 1)) M F _ hw) kX12_read lL_22 (by decide) (by decide) (by decide) (by decide) rfl rfl (Nat.le_of_ble_eq_true rfl) dL_law_166 (by omega) (by omega) ok'.2.2.2.2.2.2.2.2 (fun r2 M' F' hq => ?_)
    refine ac_icmp_eq (tgt := 468) Z.1.1 dL_law_169 (by decide) (fun _ => ?_) (fun hc => absurd hq.2.symm hc)
    exact lw_I.mono hkc (Nat.le_refl _) (hE u' M' F' _ ok' hq.1.1 (hG M' F' hq.1.2) hk9)
  by_cases hacc : 0 ≤ (xs (6 * t + 1)).toInt ∧ (xs (6 * t + 1)).toInt ≤ (cl_f u).toInt
  · obtain ⟨n, hn, hnl⟩ : ∃ n : Nat, xs (6 * t + 1) = nI n ∧ (n : Int) ≤ (cl_f u).toInt := ⟨(xs (6 * t + 1)).toInt.toNat, Int32.toInt_inj.mp (by rw [lw_nI (by omega)]; omega), by omega⟩
    have hms := rd_ms_le n
    refine lw_cs Z.1 Z.2.1 ok (cl_read1V ok n hnl) kX11_read lL_18 (by decide) (by decide) (by decide) (Nat.le_trans (m := 2040000) (by show 2000000 + (15 + rd_ms n) ≤ 2040000; omega) (by decide)) rfl (by rw [hn]; rfl) (by decide) dL_law_157 (by omega) (by omega) (fun r u' ok' hp => ?_)
    obtain ⟨hp0, hRD⟩ := hp
    obtain ⟨B, cc, hcc, hyB, hzB⟩ := hB
    have ef : (cl_f u).toInt = (cc : Int) := by rw [show cl_f u = nI cc from hyB.1, fs_nI (by omega)]
    have hF : ∀ i, i < n → F 0 i = u.2.2.2.2.1 10 i &&& 255 := fun i hi => (hzB.2 i (by omega)).trans (hyB.2 i (by omega)).symm
    have hle : nI n ≤ M 1 := Int32.le_iff_toInt_le.mpr (by rw [fs_nI (by omega), ← hf]; exact hnl)
    refine rest r u' 19 (15 + rd_ms n) (fun M' _ => M' 1 = 0) ok' (by omega) (by omega) (by rw [hp0]; show ks + (15 + rd_ms n) + 8 * 0 ≤ _; omega) ?_ (fun M' F' h0 => lw_B_0 hp0 h0)
    rw [hn]
    refine hRD 22 M F _ hF h27 hle (p_read (e_BK_blk 22) (by decide) hV (fun _ M' F' a c => ⟨a, ?_⟩))
    rcases c with ⟨c1, c2⟩ | ⟨c1, c2⟩
    · have := fs_nI (n := n) (by omega)
      rw [← hf] at c1
      omega
    · exact c2
  · have hrej : (xs (6 * t + 1)).toInt < 0 ∨ (cl_f u).toInt < (xs (6 * t + 1)).toInt := by omega
    refine lw_cs Z.1 Z.2.1 ok (cl_read0V ok (xs (6 * t + 1)) hrej) kX11_read lL_18 (by decide) (by decide) (by decide) (by decide) rfl rfl (by decide) dL_law_157 (by omega) (by omega) (fun r u' ok' hp => ?_)
    obtain ⟨rfl, rfl⟩ := hp
    exact rest (-1) u' 0 0 (fun M' F' => M' = M ∧ F' = F) ok' (by omega) (by omega) (by omega) (re_rej (by rw [← hf]; exact hrej) ⟨⟨hV, rfl, rfl⟩, rfl⟩) (fun M' F' h0 => by rw [h0.1, h0.2]; exact hB)
end LWL
