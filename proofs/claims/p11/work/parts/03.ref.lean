/-! THE REFERENCE'S WORLD: one object of 88 fields and its 44 rows. M: what its fields of numbers hold, by their slots; F: what its rows hold. -/
def r_arrs : List (Nat × Nat × Bool) := [(0, 4020, false), (7, 2100, false), (8, 2100, false), (9, 2100, false), (10, 2100, false), (11, 2100, false), (13, 18000, false), (14, 18000, false), (15, 18000, false), (16, 18000, false), (17, 18000, false), (18, 800, false), (19, 800, false), (20, 800, false), (21, 800, false), (22, 800, false), (23, 800, false), (24, 800, false), (25, 800, false), (26, 800, false), (42, 700, false), (43, 700, false), (44, 700, false), (45, 700, false), (48, 8001, false), (49, 8001, false), (50, 8001, false), (51, 8001, false), (52, 8001, false), (53, 8001, true), (57, 144, false), (58, 96, false), (59, 12, false), (60, 12, false), (61, 12, false), (63, 260, false), (64, 260, false), (65, 260, false), (66, 260, false), (68, 64, false), (84, 200, false), (85, 21, false), (86, 21, false), (87, 3, false)]
def r_isA (k : Nat) : Bool := ([0, 7, 8, 9, 10, 11, 13, 14, 15, 16, 17, 18, 19, 20, 21, 22, 23, 24, 25, 26, 42, 43, 44, 45, 48, 49, 50, 51, 52, 53, 57, 58, 59, 60, 61, 63, 64, 65, 66, 68, 84, 85, 86, 87] : List Nat).elem k
def um (M : Nat → Int32) (k : Nat) (v : Int32) : Nat → Int32 := fun j => bif Nat.beq j k then v else M j
def uf (F : Nat → Nat → Int32) (k : Nat) (i v : Int32) : Nat → Nat → Int32 := fun j => bif Nat.beq j k then upd (F k) i.toNatClampNeg v else F j
theorem um_at (M : Nat → Int32) (k : Nat) (v : Int32) (j : Nat) : um M k v j = if j = k then v else M j := by
  unfold um
  by_cases h : j = k
  · subst h; simp [Nat.beq_refl]
  · have : Nat.beq j k = false := by
      cases hb : Nat.beq j k
      · rfl
      · exact absurd (Nat.eq_of_beq_eq_true hb) h
    simp [this, h]
theorem uf_at (F : Nat → Nat → Int32) (k : Nat) (i v : Int32) (j : Nat) : uf F k i v j = if j = k then upd (F k) i.toNatClampNeg v else F j := by
  unfold uf
  by_cases h : j = k
  · subst h; simp [Nat.beq_refl]
  · have : Nat.beq j k = false := by
      cases hb : Nat.beq j k
      · rfl
      · exact absurd (Nat.eq_of_beq_eq_true hb) h
    simp [this, h]
def r_val (ad : Nat → Nat) (M : Nat → Int32) (k : Nat) : Value := if r_isA k then .ref (ad k) else .int (M k)
def r_fs (ad : Nat → Nat) (M : Nat → Int32) : List Value := (List.range 88).map (r_val ad M)
def r_ent (ad : Nat → Nat) (cI cZ : ClassId) (F : Nat → Nat → Int32) (q : Nat × Nat × Bool) : Nat × va_E := (ad q.1, .inl (if q.2.2 then cZ else cI, q.2.1, .inl (F q.1)))
def r_W (h : Nat) (ad : Nat → Nat) (cI cZ : ClassId) (M : Nat → Int32) (F : Nat → Nat → Int32) : va_W := (h, .inr (12, r_fs ad M)) :: r_arrs.map (r_ent ad cI cZ F)
def r_T (cI cZ : ClassId) : List (ClassId × FieldType) := [(cI, .int), (cZ, .boolean)]
theorem r_fs_len (ad : Nat → Nat) (M : Nat → Int32) : (r_fs ad M).length = 88 := by simp [r_fs]
theorem r_fs_at (ad : Nat → Nat) (M : Nat → Int32) {k : Nat} (hk : k < 88) : (r_fs ad M)[k]? = some (r_val ad M k) := by
  simp [r_fs, hk]
theorem r_fs_set (ad : Nat → Nat) (M : Nat → Int32) {k : Nat} (ha : r_isA k = false) (v : Int32) : (r_fs ad M).set k (.int v) = r_fs ad (um M k v) := by
  apply List.ext_getElem?
  intro j
  by_cases hj : j < 88
  · rw [List.getElem?_set, r_fs_at ad _ hj, r_fs_at ad _ hj, r_fs_len]
    by_cases hjk : k = j
    · subst hjk
      simp [hj, r_val, ha, um_at]
    · rw [if_neg hjk]
      have : ¬ j = k := fun e => hjk e.symm
      simp [r_val, um_at, this]
  · rw [List.getElem?_eq_none (by simp [r_fs_len]; omega), List.getElem?_eq_none (by simp [r_fs_len]; omega)]
theorem r_W0 (h : Nat) (ad : Nat → Nat) (cI cZ : ClassId) (M : Nat → Int32) (F : Nat → Nat → Int32) : (r_W h ad cI cZ M F)[0]? = some (h, .inr (12, r_fs ad M)) := rfl
theorem r_Wput (h : Nat) (ad : Nat → Nat) (cI cZ : ClassId) (M : Nat → Int32) (F : Nat → Nat → Int32) {k : Nat} (ha : r_isA k = false) (v : Int32) : (r_W h ad cI cZ M F).set 0 (h, .inr (12, (r_fs ad M).set k (.int v))) = r_W h ad cI cZ (um M k v) F := by
  rw [r_fs_set ad M ha]
  rfl
theorem r_Wat (h : Nat) (ad : Nat → Nat) (cI cZ : ClassId) (M : Nat → Int32) (F : Nat → Nat → Int32) {i k n : Nat} {b : Bool} (hi : r_arrs[i]? = some (k, n, b)) : (r_W h ad cI cZ M F)[i + 1]? = some (ad k, .inl (if b then cZ else cI, n, .inl (F k))) := by
  simp [r_W, r_ent, hi]
theorem r_arrs_nd : ∀ i, i < 44 → ∀ j, j < 44 → (r_arrs[i]?).map (·.1) = (r_arrs[j]?).map (·.1) → i = j := by decide +kernel
theorem r_arrs_len : r_arrs.length = 44 := by decide
theorem r_Wast (h : Nat) (ad : Nat → Nat) (cI cZ : ClassId) (M : Nat → Int32) (F : Nat → Nat → Int32) {i k n : Nat} {b : Bool} (hi : r_arrs[i]? = some (k, n, b)) (x v : Int32) : (r_W h ad cI cZ M F).set (i + 1) (ad k, .inl (if b then cZ else cI, n, .inl (upd (F k) x.toNatClampNeg v))) = r_W h ad cI cZ M (uf F k x v) := by
  have hl : i < 44 := by rw [← r_arrs_len]; exact (List.getElem?_eq_some_iff.mp hi).1
  show (h, _) :: (r_arrs.map (r_ent ad cI cZ F)).set i _ = (h, _) :: r_arrs.map (r_ent ad cI cZ (uf F k x v))
  congr 1
  apply List.ext_getElem?
  intro j
  rw [List.getElem?_set]
  by_cases hij : i = j
  · subst hij
    rw [if_pos rfl, if_pos (by rw [List.length_map, r_arrs_len]; exact hl), List.getElem?_map, hi]
    simp [r_ent, uf_at]
  · rw [if_neg hij]
    simp only [List.getElem?_map]
    cases hj : r_arrs[j]? with
    | none => rfl
    | some q =>
      have hjl : j < 44 := by rw [← r_arrs_len]; exact (List.getElem?_eq_some_iff.mp hj).1
      have hne : ¬ q.1 = k := fun e => hij (r_arrs_nd i hl j hjl (by rw [hi, hj]; simp [e]))
      simp [r_ent, uf_at, hne]
def r_A (h : Nat) (ad : Nat → Nat) : Nat → Prop := fun q => q ∈ h :: r_arrs.map (fun e => ad e.1)
theorem r_Dmap {A : Nat → Prop} {w1 w2 : va_W} (e : w1.map (·.1) = w2.map (·.1)) (h : va_D A w1) : va_D A w2 := by
  have key : ∀ (k : Nat) (q : Nat × va_E), w2[k]? = some q → ∃ q0, w1[k]? = some q0 ∧ q0.1 = q.1 := by
    intro k q hk
    have h1 : (w2.map (·.1))[k]? = some q.1 := by simp [hk]
    rw [← e] at h1
    rw [List.getElem?_map] at h1
    cases h2 : w1[k]? with
    | none => rw [h2] at h1; cases h1
    | some q0 => rw [h2] at h1; exact ⟨q0, rfl, Option.some.inj h1⟩
  refine ⟨fun i j p q hi hj hpq => ?_, fun k q hk => ?_⟩
  · obtain ⟨p0, a1, a2⟩ := key i p hi
    obtain ⟨q0, b1, b2⟩ := key j q hj
    exact h.1 i j p0 q0 a1 b1 (by rw [a2, b2, hpq])
  · obtain ⟨q0, a1, a2⟩ := key k q hk
    rw [← a2]
    exact h.2 k q0 a1
theorem r_Wmap (h : Nat) (ad : Nat → Nat) (cI cZ : ClassId) (M M' : Nat → Int32) (F F' : Nat → Nat → Int32) : (r_W h ad cI cZ M F).map (·.1) = (r_W h ad cI cZ M' F').map (·.1) := by
  simp [r_W, r_ent]
theorem r_DA {h : Nat} {ad : Nat → Nat} {cI cZ : ClassId} {M : Nat → Int32} {F : Nat → Nat → Int32} {A : Nat → Prop} (hD : va_D A (r_W h ad cI cZ M F)) : va_D (r_A h ad) (r_W h ad cI cZ M F) := by
  refine ⟨hD.1, fun k q hk => ?_⟩
  have : q.1 ∈ (r_W h ad cI cZ M F).map (·.1) := List.mem_map.mpr ⟨q, List.mem_of_getElem? hk, rfl⟩
  simpa [r_W, r_ent, r_A] using this
/-- the four texts of the launch, their bytes -/
def s_len : List Nat := [178, 13, 142, 38]
def s_byt : List (List Int32) := [[104, 101, 97, 114, 105, 110, 103, 32, 108, 101, 116, 32, 104, 111, 108, 100, 32, 110, 111, 110, 101, 32, 99, 97, 117, 115, 101, 32, 98, 101, 99, 97, 117, 115, 101, 32, 114, 97, 105, 115, 101, 32, 106, 111, 105, 110, 32, 116, 111, 32, 110, 111, 116, 101, 32, 104, 101, 97, 114, 32, 105, 110, 116, 111, 32, 114, 101, 115, 116, 32, 105, 102, 32, 101, 108, 115, 101, 32, 119, 104, 105, 108, 101, 32, 116, 114, 121, 32, 117, 112, 104, 111, 108, 100, 32, 108, 97, 115, 116, 108, 121, 32, 103, 114, 111, 117, 110, 100, 32, 100, 97, 121, 115, 32, 119, 101, 105, 103, 104, 116, 32, 109, 97, 110, 121, 32, 115, 101, 114, 105, 97, 108, 32, 105, 115, 32, 115, 97, 109, 101, 32, 65, 110, 121, 32, 70, 111, 114, 109, 32, 76, 97, 116, 101, 32, 80, 97, 114, 116, 121, 32, 77, 101, 114, 105, 116, 32, 66, 105, 97, 115, 32, 80, 114, 111, 111, 102, 32], [123, 125, 40, 41, 44, 59, 61, 43, 45, 42, 47, 37, 60], [32, 104, 101, 97, 114, 105, 110, 103, 32, 108, 101, 116, 32, 104, 111, 108, 100, 32, 110, 111, 110, 101, 32, 99, 97, 117, 115, 101, 32, 98, 101, 99, 97, 117, 115, 101, 32, 114, 97, 105, 115, 101, 32, 106, 111, 105, 110, 32, 116, 111, 32, 110, 111, 116, 101, 32, 104, 101, 97, 114, 32, 105, 110, 116, 111, 32, 114, 101, 115, 116, 32, 105, 102, 32, 101, 108, 115, 101, 32, 119, 104, 105, 108, 101, 32, 116, 114, 121, 32, 117, 112, 104, 111, 108, 100, 32, 108, 97, 115, 116, 108, 121, 32, 103, 114, 111, 117, 110, 100, 32, 100, 97, 121, 115, 32, 119, 101, 105, 103, 104, 116, 32, 109, 97, 110, 121, 32, 115, 101, 114, 105, 97, 108, 32, 105, 115, 32, 115, 97, 109, 101, 32], [32, 65, 110, 121, 32, 70, 111, 114, 109, 32, 76, 97, 116, 101, 32, 80, 97, 114, 116, 121, 32, 77, 101, 114, 105, 116, 32, 66, 105, 97, 115, 32, 80, 114, 111, 111, 102, 32]]
def s_own (i : Nat) : String := (["AppealCourt$Lexicon", "AppealCourt$Tokens", "AppealCourtModel", "AppealCourtModel"] : List String).getD i ""
def s_ix (i : Nat) : Nat := ([30, 86, 210, 212] : List Nat).getD i 0
def s_tx (i : Nat) : String := (["hearing let hold none cause because raise join to note hear into rest if else while try uphold lastly ground days weight many serial is same Any Form Late Party Merit Bias Proof ", "{}(),;=+-*/%<", " hearing let hold none cause because raise join to note hear into rest if else while try uphold lastly ground days weight many serial is same ", " Any Form Late Party Merit Bias Proof "] : List String).getD i ""
def st_K (adK adV : Nat → Nat) (A : Nat → Prop) (U : State) (H : Heap) : Prop := vk_S 4 s_len s_byt adK adV A U H ∧ (∀ i, i < 4 → vk_R (s_own i) (s_ix i) (s_tx i) (adK i) U) ∧ va_Z "java/lang/String" "COMPACT_STRINGS" "Z" (.int 1) A U H ∧ va_Zq "jdk/internal/util/Preconditions" "SIOOBE_FORMATTER" "Ljava/util/function/BiFunction;" A U H
theorem st_K.go {adK adV : Nat → Nat} {A : Nat → Prop} {u U : State} {H H1 : Heap} (hW : u.WarmedH U.vm) (hh : ∀ a : Nat, a < H.size → ¬ A a → H1[a]? = H[a]?) (h : st_K adK adV A u H) : st_K adK adV A U H1 := by
  refine ⟨(h.1.moved hW.alike).kept hh, fun i hi => (h.2.1 i hi).warm hW, (h.2.2.1.moved hW.alike).kept hh, ?_⟩
  rcases h.2.2.2 with q | ⟨t, q⟩
  · exact Or.inl ((q.moved hW.alike).kept hh)
  · exact Or.inr ⟨t, (q.moved hW.alike).kept hh⟩
/-- the statics of a walk: where the object, its rows and the texts lie -/
abbrev r_S : Type := va_G × Nat × (Nat → Nat) × ClassId × ClassId × (Nat → Nat) × (Nat → Nat)
def r_P (g : r_S) (M : Nat → Int32) (F : Nat → Nat → Int32) (H : Heap) : Prop := match g with
  | (D, h, ad, cI, cZ, _, _) => va_P D ac_cl (r_W h ad cI cZ M F) H
def r_K (g : r_S) (U : State) : Prop := match g with
  | (D, h, ad, cI, cZ, adK, adV) => va_K D ac_cl (r_T cI cZ) U ∧ va_D (r_A h ad) (r_W h ad cI cZ (fun _ => 0) (fun _ _ => 0)) ∧ st_K adK adV (r_A h ad) U U.heap
def r_R (g : r_S) : Nat → Prop := match g with
  | (_, h, ad, _, _, _, _) => r_A h ad
def r_h (g : r_S) : Nat := g.2.1
def r_ad (g : r_S) : Nat → Nat := g.2.2.1
/-- the room of a method that calls rk deep -/
def ac_room (rk : Nat) : Room := { frames := rk, cells := 0, slots := 0, locals := 40 * rk }
def ac_Rk (x : ac_X) (rk : Nat) : Prop := match x with
  | (_, _, _, R, _) => R = ac_room rk
def r_KX (g : r_S) (x : ac_X) : Prop := match x with
  | (_, _, _, _, s, _) => r_K g s
theorem r_K.go {g : r_S} {u U : State} (hW : u.WarmedH U.vm) (hh : ∀ a : Nat, a < u.heap.size → ¬ r_R g a → U.heap[a]? = u.heap[a]?) (h : r_K g u) : r_K g U := by
  obtain ⟨D, h0, ad, cI, cZ, adK, adV⟩ := g
  exact ⟨va_K.moved hW.alike h.1, h.2.1, h.2.2.go hW hh⟩
theorem r_K.D {D : va_G} {h0 : Nat} {ad : Nat → Nat} {cI cZ : ClassId} {adK adV : Nat → Nat} {U : State} (h : r_K (D, h0, ad, cI, cZ, adK, adV) U) (M : Nat → Int32) (F : Nat → Nat → Int32) : va_D (r_A h0 ad) (r_W h0 ad cI cZ M F) := r_Dmap (r_Wmap h0 ad cI cZ _ _ _ _) h.2.1
theorem r_TX12_own : ∀ k, k < 88 → (TX12 k).1 = RX12 := by decide +kernel
set_option maxRecDepth 20000 in
theorem r_inX12_0 : wsX120 = [1323, 1325, 1327, 1329, 1331, 1333, 1335, 1337, 1339, 1341, 1343, 1345, 1347, 1349, 1351, 1353, 1355, 1357, 1359, 1361, 1363, 1365, 1367, 1369, 1371, 1373, 1375, 1377, 1379, 1381, 1383, 1385, 1387, 1389, 1391, 1393, 1395, 1397, 1399, 1401, 1403, 1405, 1407, 1409, 1411, 1413, 1415, 1417, 1419, 1421, 1423, 1425, 1427, 1429, 1431, 1433, 1435, 1437, 1439, 1441, 1443, 1445, 1447, 1449, 1451, 1453, 1455, 1457, 1459, 1461, 1463, 1465, 1467, 1469, 1471, 1473, 1475, 1477, 1479, 1481, 1483, 1485, 1487, 1489, 1491, 1493, 1495, 1497].filterMap (fun i => lw_tbl[i]?) := by decide +kernel
theorem r_inX12_1 : wsX120.all goodWord = true := by decide +kernel
theorem r_inX12 : ∀ w ∈ u_ws RX12 TX12 88, w ∈ ac_tbl := by
  intro w hw
  have hg := List.all_eq_true.mp r_inX12_1 w hw
  have hw2 : w ∈ wsX120 := hw
  rw [r_inX12_0] at hw2
  obtain ⟨i, -, hi⟩ := List.mem_filterMap.mp hw2
  exact ac_in i hi hg
section RF
variable {x : ac_X} {g : r_S} {nL : Nat} {M : Nat → Int32} {F : Nat → Nat → Int32} {pc : Nat} {lv : List (Nat × Value)} {st : List Value} {cc : ByteArray} {own : String}
theorem r_geti (C : ac_C x cc nL RX12) (K : r_KX g x) (k : Nat) (hk : k < 88) (ha : r_isA k = false) {index : Nat} (hl : Cond.fieldLink RX12 index RX12 (TX12 k).2.1 (TX12 k).2.2.1 ∈ ac_tbl) {h : Nat} (hh : r_h g = h) {v : Int32} (hv : M k = v) (hd : decode cc pc = .ok (.getfield index, 3))
    (kk : ac_G x (r_R g) nL (r_P g M F) 0 0 (pc + 3) lv (.int v :: st)) : ac_G x (r_R g) nL (r_P g M F) 0 0 pc lv (.ref h :: st) := by
  obtain ⟨p, l, e, R, s, m, args, below, meth, c, Q⟩ := x
  obtain ⟨D, h0, ad, cI, cZ, adK, adV⟩ := g
  cases hh
  subst hv
  intro H locs ls hP hS hlv
  exact va_get (C := RX12) (T := TX12) (N := 88) C.1 C.2.1 C.2.2.2.2 r_inX12 C.2.2.2.1 K.1 hP 0 (r_W0 _ _ _ _ _ _) rfl k hk (C.2.2.2.2 _ hl) (fun q h9 => by rw [r_TX12_own k hk] at h9; exact h9) (v := .int (M k)) (by rw [r_fs_at _ _ hk]; simp [r_val, ha]) hd (kk H locs ls hP hS hlv)
theorem r_geta (C : ac_C x cc nL RX12) (K : r_KX g x) (k : Nat) (hk : k < 88) (ha : r_isA k = true) {index : Nat} (hl : Cond.fieldLink RX12 index RX12 (TX12 k).2.1 (TX12 k).2.2.1 ∈ ac_tbl) {h : Nat} (hh : r_h g = h) (hd : decode cc pc = .ok (.getfield index, 3))
    (kk : ac_G x (r_R g) nL (r_P g M F) 0 0 (pc + 3) lv (.ref (r_ad g k) :: st)) : ac_G x (r_R g) nL (r_P g M F) 0 0 pc lv (.ref h :: st) := by
  obtain ⟨p, l, e, R, s, m, args, below, meth, c, Q⟩ := x
  obtain ⟨D, h0, ad, cI, cZ, adK, adV⟩ := g
  cases hh
  intro H locs ls hP hS hlv
  exact va_get (C := RX12) (T := TX12) (N := 88) C.1 C.2.1 C.2.2.2.2 r_inX12 C.2.2.2.1 K.1 hP 0 (r_W0 _ _ _ _ _ _) rfl k hk (C.2.2.2.2 _ hl) (fun q h9 => by rw [r_TX12_own k hk] at h9; exact h9) (v := .ref (ad k)) (by rw [r_fs_at _ _ hk]; simp [r_val, ha]) hd (kk H locs ls hP hS hlv)
theorem r_put (C : ac_C x cc nL RX12) (K : r_KX g x) (k : Nat) (hk : k < 88) (ha : r_isA k = false) (hf : (TX12 k).2.2.2 = false) (ht : tyX12 k = .int) {index : Nat} (hl : Cond.fieldLink RX12 index RX12 (TX12 k).2.1 (TX12 k).2.2.1 ∈ ac_tbl) {h : Nat} (hh : r_h g = h) {v : Int32} (hd : decode cc pc = .ok (.putfield index, 3))
    (kk : ac_G x (r_R g) nL (r_P g (um M k v) F) 0 0 (pc + 3) lv st) : ac_G x (r_R g) nL (r_P g M F) 0 0 pc lv (.int v :: .ref h :: st) := by
  obtain ⟨p, l, e, R, s, m, args, below, meth, c, Q⟩ := x
  obtain ⟨D, h0, ad, cI, cZ, adK, adV⟩ := g
  cases hh
  intro H locs ls hP hS hlv
  refine va_put (C := RX12) (T := TX12) (N := 88) (ty := .int) C.1 C.2.1 C.2.2.2.2 r_inX12 tyX12 tyX12_ok nmX12 C.2.2.2.1 K.1 hP (K.D M F) hS 0 (r_W0 _ _ _ _ _ _) rfl k hk (C.2.2.2.2 _ hl) (fun q h9 => by rw [r_TX12_own k hk] at h9; exact h9) hf (by rw [tyX12_ok k hk, ht]) rfl rfl (by rw [r_fs_len]; exact hk) hd (fun H1 locs1 hP1 _ hS1 => ?_)
  rw [r_Wput _ _ _ _ _ _ ha] at hP1
  exact kk H1 locs1 ls hP1 hS1 hlv
theorem r_putZ (C : ac_C x cc nL RX12) (K : r_KX g x) (k : Nat) (hk : k < 88) (ha : r_isA k = false) (hf : (TX12 k).2.2.2 = false) (ht : tyX12 k = .boolean) {index : Nat} (hl : Cond.fieldLink RX12 index RX12 (TX12 k).2.1 (TX12 k).2.2.1 ∈ ac_tbl) {h : Nat} (hh : r_h g = h) {v : Int32} (hv : narrow .boolean (.int v) = .int v ∧ fits .boolean (.int v) = true) (hd : decode cc pc = .ok (.putfield index, 3))
    (kk : ac_G x (r_R g) nL (r_P g (um M k v) F) 0 0 (pc + 3) lv st) : ac_G x (r_R g) nL (r_P g M F) 0 0 pc lv (.int v :: .ref h :: st) := by
  obtain ⟨p, l, e, R, s, m, args, below, meth, c, Q⟩ := x
  obtain ⟨D, h0, ad, cI, cZ, adK, adV⟩ := g
  cases hh
  intro H locs ls hP hS hlv
  refine va_put (C := RX12) (T := TX12) (N := 88) (ty := .boolean) C.1 C.2.1 C.2.2.2.2 r_inX12 tyX12 tyX12_ok nmX12 C.2.2.2.1 K.1 hP (K.D M F) hS 0 (r_W0 _ _ _ _ _ _) rfl k hk (C.2.2.2.2 _ hl) (fun q h9 => by rw [r_TX12_own k hk] at h9; exact h9) hf (by rw [tyX12_ok k hk, ht]) hv.1 hv.2 (by rw [r_fs_len]; exact hk) hd (fun H1 locs1 hP1 _ hS1 => ?_)
  rw [r_Wput _ _ _ _ _ _ ha] at hP1
  exact kk H1 locs1 ls hP1 hS1 hlv
theorem r_ald (C : ac_C x cc nL own) (K : r_KX g x) (i k n : Nat) (hi : r_arrs[i]? = some (k, n, false)) {a : Nat} (hh : r_ad g k = a) {j v : Int32} (hj : vp_in j n) (hv : F k j.toNatClampNeg = v) (hd : decode cc pc = .ok (.iaload, 1))
    (kk : ac_G x (r_R g) nL (r_P g M F) 0 0 (pc + 1) lv (.int v :: st)) : ac_G x (r_R g) nL (r_P g M F) 0 0 pc lv (.int j :: .ref a :: st) := by
  obtain ⟨p, l, e, R, s, m, args, below, meth, c, Q⟩ := x
  obtain ⟨D, h0, ad, cI, cZ, adK, adV⟩ := g
  cases hh
  subst hv
  intro H locs ls hP hS hlv
  exact va_iald C.1 C.2.1 K.1 hP (i + 1) 0 (r_Wat _ _ _ _ _ _ hi) rfl hj hd (kk H locs ls hP hS hlv)
theorem r_zald (C : ac_C x cc nL own) (K : r_KX g x) (i k n : Nat) (hi : r_arrs[i]? = some (k, n, true)) {a : Nat} (hh : r_ad g k = a) {j v : Int32} (hj : vp_in j n) (hv : F k j.toNatClampNeg = v) (hd : decode cc pc = .ok (.baload, 1))
    (kk : ac_G x (r_R g) nL (r_P g M F) 0 0 (pc + 1) lv (.int v :: st)) : ac_G x (r_R g) nL (r_P g M F) 0 0 pc lv (.int j :: .ref a :: st) := by
  obtain ⟨p, l, e, R, s, m, args, below, meth, c, Q⟩ := x
  obtain ⟨D, h0, ad, cI, cZ, adK, adV⟩ := g
  cases hh
  subst hv
  intro H locs ls hP hS hlv
  exact va_zald C.1 C.2.1 K.1 hP (i + 1) 1 (r_Wat _ _ _ _ _ _ hi) rfl hj hd (kk H locs ls hP hS hlv)
theorem r_ast (C : ac_C x cc nL own) (K : r_KX g x) (i k n : Nat) (hi : r_arrs[i]? = some (k, n, false)) {a : Nat} (hh : r_ad g k = a) {j v : Int32} (hj : vp_in j n) (hd : decode cc pc = .ok (.iastore, 1))
    (kk : ac_G x (r_R g) nL (r_P g M (uf F k j v)) 0 0 (pc + 1) lv st) : ac_G x (r_R g) nL (r_P g M F) 0 0 pc lv (.int v :: .int j :: .ref a :: st) := by
  obtain ⟨p, l, e, R, s, m, args, below, meth, c, Q⟩ := x
  obtain ⟨D, h0, ad, cI, cZ, adK, adV⟩ := g
  cases hh
  intro H locs ls hP hS hlv
  refine va_iast C.1 C.2.1 K.1 hP (K.D M F) hS (i + 1) 0 (r_Wat _ _ _ _ _ _ hi) rfl hj hd (fun H1 locs1 hP1 _ hS1 => ?_)
  have hw := r_Wast h0 ad cI cZ M F hi j v
  exact kk H1 locs1 ls (by show va_P _ _ _ _; rw [← hw]; exact hP1) hS1 hlv
theorem r_zast (C : ac_C x cc nL own) (K : r_KX g x) (i k n : Nat) (hi : r_arrs[i]? = some (k, n, true)) {a : Nat} (hh : r_ad g k = a) {j v w : Int32} (hj : vp_in j n) (hw9 : vp_nar .boolean v = w) (hd : decode cc pc = .ok (.bastore, 1))
    (kk : ac_G x (r_R g) nL (r_P g M (uf F k j w)) 0 0 (pc + 1) lv st) : ac_G x (r_R g) nL (r_P g M F) 0 0 pc lv (.int v :: .int j :: .ref a :: st) := by
  obtain ⟨p, l, e, R, s, m, args, below, meth, c, Q⟩ := x
  obtain ⟨D, h0, ad, cI, cZ, adK, adV⟩ := g
  cases hh
  subst hw9
  intro H locs ls hP hS hlv
  refine va_zast C.1 C.2.1 K.1 hP (K.D M F) hS (i + 1) 1 (r_Wat _ _ _ _ _ _ hi) rfl hj hd (fun H1 locs1 hP1 _ hS1 => ?_)
  have hw := r_Wast h0 ad cI cZ M F hi j (vp_nar .boolean v)
  exact kk H1 locs1 ls (by show va_P _ _ _ _; rw [← hw]; exact hP1) hS1 hlv
end RF
/-- a method of the reference: from the state (M, F) with these values, it returns, and Q holds of its answer and of the state behind it -/
abbrev r_St : Type := (Nat → Int32) × (Nat → Nat → Int32)
def r_Pre (g : r_S) (M : Nat → Int32) (F : Nat → Nat → Int32) (U : State) : Prop := r_P g M F U.heap ∧ r_K g U
def r_MetI (l : Launch) (g : r_S) (y : MethodName) (cc : ByteArray) (nL : Nat) (ret : FieldType) (rk : Nat) (av : List Value) (M : Nat → Int32) (F : Nat → Nat → Int32) (Q : Int32 → (Nat → Int32) → (Nat → Nat → Int32) → Prop) : Prop :=
  Met l y (.code y cc nL (some ret) :: ac_tbl) (ac_room rk) (va_Pc av (r_Pre g M F)) (va_Qi (fun r (u : r_St) => Q r u.1 u.2) (fun u t => r_P g u.1 u.2 t.heap) (r_R g)) 0 0 (r_R g)
def r_MetV (l : Launch) (g : r_S) (y : MethodName) (cc : ByteArray) (nL : Nat) (rk : Nat) (av : List Value) (M : Nat → Int32) (F : Nat → Nat → Int32) (Q : (Nat → Int32) → (Nat → Nat → Int32) → Prop) : Prop :=
  Met l y (.code y cc nL none :: ac_tbl) (ac_room rk) (va_Pc av (r_Pre g M F)) (va_Qv (fun (u : r_St) => Q u.1 u.2) (fun u t => r_P g u.1 u.2 t.heap) (r_R g)) 0 0 (r_R g)
/-- the rule of 'ireturn' of a walk -/
def r_RI (x : ac_X) (g : r_S) (nL : Nat) (cc : ByteArray) (ret : FieldType) (Q : Int32 → (Nat → Int32) → (Nat → Nat → Int32) → Prop) : Prop := ∀ (pc : Nat) (lv : List (Nat × Value)) (r : Int32) (M : Nat → Int32) (F : Nat → Nat → Int32), decode cc pc = .ok (.ireturn, 1) → narrow ret (.int r) = .int r → Q r M F → ac_G x (r_R g) nL (r_P g M F) 0 0 pc lv [.int r]
def r_RV (x : ac_X) (g : r_S) (nL : Nat) (cc : ByteArray) (Q : (Nat → Int32) → (Nat → Nat → Int32) → Prop) : Prop := ∀ (pc : Nat) (lv : List (Nat × Value)) (M : Nat → Int32) (F : Nat → Nat → Int32), decode cc pc = .ok (.return_, 1) → Q M F → ac_G x (r_R g) nL (r_P g M F) 0 0 pc lv []
/-- what a walk of a method of the reference has at hand -/
def r_Cx (x : ac_X) (g : r_S) (l : Launch) (cc : ByteArray) (nL rk : Nat) : Prop := ac_C x cc nL RX12 ∧ r_KX g x ∧ ac_Rk x rk ∧ x.2.1 = l
theorem r_MetI.of {l : Launch} {g : r_S} {y : MethodName} {cc : ByteArray} {nL : Nat} {ret : FieldType} {rk : Nat} {av : List Value} {M : Nat → Int32} {F : Nat → Nat → Int32} {Q : Int32 → (Nat → Int32) → (Nat → Nat → Int32) → Prop} (hy : plainName y.cls = true) (ho : y.cls = RX12) (hn : (lg_sl av).length ≤ nL)
    (body : ∀ x : ac_X, r_Cx x g l cc nL rk → r_RI x g nL cc ret Q → ac_G x (r_R g) nL (r_P g M F) 0 0 0 (lv_args 0 av) []) : r_MetI l g y cc nL ret rk av M F Q := by
  refine Met.ofW (cc := cc) (maxL := nL) (ret := some ret) hy rfl ?_
  intro p e s m args below meth c s₁ B hml hv
  obtain ⟨rfl, hP, hK⟩ := hv
  have hts := atoms_spec (ws := .code y cc nL (some ret) :: ac_tbl) B.pre
  have hown : s.vm.findClass RX12 = some m.cls := by rw [← ho]; exact findClass_of_methodNamed B.named
  have hlocks := B.notSynchronized
  have hl := lv_entry av (n := nL) hn
  rw [lg_entry_eq]
  refine body (p, l, e, _, s, m, _, below, meth, c, _) ⟨⟨B.exec, B.bytes, hml, hown, fun w hw => hts w (List.mem_cons_of_mem _ hw)⟩, hK, rfl, rfl⟩ ?_ s.heap [] _ hP va_S.rf hl
  intro pc lv r M' F' hd hn9 hq H locs ls hP' hS' _
  exact W.zret (v := r) (ty := ret) B.exec B.bytes B.returns hn9 (fun t ht hW => ⟨⟨r, (M', F'), rfl, hq, by show r_P g M' F' t.heap; rw [ht]; exact hP'⟩, by rw [va_F, ht]; exact ⟨hS'.1, hS'.2.1⟩⟩) hS'.2.2 hd
theorem r_MetV.of {l : Launch} {g : r_S} {y : MethodName} {cc : ByteArray} {nL : Nat} {rk : Nat} {av : List Value} {M : Nat → Int32} {F : Nat → Nat → Int32} {Q : (Nat → Int32) → (Nat → Nat → Int32) → Prop} (hy : plainName y.cls = true) (ho : y.cls = RX12) (hn : (lg_sl av).length ≤ nL)
    (body : ∀ x : ac_X, r_Cx x g l cc nL rk → r_RV x g nL cc Q → ac_G x (r_R g) nL (r_P g M F) 0 0 0 (lv_args 0 av) []) : r_MetV l g y cc nL rk av M F Q := by
  refine Met.ofW (cc := cc) (maxL := nL) (ret := none) hy rfl ?_
  intro p e s m args below meth c s₁ B hml hv
  obtain ⟨rfl, hP, hK⟩ := hv
  have hts := atoms_spec (ws := .code y cc nL none :: ac_tbl) B.pre
  have hown : s.vm.findClass RX12 = some m.cls := by rw [← ho]; exact findClass_of_methodNamed B.named
  have hlocks := B.notSynchronized
  have hl := lv_entry av (n := nL) hn
  rw [lg_entry_eq]
  refine body (p, l, e, _, s, m, _, below, meth, c, _) ⟨⟨B.exec, B.bytes, hml, hown, fun w hw => hts w (List.mem_cons_of_mem _ hw)⟩, hK, rfl, rfl⟩ ?_ s.heap [] _ hP va_S.rf hl
  intro pc lv M' F' hd hq H locs ls hP' hS' _
  exact W.vret B.exec B.bytes B.returns (fun t ht hW => ⟨⟨(M', F'), rfl, hq, by show r_P g M' F' t.heap; rw [ht]; exact hP'⟩, by rw [va_F, ht]; exact ⟨hS'.1, hS'.2.1⟩⟩) hS'.2.2 hd
/-- the words of a callee that is chosen by its object, or static -/
def ac_vw (C : String) (y : MethodName) (cc : ByteArray) (nL : Nat) (ret : Option FieldType) (n : Nat) : Prop := y.cls = C ∧ C ≠ "java/lang/invoke/MethodHandle" ∧ C ≠ "java/lang/invoke/VarHandle" ∧ (parseMethodDescriptor y.desc).map (fun d => d.parameters.length) = some n ∧ nL ≤ 21 ∧ Cond.instanceMethod y ∈ ac_tbl ∧ Cond.selects C y y ∈ ac_tbl ∧ Cond.initialized C ∈ ac_tbl ∧ Cond.code y cc nL ret ∈ ac_tbl
def ac_sw (C : String) (y : MethodName) (cc : ByteArray) (nL : Nat) (ret : Option FieldType) (n : Nat) : Prop := y.cls = C ∧ C ≠ "java/lang/invoke/MethodHandle" ∧ C ≠ "java/lang/invoke/VarHandle" ∧ (parseMethodDescriptor y.desc).map (fun d => d.parameters.length) = some n ∧ nL ≤ 21 ∧ Cond.static y ∈ ac_tbl ∧ Cond.initialized C ∈ ac_tbl ∧ Cond.code y cc nL ret ∈ ac_tbl
theorem ac_pay {s : State} {args : Array Value} (hts : ∀ w ∈ ac_tbl, w.before args s = true) {w0 : Cond} (h0 : w0 ∈ ac_tbl) : ∀ w ∈ w0 :: ac_tbl, ∀ (a' : Array Value) (U : State), s.WarmedH U.vm → w.before a' U = true := by
  intro w hw a' U hW
  have hm : w ∈ ac_tbl := (List.mem_cons.mp hw).elim (fun e => e ▸ h0) id
  exact word_at hW (ac_tbl_good hm) (hts w hm)
theorem ac_callB {R : Room} {s : State} {args : Array Value} {own : String} {index : Nat} {y : MethodName} {cc : ByteArray} {nL : Nat} {ret : Option FieldType} {n rk rk0 : Nat} (hts : ∀ w ∈ ac_tbl, w.before args s = true) (hR : R = ac_room rk0) (hk : rk + 1 ≤ rk0) (h1 : y.cls ≠ "java/lang/invoke/MethodHandle") (h2 : y.cls ≠ "java/lang/invoke/VarHandle") (h3 : (parseMethodDescriptor y.desc).map (fun d => d.parameters.length) = some n) (h4 : nL ≤ 21) (h5 : Cond.initialized y.cls ∈ ac_tbl) (h6 : Cond.code y cc nL ret ∈ ac_tbl) (hl : Cond.methodLink own index y ∈ ac_tbl) : CallB R s args own index y cc nL ret (.code y cc nL ret :: ac_tbl) (ac_room rk) 0 0 n := by
  subst hR
  refine ⟨rfl, rfl, hk, ?_, ac_pay hts h6, List.mem_cons_self, hts _ h6, hts _ h5, ⟨h1, h2⟩, fun sig h => ?_, hts _ hl⟩
  · show 8 + (nL + 11) + 40 * rk ≤ 40 * rk0
    omega
  · rw [h] at h3
    exact (Option.some.inj h3).symm
section RC
variable {x : ac_X} {g : r_S} {l : Launch} {cc0 : ByteArray} {nL0 rk0 : Nat} {M : Nat → Int32} {F : Nat → Nat → Int32} {pc : Nat} {lv : List (Nat × Value)} {st st0 : List Value} {y : MethodName} {cc : ByteArray} {nL rk n index : Nat} {As : List Value}
theorem r_blind {av : List Value} : FrameBlind (va_Pc av (r_Pre g M F)) := fun a U g9 mk q => ⟨q.1, q.2.1, r_K.go (U := U.calling g9 mk a) (State.WarmedH.refl U) (fun _ _ _ => rfl) q.2.2⟩
theorem r_calli (Z : r_Cx x g l cc0 nL0 rk0) {ret : FieldType} {Q : Int32 → (Nat → Int32) → (Nat → Nat → Int32) → Prop} (hw : ac_vw RX12 y cc nL (some ret) n) (hl : Cond.methodLink RX12 index y ∈ ac_tbl) (hk : rk + 1 ≤ rk0) {h : Nat} (hh : r_h g = h) (hM : r_MetI l g y cc nL ret rk (.ref h :: As) M F Q) (hn : As.length = n) (hs : st0 = As.reverse ++ .ref h :: st) (hr : (st.map fun v => v.category).sum ≤ 8) (hd : decode cc0 pc = .ok (.invokevirtual index, 3))
    (kk : ∀ r M' F', Q r M' F' → ac_G x (r_R g) nL0 (r_P g M' F') 0 0 (pc + 3) lv (.int r :: st)) : ac_G x (r_R g) nL0 (r_P g M F) 0 0 pc lv st0 := by
  obtain ⟨p, l', e, R, s, m, args, below, meth, c, Q0⟩ := x
  obtain ⟨C, K, hR, rfl⟩ := Z
  obtain ⟨w1, w2, w3, w4, w5, w6, w7, w8, w9⟩ := hw
  have hb := ac_callB (own := RX12) (index := index) C.2.2.2.2 hR hk (by rw [w1]; exact w2) (by rw [w1]; exact w3) w4 w5 (by rw [w1]; exact w8) w9 hl
  intro H locs ls hP hS hlv
  have hPre : PreV s H RX12 h (va_Pc (.ref h :: As) (r_Pre g M F)) As := by
    refine ⟨r_blind, ?_, fun U hU hW => ⟨rfl, by rw [hU]; exact hP, r_K.go hW (by rw [hU]; exact hS.2.1) K⟩⟩
    obtain ⟨D, h0, ad, cI, cZ, adK, adV⟩ := g
    cases hh
    exact va_recv K.1 hP (ci := 12) (q0 := 0) rfl (r_W0 _ _ _ _ _ _)
  refine va_calli (va_runV (As := As) (rest := st) C hM ⟨hb, C.2.2.2.2 _ w6, C.2.2.2.2 _ w7⟩ hPre rfl hn hlv.1 hs (lv_room hr) hd ⟨Nat.zero_le _, Nat.zero_le _⟩) hS (fun q _ h9 => h9) (fun q h9 => h9) (fun r u t H1 locs1 ht hvm hq hB hz1 hk1 hS1 => ?_)
  rw [ht] at hB
  exact kk r u.1 u.2 hq H1 locs1 ls hB hS1 hlv
theorem r_callv (Z : r_Cx x g l cc0 nL0 rk0) {Q : (Nat → Int32) → (Nat → Nat → Int32) → Prop} (hw : ac_vw RX12 y cc nL none n) (hl : Cond.methodLink RX12 index y ∈ ac_tbl) (hk : rk + 1 ≤ rk0) {h : Nat} (hh : r_h g = h) (hM : r_MetV l g y cc nL rk (.ref h :: As) M F Q) (hn : As.length = n) (hs : st0 = As.reverse ++ .ref h :: st) (hr : (st.map fun v => v.category).sum ≤ 8) (hd : decode cc0 pc = .ok (.invokevirtual index, 3))
    (kk : ∀ M' F', Q M' F' → ac_G x (r_R g) nL0 (r_P g M' F') 0 0 (pc + 3) lv st) : ac_G x (r_R g) nL0 (r_P g M F) 0 0 pc lv st0 := by
  obtain ⟨p, l', e, R, s, m, args, below, meth, c, Q0⟩ := x
  obtain ⟨C, K, hR, rfl⟩ := Z
  obtain ⟨w1, w2, w3, w4, w5, w6, w7, w8, w9⟩ := hw
  have hb := ac_callB (own := RX12) (index := index) C.2.2.2.2 hR hk (by rw [w1]; exact w2) (by rw [w1]; exact w3) w4 w5 (by rw [w1]; exact w8) w9 hl
  intro H locs ls hP hS hlv
  have hPre : PreV s H RX12 h (va_Pc (.ref h :: As) (r_Pre g M F)) As := by
    refine ⟨r_blind, ?_, fun U hU hW => ⟨rfl, by rw [hU]; exact hP, r_K.go hW (by rw [hU]; exact hS.2.1) K⟩⟩
    obtain ⟨D, h0, ad, cI, cZ, adK, adV⟩ := g
    cases hh
    exact va_recv K.1 hP (ci := 12) (q0 := 0) rfl (r_W0 _ _ _ _ _ _)
  refine va_callv (va_runV (As := As) (rest := st) C hM ⟨hb, C.2.2.2.2 _ w6, C.2.2.2.2 _ w7⟩ hPre rfl hn hlv.1 hs (lv_room hr) hd ⟨Nat.zero_le _, Nat.zero_le _⟩) hS (fun q _ h9 => h9) (fun q h9 => h9) (fun u t H1 locs1 ht hvm hq hB hz1 hk1 hS1 => ?_)
  rw [ht] at hB
  exact kk u.1 u.2 hq H1 locs1 ls hB hS1 hlv
theorem r_calls (Z : r_Cx x g l cc0 nL0 rk0) {ret : FieldType} {Q : Int32 → (Nat → Int32) → (Nat → Nat → Int32) → Prop} (hw : ac_sw RX12 y cc nL (some ret) n) (hl : Cond.methodLink RX12 index y ∈ ac_tbl) (hk : rk + 1 ≤ rk0) (hM : r_MetI l g y cc nL ret rk As M F Q) (hn : As.length = n) (hs : st0 = As.reverse ++ st) (hr : (st.map fun v => v.category).sum ≤ 8) (hd : decode cc0 pc = .ok (.invokestatic index, 3))
    (kk : ∀ r M' F', Q r M' F' → ac_G x (r_R g) nL0 (r_P g M' F') 0 0 (pc + 3) lv (.int r :: st)) : ac_G x (r_R g) nL0 (r_P g M F) 0 0 pc lv st0 := by
  obtain ⟨p, l', e, R, s, m, args, below, meth, c, Q0⟩ := x
  obtain ⟨C, K, hR, rfl⟩ := Z
  obtain ⟨w1, w2, w3, w4, w5, w6, w8, w9⟩ := hw
  have hb := ac_callB (own := RX12) (index := index) C.2.2.2.2 hR hk (by rw [w1]; exact w2) (by rw [w1]; exact w3) w4 w5 (by rw [w1]; exact w8) w9 hl
  intro H locs ls hP hS hlv
  have hPre : PreS s H (va_Pc As (r_Pre g M F)) As := ⟨r_blind, fun U hU hW => ⟨rfl, by rw [hU]; exact hP, r_K.go hW (by rw [hU]; exact hS.2.1) K⟩⟩
  refine va_calli (va_runS (As := As) (rest := st) C hM ⟨hb, C.2.2.2.2 _ w6⟩ hPre rfl hn hlv.1 hs (lv_room hr) hd ⟨Nat.zero_le _, Nat.zero_le _⟩) hS (fun q _ h9 => h9) (fun q h9 => h9) (fun r u t H1 locs1 ht hvm hq hB hz1 hk1 hS1 => ?_)
  rw [ht] at hB
  exact kk r u.1 u.2 hq H1 locs1 ls hB hS1 hlv
end RC
