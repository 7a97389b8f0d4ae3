/-! RESTED: both go out of the hearing's tries, then behind the hear. -/
section TQ9
variable {K : k_K} {N : Nat → Nat} {s s' : f_S3} {O : Nat × Nat} {M M' : e_M} {F F' : e_F} {p : Nat} {st ra : Int32}
theorem S_s_V (h : S_s K p st ra s O M F) (h0 : M 69 = 0) (h1 : M' 69 = 0) (e : ∀ k, k ∈ [54, 55, 56, 62, 67, 78, 79, 80, 81, 82] → M' k = M k) (f : ∀ r, r ≠ 68 → F' r = F r) : S_s K p st ra s O M' F' := by
  obtain ⟨a, ⟨hD, hM, hC⟩, ⟨hN, hR, hT⟩, hd, hV, -⟩ := h
  refine ⟨a, ⟨S_D_cg hD ⟨rfl, rfl⟩ rfl ⟨e 54 (by decide), e 56 (by decide)⟩ ⟨f 48 (by decide), f 49 (by decide), f 50 (by decide), f 51 (by decide), f 52 (by decide), f 53 (by decide)⟩, S_M_cg hM ⟨rfl, rfl, rfl, rfl, rfl, rfl, rfl⟩ rfl ⟨e 78 (by decide), e 79 (by decide), e 80 (by decide), e 82 (by decide), e 81 (by decide), e 55 (by decide)⟩ (f 84 (by decide)), S_C_cg hC rfl ⟨rfl, rfl, rfl⟩ ⟨f 18 (by decide), f 19 (by decide)⟩⟩, ⟨S_N_cg hN ⟨rfl, rfl⟩ (e 62 (by decide)) ⟨f 57 (by decide), f 58 (by decide)⟩, S_R_cg hR rfl (e 62 (by decide)) ⟨f 59 (by decide), f 60 (by decide), f 13 (by decide), f 16 (by decide)⟩, S_T_cg hT rfl rfl ⟨e 62 (by decide), e 67 (by decide)⟩ ⟨f 20 (by decide), f 61 (by decide), f 63 (by decide), f 64 (by decide), f 65 (by decide), f 66 (by decide)⟩⟩, hd.trans (e 62 (by decide)).symm, ?_, fun j hj => ?_⟩
  · rw [h1, hV, h0]
  · rw [h1, e_z0] at hj; omega
theorem fr_ex {F : e_F} {t : Int} : ∀ m : Nat, e_b F 0 ≤ t → t < e_b F m → ∃ i, i < m ∧ e_b F i ≤ t ∧ t < e_b F (i + 1) := by
  intro m
  induction m with
  | zero => intro a b; omega
  | succ m ih =>
    intro a b
    by_cases q : t < e_b F m
    · obtain ⟨i, h1, h2⟩ := ih a q
      exact ⟨i, by omega, h2⟩
    · exact ⟨m, by omega, by omega, b⟩
def v_Q (K : k_K) (F : e_F) (f ot : Nat) (M' : e_M) (F' : e_F) (j : Nat) : Prop := ∃ ot' : Nat, ((M' 62).toInt = (f : Int) - 1 ∧ 2 ≤ f ∧ (M' 67).toInt = ot') ∧ v_X K M' F' (f - 1) ot' ∧ t_ps F' ot' + j ≤ t_ps F ot + 1 ∧ M' 70 = F 59 (f - 1)
def v_R2 (K : k_K) (M : e_M) (F : e_F) (f ot : Nat) (v : Int32) (M' : e_M) (F' : e_F) (j : Nat) : Prop := v_O M M' F F' ∧ ((M' 72 = 1 ∧ M' 74 = v ∧ M' 73 = M 73 ∧ j ≤ t_ps F ot) ∨ (M' 72 = M 72 ∧ M' 73 = M 73 ∧ M' 74 = M 74 ∧ M' 69 = 0 ∧ (v_P K F f ot 36001 M' F' j ∨ v_Q K F f ot M' F' j)))
def v_S2 (K : k_K) (v : Int32) (M' : e_M) (F' : e_F) (s : f_S3) (O : Nat × Nat) : Prop := (M' 72 = 1 → s.1 53 = 1 ∧ s.1 55 = v ∧ S_a K s O M' F') ∧ (¬ M' 72 = 1 → ∃ k : Nat, (M' 70 = nI k ∧ k < 2 ^ 31) ∧ S_s K (K_A K k) 0 0 s O M' F')
/-- a code's ints -/
theorem k_int (hc : k_cor K F) {k : Nat} (hk : 9000 * K_B K ≤ k ∧ k < K_E K) {l : List Int32} (e : k_en K F k = l) : K_A K k + l.length ≤ K_z K ∧ ∀ i, i < l.length → K_C K (K_A K k + i) = l.getD i 0 := by
  have := (hc.2.1 k hk.1 hk.2).1
  rw [e] at this
  exact this
theorem k_fall (hc : k_cor K F) {k : Nat} (hk : 9000 * K_B K ≤ k ∧ k < K_E K) {l : List Int32} (e : k_en K F k = l) {n : Int32} (hn : F 13 k = n) (h : n ≠ 19 ∧ n ≠ 20 ∧ n ≠ 23) : K_A K (k + 1) = K_A K k + l.length ∧ k + 1 < K_E K := by
  have := (hc.2.1 k hk.1 hk.2).2.1 (by rw [hn]; exact h.1) (by rw [hn]; exact h.2.1) (by rw [hn]; exact h.2.2)
  rw [e] at this
  exact this
theorem m_back (hN : tN N) (hz : K_z K ≤ N 20) (hc : k_cor K F) {f k : Nat} {v : Int32} (hf : 1 ≤ f ∧ f ≤ 12) (h62 : (M 62).toInt = f) (h69 : M 69 = 0) (hk : 9000 * K_B K ≤ k ∧ k < K_E K) (h13 : F 13 k = 18) (h12 : ¬ F 16 k = -1 → 0 ≤ (F 16 k).toInt ∧ (F 16 k).toInt < 12) (h : S_s K (K_A K k + 3) 0 0 s O (um M 69 1) (uf F 68 0 v)) : t_go N 1 s O (fun s2 O2 => O2 = O ∧ S_s K (K_A K (k + 1)) 0 0 s2 O M (if F 16 k = -1 then F else uf F 57 (12 * (M 62 - 1) + F 16 k) v)) := by
  refine t_go1 h.1.2.1 (fun Qc hq => ?_)
  have e0 : ∀ j, j ∈ [54, 55, 56, 62, 67, 78, 79, 80, 81, 82] → M j = um (um M 69 1) 69 (um M 69 1 69 - 1) j := fun j hj => by
    have : j ≠ 69 := fun q => by rw [q] at hj; exact absurd hj (by decide)
    rw [e_um_ne this, e_um_ne this]
  by_cases q : F 16 k = -1
  · have en : k_en K F k = [2, F 14 k - nI (400 * K_B K), F 15 k, 10] := by
      unfold k_en k_e
      rw [h13, if_neg (by decide), if_neg (by decide), if_neg (by decide), if_neg (by decide), if_neg (by decide), if_neg (by decide), if_neg (by decide), if_neg (by decide), if_neg (by decide), if_neg (by decide), if_neg (by decide), if_neg (by decide), if_neg (by decide), if_neg (by decide), if_neg (by decide), if_neg (by decide), if_neg (by decide), if_pos rfl, if_pos q]
    obtain ⟨i1, i2⟩ := k_int hc hk en
    obtain ⟨a1, a2⟩ := k_fall hc hk en h13 (by decide)
    have i1 : K_A K k + 4 ≤ K_z K := i1
    have i3 : K_C K (K_A K k + 3) = 10 := i2 3 (show 3 < 4 by decide)
    have a1 : K_A K (k + 1) = K_A K k + 4 := a1
    refine d_number hN hz h (by omega) i3 (by decide) (by decide) (fun s1 h1 => ⟨fun g => absurd g (by decide), fun g => absurd g (by decide), fun g => absurd g (by decide), fun _ => m_pop hN h1 (show 1 ≤ (1 : Int32).toInt ∧ (1 : Int32).toInt ≤ 64 by decide) (fun s2 h2 => t_84g h2 (hq s2 O ⟨rfl, ?_⟩)), fun g => absurd g (by decide), fun g => absurd g (by decide), fun _ _ _ g => absurd rfl g⟩)
    rw [if_pos q, a1]
    exact S_s_V h2 (show (1 : Int32) - 1 = 0 by decide) h69 e0 (fun r hr => (e_uf_ne hr).symm)
  · have en : k_en K F k = [2, F 14 k - nI (400 * K_B K), F 15 k, 9, F 16 k] := by
      unfold k_en k_e
      rw [h13, if_neg (by decide), if_neg (by decide), if_neg (by decide), if_neg (by decide), if_neg (by decide), if_neg (by decide), if_neg (by decide), if_neg (by decide), if_neg (by decide), if_neg (by decide), if_neg (by decide), if_neg (by decide), if_neg (by decide), if_neg (by decide), if_neg (by decide), if_neg (by decide), if_neg (by decide), if_pos rfl, if_neg q]
    obtain ⟨i1, i2⟩ := k_int hc hk en
    obtain ⟨a1, a2⟩ := k_fall hc hk en h13 (by decide)
    have i1 : K_A K k + 5 ≤ K_z K := i1
    have i3 : K_C K (K_A K k + 3) = 9 := i2 3 (show 3 < 5 by decide)
    have i4 : K_C K (K_A K k + 3 + 1) = F 16 k := i2 4 (show 4 < 5 by decide)
    have a1 : K_A K (k + 1) = K_A K k + 5 := a1
    refine d_number hN hz h (by omega) i3 (by decide) (by decide) (fun s1 h1 => ⟨fun g => absurd g (by decide), fun g => absurd g (by decide), fun _ => m_fetch hN hz h1 (by omega) (fun s2 h2 => ?_), fun g => absurd g (by decide), fun g => absurd g (by decide), fun g => absurd g (by decide), fun _ _ g => absurd rfl g⟩)
    rw [i4]
    refine m_pop hN h2 (show 1 ≤ (1 : Int32).toInt ∧ (1 : Int32).toInt ≤ 64 by decide) (fun s3 h3 => ?_)
    have ev : uf F 68 0 v 68 (um M 69 1 69 - 1).toNatClampNeg = v := by
      show uf F 68 0 v 68 ((1 : Int32) - 1).toNatClampNeg = v
      rw [uf_at2, if_pos ⟨rfl, by decide⟩]
    rw [ev]
    refine m_setnum hN h3 (show 1 ≤ (M 62).toInt ∧ (M 62).toInt ≤ 12 by omega) (h12 q) (fun s4 h4 => t_84g h4 (hq s4 O ⟨rfl, ?_⟩))
    rw [if_neg q, a1]
    refine S_s_V h4 (show (1 : Int32) - 1 = 0 by decide) h69 e0 (fun r hr => ?_)
    show uf F 57 (12 * (M 62 - 1) + F 16 k) v r = uf (uf F 68 0 v) 57 (12 * (M 62 - 1) + F 16 k) v r
    by_cases z : r = 57
    · rw [z, uf_at, uf_at, if_pos rfl, if_pos rfl, e_uf_ne (r := 57) (by decide)]
    · rw [e_uf_ne z, e_uf_ne z, e_uf_ne hr]
end TQ9
