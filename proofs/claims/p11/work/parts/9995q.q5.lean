/-! DEEDS OF THE CLASS'S LOOP; tries of both; upholds found. -/
section TQ5
variable {K : k_K} {N : Nat → Nat} {s s' : f_S3} {O : Nat × Nat} {M M' : e_M} {F F' : e_F} {p : Nat} {st ra : Int32}
def t_84 (N : Nat → Nat) (Q : f_S3 → Nat × Nat → Prop) (s : f_S3) (O : Nat × Nat) : Prop := (s.1 54 = 0 → Q s O) ∧ (¬ s.1 54 = 0 → wY_X8_goOut N s O Q)
def t_dd (N : Nat → Nat) (s : f_S3) (O : Nat × Nat) (Q : f_S3 → Nat × Nat → Prop) : Prop := wY_X8_fetch N s O (fun d s1 O1 => ((6 < d → ((13 < d → ((21 < d → wY_X8_doObjection N d s1 O1 (fun s2 O2 => t_84 N Q s2 O2)) ∧ (¬ 21 < d → wY_X8_doTwoNumbers N d s1 O1 (fun s2 O2 => t_84 N Q s2 O2)))) ∧ (¬ 13 < d → wY_X8_doNumber N d s1 O1 (fun s2 O2 => t_84 N Q s2 O2)))) ∧ (¬ 6 < d → wY_X8_doCourse N d s1 O1 (fun s2 O2 => t_84 N Q s2 O2))))
/-- j deeds lead to P -/
def t_go (N : Nat → Nat) (j : Nat) (s : f_S3) (O : Nat × Nat) (P : f_S3 → Nat × Nat → Prop) : Prop := ∀ (Q : Int32 → f_S3 → Nat × Nat → Prop) (n i : Nat), i + j ≤ 1000000000 → (∀ s' O', P s' O' → wY_X8_hold_10 N Q n (nI (i + j)) s' O') → wY_X8_hold_10 N Q (n + j) (nI i) s O
theorem t_go0 {P : f_S3 → Nat × Nat → Prop} (h : P s O) : t_go N 0 s O P := fun _ _ _ _ hP => hP s O h
theorem t_go_mo {P P' : f_S3 → Nat × Nat → Prop} {j : Nat} (h : t_go N j s O P) (hp : ∀ s' O', P s' O' → P' s' O') : t_go N j s O P' := fun Q n i hi hP => h Q n i hi (fun s' O' g => hP s' O' (hp s' O' g))
theorem t_goD {P : f_S3 → Nat × Nat → Prop} {j : Nat} (h53 : s.1 53 = 0) (h : ∀ Qc : f_S3 → Nat × Nat → Prop, (∀ s' O', t_go N j s' O' P → Qc s' O') → t_dd N s O Qc) : t_go N (j + 1) s O P := by
  intro Q n i hi hP
  have e : n + (j + 1) = (n + j) + 1 := by omega
  rw [e]
  refine ⟨fun q => ?_, fun _ => ⟨fun q => absurd h53 q, fun _ => h (fun s' O' => wY_X8_hold_10 N Q (n + j) (nI i + 1) s' O') (fun s' O' g => ?_)⟩⟩
  · rw [show (1000000000 : Int32) = nI 1000000000 from rfl, y_le (by omega) (by omega)] at q; omega
  · rw [y_1]
    exact g Q n (i + 1) (by omega) (fun s2 O2 g2 => by rw [show i + 1 + j = i + (j + 1) by omega]; exact hP s2 O2 g2)
theorem t_go1 {P : f_S3 → Nat × Nat → Prop} (h53 : s.1 53 = 0) (h : ∀ Qc : f_S3 → Nat × Nat → Prop, (∀ s' O', P s' O' → Qc s' O') → t_dd N s O Qc) : t_go N 1 s O P := t_goD (j := 0) h53 (fun Qc hq => h Qc (fun s' O' g => hq s' O' (t_go0 g)))
theorem d_course (hN : tN N) (hz : K_z K ≤ N 20) (h : S_s K p st ra s O M F) (hp : p < K_z K) {d : Int32} (hd : K_C K p = d) (h6 : ¬ 6 < d) {Q : f_S3 → Nat × Nat → Prop} (hQ : ∀ s', S_s K (p + 1) st ra s' O M F → wY_X8_doCourse N d s' O (fun s2 O2 => t_84 N Q s2 O2)) : t_dd N s O Q := m_fetch hN hz h hp (fun s' h' => by rw [hd]; exact ⟨fun q => absurd q h6, fun _ => hQ s' h'⟩)
theorem d_number (hN : tN N) (hz : K_z K ≤ N 20) (h : S_s K p st ra s O M F) (hp : p < K_z K) {d : Int32} (hd : K_C K p = d) (h6 : 6 < d) (h13 : ¬ 13 < d) {Q : f_S3 → Nat × Nat → Prop} (hQ : ∀ s', S_s K (p + 1) st ra s' O M F → wY_X8_doNumber N d s' O (fun s2 O2 => t_84 N Q s2 O2)) : t_dd N s O Q := m_fetch hN hz h hp (fun s' h' => by rw [hd]; exact ⟨fun _ => ⟨fun q => absurd q h13, fun _ => hQ s' h'⟩, fun q => absurd h6 q⟩)
theorem d_two (hN : tN N) (hz : K_z K ≤ N 20) (h : S_s K p st ra s O M F) (hp : p < K_z K) {d : Int32} (hd : K_C K p = d) (h6 : 6 < d) (h13 : 13 < d) (h21 : ¬ 21 < d) {Q : f_S3 → Nat × Nat → Prop} (hQ : ∀ s', S_s K (p + 1) st ra s' O M F → wY_X8_doTwoNumbers N d s' O (fun s2 O2 => t_84 N Q s2 O2)) : t_dd N s O Q := m_fetch hN hz h hp (fun s' h' => by rw [hd]; exact ⟨fun _ => ⟨fun _ => ⟨fun q => absurd q h21, fun _ => hQ s' h'⟩, fun q => absurd h13 q⟩, fun q => absurd h6 q⟩)
theorem d_obj (hN : tN N) (hz : K_z K ≤ N 20) (h : S_s K p st ra s O M F) (hp : p < K_z K) {d : Int32} (hd : K_C K p = d) (h6 : 6 < d) (h13 : 13 < d) (h21 : 21 < d) {Q : f_S3 → Nat × Nat → Prop} (hQ : ∀ s', S_s K (p + 1) st ra s' O M F → wY_X8_doObjection N d s' O (fun s2 O2 => t_84 N Q s2 O2)) : t_dd N s O Q := m_fetch hN hz h hp (fun s' h' => by rw [hd]; exact ⟨fun _ => ⟨fun _ => ⟨fun _ => hQ s' h', fun q => absurd h21 q⟩, fun q => absurd h13 q⟩, fun q => absurd h6 q⟩)
theorem t_84g {Q : f_S3 → Nat × Nat → Prop} (h : S_s K p st 0 s O M F) (hQ : Q s O) : t_84 N Q s O := ⟨fun _ => hQ, fun q => absurd h.1.2.2 q⟩
theorem t_84r {Q : f_S3 → Nat × Nat → Prop} (h : ¬ s.1 54 = 0) (hQ : wY_X8_goOut N s O Q) : t_84 N Q s O := ⟨fun q => absurd q h, fun _ => hQ⟩
/-- a field of a try -/
theorem t_tix {t c : Nat} (ht : t < 240) (hc : c < 5) : nI t * 5 + nI c = nI (5 * t + c) := by
  rw [show (5 : Int32) = nI 5 from rfl, pk_mul, nI_add, Nat.mul_comm]
theorem m_tf (hN : tN N) {t c : Nat} (ht : t < 240) (hc : c < 5) {Q : Int32 → f_S3 → Nat × Nat → Prop} (hQ : Q (s.2.1 18 (5 * t + c)) s O) : wY_X8_tryField N (nI t) (nI c) s O Q := by
  have l := tN_18 hN
  unfold wY_X8_tryField
  rw [t_tix ht hc, l]
  refine ⟨fun q => absurd q (y_lt0 (by omega)), fun _ => ⟨fun q => absurd q (by rw [y_le (by omega) (by omega)]; omega), fun _ => ⟨y_in (by omega) (by omega), ?_⟩⟩⟩
  rw [y_cl (by omega)]; exact hQ
theorem m_stf (hN : tN N) {t c : Nat} (ht : t < 240) (hc : c < 5) {v : Int32} {Q : f_S3 → Nat × Nat → Prop} (hQ : Q (ff s 18 (nI (5 * t + c)) v) O) : wY_X8_setTryField N (nI t) (nI c) v s O Q := by
  have l := tN_18 hN
  unfold wY_X8_setTryField
  rw [t_tix ht hc, l]
  exact ⟨fun q => absurd q (y_lt0 (by omega)), fun _ => ⟨fun q => absurd q (by rw [y_le (by omega) (by omega)]; omega), fun _ => ⟨y_in (by omega) (by omega), hQ⟩⟩⟩
/-- upholds in a row: which is the first that takes a kind -/
def t_up (F : e_F) (k : Int32) : Nat → Int32 → Int32
  | 0 => fun _ => -1
  | n + 1 => fun u => if u = -1 then -1 else if t_is 7 k (F 23 u.toNatClampNeg) = 0 then t_up F k n (F 26 u.toNatClampNeg) else u
def k_ch (K : k_K) (a : Nat) (u : Int32) (n : Nat) : Prop := u = -1 ∨ ∃ v : Nat, u = nI v ∧ (400 * K_B K ≤ v ∧ v < K_V K) ∧ K_w K v = a ∧ K_V K < v + n
theorem k_ch_nx {a : Nat} {u : Int32} {n : Nat} (hc : k_cor K F) (h : k_ch K a u (n + 1)) (hu : ¬ u = -1) : k_ch K a (F 26 u.toNatClampNeg) n := by
  rcases h with h | ⟨v, rfl, h2, h3, h4⟩
  · exact absurd h hu
  · have hb := hc.1
    rw [y_cl (by omega)]
    obtain ⟨-, -, -, -, -, hn, -⟩ := hc.2.2.2.1 v h2.1 h2.2
    rcases hn with hn | ⟨w, e, h5, h6⟩
    · exact Or.inl hn
    · exact Or.inr ⟨w, e, by omega, h6.trans h3, by omega⟩
theorem t_up_ch {a : Nat} {k : Int32} (hc : k_cor K F) : ∀ (n : Nat) (u : Int32), k_ch K a u n → t_up F k n u = -1 ∨ ∃ v : Nat, t_up F k n u = nI v ∧ (400 * K_B K ≤ v ∧ v < K_V K) ∧ K_w K v = a := by
  intro n
  induction n with
  | zero => intro u _; exact Or.inl rfl
  | succ n ih =>
    intro u h
    by_cases q : u = -1
    · left; show (if u = -1 then _ else _) = _; rw [if_pos q]
    · by_cases z : t_is 7 k (F 23 u.toNatClampNeg) = 0
      · have e : t_up F k (n + 1) u = t_up F k n (F 26 u.toNatClampNeg) := by
          show (if u = -1 then _ else _) = _
          rw [if_neg q, if_pos z]
        rw [e]
        exact ih _ (k_ch_nx hc h q)
      · have e : t_up F k (n + 1) u = u := by
          show (if u = -1 then _ else _) = _
          rw [if_neg q, if_neg z]
        rw [e]
        rcases h with h | ⟨v, h1, h2, h3, -⟩
        · exact Or.inl h
        · exact Or.inr ⟨v, h1, h2, h3⟩
theorem r_up {K5 : Int32 → e_M → e_F → Prop} {Q : e_M → e_F → Prop} {o t : Int32} {a : Nat} (hc : k_cor K F) (hk : 0 ≤ (F 48 o.toNatClampNeg).toInt ∧ (F 48 o.toNatClampNeg).toInt ≤ 6) : ∀ (n m : Nat) (u : Int32), k_ch K a u m → 1 ≤ m → w_raise_82 K5 Q n o t u M F → w_raise_115 K5 Q o t (t_up F (F 48 o.toNatClampNeg) m u) M F := by
  intro n
  induction n with
  | zero => intro m u _ _ h; exact h.elim
  | succ n ih =>
    intro m u hch hm h
    obtain ⟨h1, h2⟩ := h
    match m, hm with
    | m + 1, _ =>
    show w_raise_115 K5 Q o t (if u = -1 then -1 else if t_is 7 (F 48 o.toNatClampNeg) (F 23 u.toNatClampNeg) = 0 then t_up F (F 48 o.toNatClampNeg) m (F 26 u.toNatClampNeg) else u) M F
    by_cases q : u = -1
    · rw [if_pos q]; have := h1 q; rw [q] at this; exact this
    · rw [if_neg q]
      have hcu := hch
      rcases hcu with w | ⟨v, e, g2, g3, g4⟩
      · exact absurd w q
      have hb := hc.1
      have ev : u.toNatClampNeg = v := by rw [e]; exact y_cl (by omega)
      obtain ⟨-, -, -, -, -, -, kne, -⟩ := hc.2.2.2.1 v g2.1 g2.2
      obtain ⟨-, -, h3⟩ := h2 q
      have h4 := r_isKind hk (by rw [ev]; exact kne) h3
      by_cases z : t_is 7 (F 48 o.toNatClampNeg) (F 23 u.toNatClampNeg) = 0
      · rw [if_pos z]
        have hn := k_ch_nx hc hch q
        match m, hn with
        | 0, hn =>
          rcases hn with hn | ⟨v', -, g5, -, g6⟩
          · have h5 := (h4.2 z).2
            rw [hn] at h5
            cases n with
            | zero => exact h5.elim
            | succ n => exact h5.1 rfl
          · omega
        | m + 1, hn => exact ih (m + 1) _ hn (by omega) (h4.2 z).2
      · rw [if_neg z]; exact h4.1 z
theorem m_up (hN : tN N) (hz : K_z K ≤ N 20) (hc : k_cor K F) (hC : S_C K s F) {k : Int32} {a : Nat} (hk : 0 ≤ k.toInt ∧ k.toInt ≤ 6) {Q : Int32 → f_S3 → Nat × Nat → Prop} : ∀ (m j : Nat) (u : Int32), k_ch K a u m → j + m ≤ 3000 → Q (k_hx K (t_up F k m u)) s O → wY_X8_upholdFor_17 N Q (m + 1) k (k_hx K u) (nI j) s O := by
  intro m
  induction m with
  | zero =>
    intro j u hch hj hQ
    have hu : u = -1 := by
      rcases hch with h | ⟨v, -, h2, -, h4⟩
      · exact h
      · omega
    refine ⟨fun q => ?_, fun _ => ⟨fun _ => hQ, fun q => absurd (by rw [hu]; rfl) q⟩⟩
    rw [show (4000 : Int32) = nI 4000 from rfl, y_le (by omega) (by omega)] at q; omega
  | succ m ih =>
    intro j u hch hj hQ
    have hQ : Q (k_hx K (if u = -1 then -1 else if t_is 7 k (F 23 u.toNatClampNeg) = 0 then t_up F k m (F 26 u.toNatClampNeg) else u)) s O := hQ
    refine ⟨fun q => ?_, fun _ => ⟨fun q => ?_, fun q => ?_⟩⟩
    · rw [show (4000 : Int32) = nI 4000 from rfl, y_le (by omega) (by omega)] at q; omega
    · by_cases z : u = -1
      · rw [if_pos z] at hQ; exact hQ
      · exfalso
        rcases hch with h | ⟨v, e, h2, h3, h4⟩
        · exact z h
        · have hb := hc.1
          have hu := (hc.2.2.2.1 v h2.1 h2.2).1
          unfold k_hx at q
          rw [if_neg z, e, y_cl (by omega)] at q
          exact nI_ne (by omega) q
    · by_cases z : u = -1
      · exfalso; apply q; rw [z]; rfl
      · rw [if_neg z] at hQ
        have hch2 := hch
        rcases hch2 with h | ⟨v, e, h2, h3, h4⟩
        · exact absurd h z
        have hb := hc.1
        obtain ⟨u1, u2, u3, u4, u5, u6, u7⟩ := hc.2.2.2.1 v h2.1 h2.2
        have ev : u.toNatClampNeg = v := by rw [e]; exact y_cl (by omega)
        have ex : k_hx K u = nI (K_H K v) := by unfold k_hx; rw [if_neg z, ev]
        rw [ev] at hQ
        rw [ex]
        refine m_get6 hN hz hC (by omega) (m_is (by omega) ⟨fun w => ?_, fun w => ?_⟩)
        · rw [u2] at w
          rw [if_pos w] at hQ
          have e2 : nI (K_H K v) + 2 = nI (K_H K v + 2) := nI_add _ 2
          rw [e2, y_1]
          refine m_get6 hN hz hC (by omega) ?_
          rw [u4]
          have hn := k_ch_nx hc hch z
          rw [ev] at hn
          exact ih (j + 1) _ hn (by omega) hQ
        · rw [u2] at w
          rw [if_neg w, ex] at hQ
          exact hQ
end TQ5
