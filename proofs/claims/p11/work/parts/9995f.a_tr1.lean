/-! A TEXT'S TOKENS, ALL OF THEM: kf, tf: where the lexer stands before token t, and with which table. -/
section TR1
variable {T A V P : Nat → Int32} {n : Nat}
def x_trf (T : Nat → Int32) (n : Nat) (A V P : Nat → Int32) (m : Nat) (kf : Nat → Nat) (tf : Nat → List (Nat × Nat)) : Prop := kf 0 = 0 ∧ tf 0 = [] ∧ ∀ t, t < m → kf t ≤ n ∧ x_sk T n n (kf t) < n ∧ x_step T n (tf t) (x_sk T n n (kf t)) (A t) (V t) (kf (t + 1)) (tf (t + 1)) ∧ P t = nI (x_sk T n n (kf t))
theorem x_tr_fun : ∀ {m k : Nat} {tb : List (Nat × Nat)}, x_tr T n A V P m k tb → ∃ (kf : Nat → Nat) (tf : Nat → List (Nat × Nat)), kf m = k ∧ tf m = tb ∧ x_trf T n A V P m kf tf := by
  intro m
  induction m with
  | zero =>
    intro k tb h
    exact ⟨fun _ => k, fun _ => tb, rfl, rfl, h.1, h.2, fun t ht => by omega⟩
  | succ m ih =>
    intro k tb h
    obtain ⟨k', tb', a1, a2, a3, a4, a5⟩ := h
    obtain ⟨kf, tf, b1, b2, b3, b4, b5⟩ := ih a1
    refine ⟨fun t => if t ≤ m then kf t else k, fun t => if t ≤ m then tf t else tb, if_neg (by omega), if_neg (by omega), ?_, ?_, fun t ht => ?_⟩
    · show (if 0 ≤ m then kf 0 else k) = 0; rw [if_pos (by omega)]; exact b3
    · show (if 0 ≤ m then tf 0 else tb) = []; rw [if_pos (by omega)]; exact b4
    · show (if t ≤ m then kf t else k) ≤ n ∧ x_sk T n n (if t ≤ m then kf t else k) < n ∧ x_step T n (if t ≤ m then tf t else tb) (x_sk T n n (if t ≤ m then kf t else k)) (A t) (V t) (if t + 1 ≤ m then kf (t + 1) else k) (if t + 1 ≤ m then tf (t + 1) else tb) ∧ P t = nI (x_sk T n n (if t ≤ m then kf t else k))
      rw [if_pos (show t ≤ m by omega), if_pos (show t ≤ m by omega)]
      by_cases q : t = m
      · subst q
        rw [if_neg (by omega), if_neg (by omega), b1, b2]
        exact ⟨a2, a3, a4, a5⟩
      · rw [if_pos (show t + 1 ≤ m by omega), if_pos (show t + 1 ≤ m by omega)]
        exact b5 t (by omega)
theorem x_step_len {tb tb' : List (Nat × Nat)} {k e : Nat} {ty v : Int32} (h : x_step T n tb k ty v e tb') : tb' = tb ∨ tb' = tb ++ [(k, e - k)] := by
  rcases h with ⟨-, -, a, -⟩ | ⟨-, -, -, ⟨-, -, a⟩ | ⟨-, ⟨q, -, -, -, a⟩ | ⟨-, -, ⟨w, -, -, -, a⟩ | ⟨-, -, a⟩⟩⟩⟩ | ⟨-, a, -⟩
  · exact Or.inl a
  · exact Or.inl a
  · exact Or.inl a
  · exact Or.inl a
  · exact Or.inr a
  · exact Or.inl a
theorem x_step_tb {tb tb' : List (Nat × Nat)} {k e : Nat} {ty v : Int32} (hk : k < n) (htb : x_tb T tb) (h : x_step T n tb k ty v e tb') : x_tb T tb' := by
  rcases h with ⟨-, -, rfl, -⟩ | ⟨-, -, he, ⟨-, -, rfl⟩ | ⟨he2, h⟩⟩ | ⟨-, rfl, -⟩
  · exact htb
  · exact htb
  · have hle := x_we_le T n n k (by omega)
    exact (x_tb_word htb (fun i hi => x_we_in T n n k _ (by omega) (by omega)) he2 h).1
  · exact htb
theorem x_trf_tb {m : Nat} {kf : Nat → Nat} {tf : Nat → List (Nat × Nat)} (h : x_trf T n A V P m kf tf) : ∀ t, t ≤ m → x_tb T (tf t) ∧ x_tn (tf t) n ∧ (tf t).length ≤ (tf m).length ∧ kf t ≤ n := by
  obtain ⟨h1, h2, h3⟩ := h
  have up : ∀ t, t ≤ m → x_tb T (tf t) ∧ x_tn (tf t) n ∧ kf t ≤ n := by
    intro t
    induction t with
    | zero =>
      intro _
      rw [h2, h1]
      exact ⟨⟨fun w hw => absurd hw (Nat.not_lt_zero _), fun w w' hw => absurd hw (Nat.not_lt_zero _)⟩, fun w hw => absurd hw (Nat.not_lt_zero _), by omega⟩
    | succ t ih =>
      intro ht
      obtain ⟨a, b, -⟩ := ih (by omega)
      obtain ⟨c1, c2, c3, c4⟩ := h3 t (by omega)
      have he := x_step_e c2 c3
      refine ⟨x_step_tb c2 a c3, ?_, he.2⟩
      rcases x_step_len c3 with z | z
      · rw [z]; exact b
      · rw [z]
        intro w hw
        by_cases q : w = (tf t).length
        · rw [q, x_getD_pp]
          show x_sk T n n (kf t) + (kf (t + 1) - x_sk T n n (kf t)) ≤ n
          omega
        · have hl : (tf t ++ [(x_sk T n n (kf t), kf (t + 1) - x_sk T n n (kf t))]).length = (tf t).length + 1 := by simp
          rw [x_getD_pp' _ _ (by omega)]; exact b w (by omega)
  have mono : ∀ d t, t + d = m → (tf t).length ≤ (tf m).length := by
    intro d
    induction d with
    | zero => intro t ht; rw [show t = m by omega]; exact Nat.le_refl _
    | succ d ih =>
      intro t ht
      obtain ⟨c1, c2, c3, c4⟩ := h3 t (by omega)
      have := ih (t + 1) (by omega)
      rcases x_step_len c3 with z | z
      · rw [z] at this; exact this
      · have hl : (tf (t + 1)).length = (tf t).length + 1 := by rw [z]; simp
        omega
  intro t ht
  obtain ⟨a, b, c⟩ := up t ht
  exact ⟨a, b, mono (m - t) t (by omega), c⟩
end TR1
