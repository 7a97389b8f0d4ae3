/-! CONJUNCTION: two things that hold behind next() hold together (wip/gen/mkcj.py). -/
section CJ1
theorem cj_byteAt {p1 : Int32} {M : Nat → Int32} {F : Nat → Nat → Int32} {Q1 Q2 Q3 : Int32 → (Nat → Int32) → (Nat → Nat → Int32) → Prop} (h1 : w_byteAt p1 M F Q1) (h2 : w_byteAt p1 M F Q2) (hq : ∀ x0 x1 x2, Q1 x0 x1 x2 → Q2 x0 x1 x2 → Q3 x0 x1 x2) : w_byteAt p1 M F Q3 := by
  unfold w_byteAt at h1 h2 ⊢
  exact ⟨fun c1 => hq _ _ _ (h1.1 c1) (h2.1 c1), fun c2 => ⟨(h1.2 c2).1, hq _ _ _ (h1.2 c2).2 (h2.2 c2).2⟩⟩
theorem cj_isSmall {p0 : Int32} {M : Nat → Int32} {F : Nat → Nat → Int32} {Q1 Q2 Q3 : Int32 → (Nat → Int32) → (Nat → Nat → Int32) → Prop} (h1 : w_isSmall p0 M F Q1) (h2 : w_isSmall p0 M F Q2) (hq : ∀ x0 x1 x2, Q1 x0 x1 x2 → Q2 x0 x1 x2 → Q3 x0 x1 x2) : w_isSmall p0 M F Q3 := by
  unfold w_isSmall at h1 h2 ⊢
  exact ⟨fun c1 => hq _ _ _ (h1.1 c1) (h2.1 c1), fun c2 => ⟨fun c3 => hq _ _ _ ((h1.2 c2).1 c3) ((h2.2 c2).1 c3), fun c4 => hq _ _ _ ((h1.2 c2).2 c4) ((h2.2 c2).2 c4)⟩⟩
theorem cj_isGreat {p0 : Int32} {M : Nat → Int32} {F : Nat → Nat → Int32} {Q1 Q2 Q3 : Int32 → (Nat → Int32) → (Nat → Nat → Int32) → Prop} (h1 : w_isGreat p0 M F Q1) (h2 : w_isGreat p0 M F Q2) (hq : ∀ x0 x1 x2, Q1 x0 x1 x2 → Q2 x0 x1 x2 → Q3 x0 x1 x2) : w_isGreat p0 M F Q3 := by
  unfold w_isGreat at h1 h2 ⊢
  exact ⟨fun c1 => hq _ _ _ (h1.1 c1) (h2.1 c1), fun c2 => ⟨fun c3 => hq _ _ _ ((h1.2 c2).1 c3) ((h2.2 c2).1 c3), fun c4 => hq _ _ _ ((h1.2 c2).2 c4) ((h2.2 c2).2 c4)⟩⟩
theorem cj_isDigit {p0 : Int32} {M : Nat → Int32} {F : Nat → Nat → Int32} {Q1 Q2 Q3 : Int32 → (Nat → Int32) → (Nat → Nat → Int32) → Prop} (h1 : w_isDigit p0 M F Q1) (h2 : w_isDigit p0 M F Q2) (hq : ∀ x0 x1 x2, Q1 x0 x1 x2 → Q2 x0 x1 x2 → Q3 x0 x1 x2) : w_isDigit p0 M F Q3 := by
  unfold w_isDigit at h1 h2 ⊢
  exact ⟨fun c1 => hq _ _ _ (h1.1 c1) (h2.1 c1), fun c2 => ⟨fun c3 => hq _ _ _ ((h1.2 c2).1 c3) ((h2.2 c2).1 c3), fun c4 => hq _ _ _ ((h1.2 c2).2 c4) ((h2.2 c2).2 c4)⟩⟩
theorem cj_isOfWord {p0 : Int32} {M : Nat → Int32} {F : Nat → Nat → Int32} {Q1 Q2 Q3 : Int32 → (Nat → Int32) → (Nat → Nat → Int32) → Prop} (h1 : w_isOfWord p0 M F Q1) (h2 : w_isOfWord p0 M F Q2) (hq : ∀ x0 x1 x2, Q1 x0 x1 x2 → Q2 x0 x1 x2 → Q3 x0 x1 x2) : w_isOfWord p0 M F Q3 := by
  unfold w_isOfWord at h1 h2 ⊢
  exact cj_isSmall h1 h2 (fun _ _ _ a1 b2 => ⟨fun c3 => hq _ _ _ (a1.1 c3) (b2.1 c3), fun c4 => cj_isGreat (a1.2 c4) (b2.2 c4) (fun _ _ _ a5 b6 => ⟨fun c7 => hq _ _ _ (a5.1 c7) (b6.1 c7), fun c8 => cj_isDigit (a5.2 c8) (b6.2 c8) (fun _ _ _ a9 b10 => ⟨fun c11 => hq _ _ _ (a9.1 c11) (b10.1 c11), fun c12 => hq _ _ _ (a9.2 c12) (b10.2 c12)⟩)⟩)⟩)
theorem cj_name_80 {K121 K122 K123 : Int32 → Int32 → (Nat → Int32) → (Nat → Nat → Int32) → Prop} {a1 : Int32} {a2 : Int32} {M : Nat → Int32} {F : Nat → Nat → Int32} {Q1 Q2 Q3 : Int32 → (Nat → Int32) → (Nat → Nat → Int32) → Prop} (h1 : w_name_80 K121 Q1 a1 a2 M F) (h2 : w_name_80 K122 Q2 a1 a2 M F) (hK12 : ∀ x0 x1 x2 x3, K121 x0 x1 x2 x3 → K122 x0 x1 x2 x3 → K123 x0 x1 x2 x3) (hq : ∀ x0 x1 x2, Q1 x0 x1 x2 → Q2 x0 x1 x2 → Q3 x0 x1 x2) : w_name_80 K123 Q3 a1 a2 M F := by
  unfold w_name_80 at h1 h2 ⊢
  exact hK12 _ _ _ _ h1 h2
theorem cj_name_73 {K121 K122 K123 : Int32 → Int32 → (Nat → Int32) → (Nat → Nat → Int32) → Prop} {a1 : Int32} {a2 : Int32} {a3 : Int32} {M : Nat → Int32} {F : Nat → Nat → Int32} {Q1 Q2 Q3 : Int32 → (Nat → Int32) → (Nat → Nat → Int32) → Prop} (h1 : w_name_73 K121 Q1 a1 a2 a3 M F) (h2 : w_name_73 K122 Q2 a1 a2 a3 M F) (hK12 : ∀ x0 x1 x2 x3, K121 x0 x1 x2 x3 → K122 x0 x1 x2 x3 → K123 x0 x1 x2 x3) (hq : ∀ x0 x1 x2, Q1 x0 x1 x2 → Q2 x0 x1 x2 → Q3 x0 x1 x2) : w_name_73 K123 Q3 a1 a2 a3 M F := by
  unfold w_name_73 at h1 h2 ⊢
  exact ⟨fun c1 => cj_name_80 (h1.1 c1) (h2.1 c1) (fun _ _ _ _ a b => hK12 _ _ _ _ a b) hq, fun c2 => hq _ _ _ (h1.2 c2) (h2.2 c2)⟩
theorem cj_name_35 {K121 K122 K123 : Int32 → Int32 → (Nat → Int32) → (Nat → Nat → Int32) → Prop} (hK12 : ∀ x0 x1 x2 x3, K121 x0 x1 x2 x3 → K122 x0 x1 x2 x3 → K123 x0 x1 x2 x3) {Q1 Q2 Q3 : Int32 → (Nat → Int32) → (Nat → Nat → Int32) → Prop} (hq : ∀ x0 x1 x2, Q1 x0 x1 x2 → Q2 x0 x1 x2 → Q3 x0 x1 x2) : ∀ (e1 e2 : Nat) (a1 : Int32) (a2 : Int32) (a3 : Int32) (M : (Nat → Int32)) (F : (Nat → Nat → Int32)), w_name_35 K121 Q1 e1 a1 a2 a3 M F → w_name_35 K122 Q2 e2 a1 a2 a3 M F → w_name_35 K123 Q3 e1 a1 a2 a3 M F := by
  intro e1
  induction e1 with
  | zero => intro e2 a1 a2 a3 M F h1 _; exact h1.elim
  | succ e ih =>
    intro e2
    cases e2 with
    | zero => intro a1 a2 a3 M F _ h2; exact h2.elim
    | succ e2 =>
      intro a1 a2 a3 M F h1 h2
      dsimp only [w_name_35] at h1 h2 ⊢
      exact ⟨fun c1 => cj_name_73 (h1.1 c1) (h2.1 c1) (fun _ _ _ _ a b => hK12 _ _ _ _ a b) hq, fun c2 => ⟨(h1.2 c2).1, ⟨(h1.2 c2).2.1, fun c3 => fun c4 => ⟨(((h1.2 c2).2.2 c3) c4).1, ⟨fun c5 => cj_name_73 ((((h1.2 c2).2.2 c3) c4).2.1 c5) ((((h2.2 c2).2.2 c3) c4).2.1 c5) (fun _ _ _ _ a b => hK12 _ _ _ _ a b) hq, fun c6 => ih e2 _ _ _ _ _ ((((h1.2 c2).2.2 c3) c4).2.2 c6) ((((h2.2 c2).2.2 c3) c4).2.2 c6)⟩⟩⟩⟩⟩
theorem cj_name_12 {Q1 Q2 Q3 : Int32 → (Nat → Int32) → (Nat → Nat → Int32) → Prop} (hq : ∀ x0 x1 x2, Q1 x0 x1 x2 → Q2 x0 x1 x2 → Q3 x0 x1 x2) : ∀ (e1 e2 : Nat) (a1 : Int32) (a2 : Int32) (M : (Nat → Int32)) (F : (Nat → Nat → Int32)), w_name_12 Q1 e1 a1 a2 M F → w_name_12 Q2 e2 a1 a2 M F → w_name_12 Q3 e1 a1 a2 M F := by
  intro e1
  induction e1 with
  | zero => intro e2 a1 a2 M F h1 _; exact h1.elim
  | succ e ih =>
    intro e2
    cases e2 with
    | zero => intro a1 a2 M F _ h2; exact h2.elim
    | succ e2 =>
      intro a1 a2 M F h1 h2
      dsimp only [w_name_12] at h1 h2 ⊢
      exact ⟨fun c1 => ⟨(h1.1 c1).1, ⟨(h1.1 c1).2.1, ⟨(h1.1 c1).2.2.1, ⟨(h1.1 c1).2.2.2.1, hq _ _ _ (h1.1 c1).2.2.2.2 (h2.1 c1).2.2.2.2⟩⟩⟩⟩, fun c2 => ⟨(h1.2 c2).1, ⟨fun c3 => Exists.elim ((h1.2 c2).2.1 c3) (fun e4 g6 => Exists.elim ((h2.2 c2).2.1 c3) (fun e5 g7 => ⟨e4, cj_name_35 (fun _ _ _ _ a b => ih e2 _ _ _ _ a b) hq e4 e5 _ _ _ _ _ g6 g7⟩)), fun c8 => cj_name_80 ((h1.2 c2).2.2 c8) ((h2.2 c2).2.2 c8) (fun _ _ _ _ a b => ih e2 _ _ _ _ a b) hq⟩⟩⟩
theorem cj_name {M : Nat → Int32} {F : Nat → Nat → Int32} {Q1 Q2 Q3 : Int32 → (Nat → Int32) → (Nat → Nat → Int32) → Prop} (h1 : w_name M F Q1) (h2 : w_name M F Q2) (hq : ∀ x0 x1 x2, Q1 x0 x1 x2 → Q2 x0 x1 x2 → Q3 x0 x1 x2) : w_name M F Q3 := by
  unfold w_name at h1 h2 ⊢
  exact Exists.elim h1 (fun e1 g3 => Exists.elim h2 (fun e2 g4 => ⟨e1, cj_name_12 hq e1 e2 _ _ _ _ g3 g4⟩))
theorem cj_among_99 {K151 K152 K153 : Nat → Int32 → Int32 → Int32 → (Nat → Int32) → (Nat → Nat → Int32) → Prop} (hK15 : ∀ x0 x1 x2 x3 x4 x5, K151 x0 x1 x2 x3 x4 x5 → K152 x0 x1 x2 x3 x4 x5 → K153 x0 x1 x2 x3 x4 x5) {Q1 Q2 Q3 : Int32 → (Nat → Int32) → (Nat → Nat → Int32) → Prop} (hq : ∀ x0 x1 x2, Q1 x0 x1 x2 → Q2 x0 x1 x2 → Q3 x0 x1 x2) : ∀ (e1 e2 : Nat) (a1 : Nat) (a2 : Int32) (a3 : Int32) (a4 : Int32) (M : (Nat → Int32)) (F : (Nat → Nat → Int32)), w_among_99 K151 Q1 e1 a1 a2 a3 a4 M F → w_among_99 K152 Q2 e2 a1 a2 a3 a4 M F → w_among_99 K153 Q3 e1 a1 a2 a3 a4 M F := by
  intro e1
  induction e1 with
  | zero => intro e2 a1 a2 a3 a4 M F h1 _; exact h1.elim
  | succ e ih =>
    intro e2
    cases e2 with
    | zero => intro a1 a2 a3 a4 M F _ h2; exact h2.elim
    | succ e2 =>
      intro a1 a2 a3 a4 M F h1 h2
      dsimp only [w_among_99] at h1 h2 ⊢
      exact ⟨h1.1, ⟨fun c1 => hK15 _ _ _ _ _ _ (h1.2.1 c1) (h2.2.1 c1), fun c2 => ih e2 _ _ _ _ _ _ (h1.2.2 c2) (h2.2.2 c2)⟩⟩
theorem cj_among_77 {K151 K152 K153 : Nat → Int32 → Int32 → Int32 → (Nat → Int32) → (Nat → Nat → Int32) → Prop} {a1 : Nat} {a2 : Int32} {a3 : Int32} {a4 : Int32} {a5 : Int32} {M : Nat → Int32} {F : Nat → Nat → Int32} {Q1 Q2 Q3 : Int32 → (Nat → Int32) → (Nat → Nat → Int32) → Prop} (h1 : w_among_77 K151 Q1 a1 a2 a3 a4 a5 M F) (h2 : w_among_77 K152 Q2 a1 a2 a3 a4 a5 M F) (hK15 : ∀ x0 x1 x2 x3 x4 x5, K151 x0 x1 x2 x3 x4 x5 → K152 x0 x1 x2 x3 x4 x5 → K153 x0 x1 x2 x3 x4 x5) (hq : ∀ x0 x1 x2, Q1 x0 x1 x2 → Q2 x0 x1 x2 → Q3 x0 x1 x2) : w_among_77 K153 Q3 a1 a2 a3 a4 a5 M F := by
  unfold w_among_77 at h1 h2 ⊢
  exact ⟨fun c1 => Exists.elim (h1.1 c1) (fun e2 g4 => Exists.elim (h2.1 c1) (fun e3 g5 => ⟨e2, cj_among_99 (fun _ _ _ _ _ _ a b => hK15 _ _ _ _ _ _ a b) hq e2 e3 _ _ _ _ _ _ g4 g5⟩)), fun c6 => ⟨(h1.2 c6).1, ⟨fun c7 => Exists.elim ((h1.2 c6).2.1 c7) (fun e8 g10 => Exists.elim ((h2.2 c6).2.1 c7) (fun e9 g11 => ⟨e8, cj_among_99 (fun _ _ _ _ _ _ a b => hK15 _ _ _ _ _ _ a b) hq e8 e9 _ _ _ _ _ _ g10 g11⟩)), fun c12 => hq _ _ _ ((h1.2 c6).2.2 c12) ((h2.2 c6).2.2 c12)⟩⟩⟩
theorem cj_among_27 {K151 K152 K153 : Nat → Int32 → Int32 → Int32 → (Nat → Int32) → (Nat → Nat → Int32) → Prop} (hK15 : ∀ x0 x1 x2 x3 x4 x5, K151 x0 x1 x2 x3 x4 x5 → K152 x0 x1 x2 x3 x4 x5 → K153 x0 x1 x2 x3 x4 x5) {Q1 Q2 Q3 : Int32 → (Nat → Int32) → (Nat → Nat → Int32) → Prop} (hq : ∀ x0 x1 x2, Q1 x0 x1 x2 → Q2 x0 x1 x2 → Q3 x0 x1 x2) : ∀ (e1 e2 : Nat) (a1 : Nat) (a2 : Int32) (a3 : Int32) (a4 : Int32) (a5 : Int32) (M : (Nat → Int32)) (F : (Nat → Nat → Int32)), w_among_27 K151 Q1 e1 a1 a2 a3 a4 a5 M F → w_among_27 K152 Q2 e2 a1 a2 a3 a4 a5 M F → w_among_27 K153 Q3 e1 a1 a2 a3 a4 a5 M F := by
  intro e1
  induction e1 with
  | zero => intro e2 a1 a2 a3 a4 a5 M F h1 _; exact h1.elim
  | succ e ih =>
    intro e2
    cases e2 with
    | zero => intro a1 a2 a3 a4 a5 M F _ h2; exact h2.elim
    | succ e2 =>
      intro a1 a2 a3 a4 a5 M F h1 h2
      dsimp only [w_among_27] at h1 h2 ⊢
      exact ⟨fun c1 => cj_among_77 (h1.1 c1) (h2.1 c1) (fun _ _ _ _ _ _ a b => hK15 _ _ _ _ _ _ a b) hq, fun c2 => ⟨(h1.2 c2).1, ⟨fun c3 => cj_among_77 ((h1.2 c2).2.1 c3) ((h2.2 c2).2.1 c3) (fun _ _ _ _ _ _ a b => hK15 _ _ _ _ _ _ a b) hq, fun c4 => ⟨((h1.2 c2).2.2 c4).1, ⟨((h1.2 c2).2.2 c4).2.1, ⟨fun c5 => cj_among_77 (((h1.2 c2).2.2 c4).2.2.1 c5) (((h2.2 c2).2.2 c4).2.2.1 c5) (fun _ _ _ _ _ _ a b => hK15 _ _ _ _ _ _ a b) hq, fun c6 => ih e2 _ _ _ _ _ _ _ (((h1.2 c2).2.2 c4).2.2.2 c6) (((h2.2 c2).2.2 c4).2.2.2 c6)⟩⟩⟩⟩⟩⟩
theorem cj_among_15 {Q1 Q2 Q3 : Int32 → (Nat → Int32) → (Nat → Nat → Int32) → Prop} (hq : ∀ x0 x1 x2, Q1 x0 x1 x2 → Q2 x0 x1 x2 → Q3 x0 x1 x2) : ∀ (e1 e2 : Nat) (a1 : Nat) (a2 : Int32) (a3 : Int32) (a4 : Int32) (M : (Nat → Int32)) (F : (Nat → Nat → Int32)), w_among_15 Q1 e1 a1 a2 a3 a4 M F → w_among_15 Q2 e2 a1 a2 a3 a4 M F → w_among_15 Q3 e1 a1 a2 a3 a4 M F := by
  intro e1
  induction e1 with
  | zero => intro e2 a1 a2 a3 a4 M F h1 _; exact h1.elim
  | succ e ih =>
    intro e2
    cases e2 with
    | zero => intro a1 a2 a3 a4 M F _ h2; exact h2.elim
    | succ e2 =>
      intro a1 a2 a3 a4 M F h1 h2
      dsimp only [w_among_15] at h1 h2 ⊢
      exact ⟨fun c1 => hq _ _ _ (h1.1 c1) (h2.1 c1), fun c2 => Exists.elim (h1.2 c2) (fun e3 g5 => Exists.elim (h2.2 c2) (fun e4 g6 => ⟨e3, cj_among_27 (fun _ _ _ _ _ _ a b => ih e2 _ _ _ _ _ _ a b) hq e3 e4 _ _ _ _ _ _ _ g5 g6⟩))⟩
theorem cj_among {si : Nat} {M : Nat → Int32} {F : Nat → Nat → Int32} {Q1 Q2 Q3 : Int32 → (Nat → Int32) → (Nat → Nat → Int32) → Prop} (h1 : w_among si M F Q1) (h2 : w_among si M F Q2) (hq : ∀ x0 x1 x2, Q1 x0 x1 x2 → Q2 x0 x1 x2 → Q3 x0 x1 x2) : w_among si M F Q3 := by
  unfold w_among at h1 h2 ⊢
  exact Exists.elim h1 (fun e1 g3 => Exists.elim h2 (fun e2 g4 => ⟨e1, cj_among_15 hq e1 e2 _ _ _ _ _ _ g3 g4⟩))
theorem cj_wordToken_186 {t1 : Int32} {M : Nat → Int32} {F : Nat → Nat → Int32} {Q1 Q2 Q3 : (Nat → Int32) → (Nat → Nat → Int32) → Prop} (h1 : w_wordToken_186 Q1 t1 M F) (h2 : w_wordToken_186 Q2 t1 M F) (hq : ∀ x0 x1, Q1 x0 x1 → Q2 x0 x1 → Q3 x0 x1) : w_wordToken_186 Q3 t1 M F := by
  unfold w_wordToken_186 at h1 h2 ⊢
  exact hq _ _ h1 h2
theorem cj_wordToken_159 {t2 : Nat} {M : Nat → Int32} {F : Nat → Nat → Int32} {Q1 Q2 Q3 : (Nat → Int32) → (Nat → Nat → Int32) → Prop} (h1 : w_wordToken_159 Q1 t2 M F) (h2 : w_wordToken_159 Q2 t2 M F) (hq : ∀ x0 x1, Q1 x0 x1 → Q2 x0 x1 → Q3 x0 x1) : w_wordToken_159 Q3 t2 M F := by
  unfold w_wordToken_159 at h1 h2 ⊢
  exact cj_among h1 h2 (fun _ _ _ a1 b2 => ⟨fun c3 => cj_name (a1.1 c3) (b2.1 c3) (fun _ _ _ a4 b5 => hq _ _ a4 b5), fun c6 => ⟨fun c7 => cj_wordToken_186 ((a1.2 c6).1 c7) ((b2.2 c6).1 c7) hq, fun c8 => cj_wordToken_186 ((a1.2 c6).2 c8) ((b2.2 c6).2 c8) hq⟩⟩)
theorem cj_wordToken_129 {t1 : Int32} {M : Nat → Int32} {F : Nat → Nat → Int32} {Q1 Q2 Q3 : (Nat → Int32) → (Nat → Nat → Int32) → Prop} (h1 : w_wordToken_129 Q1 t1 M F) (h2 : w_wordToken_129 Q2 t1 M F) (hq : ∀ x0 x1, Q1 x0 x1 → Q2 x0 x1 → Q3 x0 x1) : w_wordToken_129 Q3 t1 M F := by
  unfold w_wordToken_129 at h1 h2 ⊢
  exact ⟨fun c1 => ⟨fun c2 => cj_wordToken_159 ((h1.1 c1).1 c2) ((h2.1 c1).1 c2) hq, fun c3 => cj_wordToken_159 ((h1.1 c1).2 c3) ((h2.1 c1).2 c3) hq⟩, fun c4 => hq _ _ (h1.2 c4) (h2.2 c4)⟩
theorem cj_wordToken_77 {K431 K432 K433 : Int32 → (Nat → Int32) → (Nat → Nat → Int32) → Prop} {a3 : Int32} {M : Nat → Int32} {F : Nat → Nat → Int32} {Q1 Q2 Q3 : (Nat → Int32) → (Nat → Nat → Int32) → Prop} (h1 : w_wordToken_77 K431 Q1 a3 M F) (h2 : w_wordToken_77 K432 Q2 a3 M F) (hK43 : ∀ x0 x1 x2, K431 x0 x1 x2 → K432 x0 x1 x2 → K433 x0 x1 x2) (hq : ∀ x0 x1, Q1 x0 x1 → Q2 x0 x1 → Q3 x0 x1) : w_wordToken_77 K433 Q3 a3 M F := by
  unfold w_wordToken_77 at h1 h2 ⊢
  exact ⟨h1.1, fun c1 => fun c2 => hK43 _ _ _ ((h1.2 c1) c2) ((h2.2 c1) c2)⟩
theorem cj_wordToken_43 {Q1 Q2 Q3 : (Nat → Int32) → (Nat → Nat → Int32) → Prop} (hq : ∀ x0 x1, Q1 x0 x1 → Q2 x0 x1 → Q3 x0 x1) : ∀ (e1 e2 : Nat) (a3 : Int32) (M : (Nat → Int32)) (F : (Nat → Nat → Int32)), w_wordToken_43 Q1 e1 a3 M F → w_wordToken_43 Q2 e2 a3 M F → w_wordToken_43 Q3 e1 a3 M F := by
  intro e1
  induction e1 with
  | zero => intro e2 a3 M F h1 _; exact h1.elim
  | succ e ih =>
    intro e2
    cases e2 with
    | zero => intro a3 M F _ h2; exact h2.elim
    | succ e2 =>
      intro a3 M F h1 h2
      dsimp only [w_wordToken_43] at h1 h2 ⊢
      exact ⟨fun c1 => hq _ _ (h1.1 c1) (h2.1 c1), fun c2 => ⟨fun c3 => hq _ _ ((h1.2 c2).1 c3) ((h2.2 c2).1 c3), fun c4 => ⟨((h1.2 c2).2 c4).1, cj_isDigit ((h1.2 c2).2 c4).2 ((h2.2 c2).2 c4).2 (fun _ _ _ a5 b6 => ⟨fun c7 => cj_wordToken_77 (a5.1 c7) (b6.1 c7) (fun _ _ _ a b => ih e2 _ _ _ a b) hq, fun c8 => cj_wordToken_77 (a5.2 c8) (b6.2 c8) (fun _ _ _ a b => ih e2 _ _ _ a b) hq⟩)⟩⟩⟩
theorem cj_wordToken_30 {t1 : Int32} {M : Nat → Int32} {F : Nat → Nat → Int32} {Q1 Q2 Q3 : (Nat → Int32) → (Nat → Nat → Int32) → Prop} (h1 : w_wordToken_30 Q1 t1 M F) (h2 : w_wordToken_30 Q2 t1 M F) (hq : ∀ x0 x1, Q1 x0 x1 → Q2 x0 x1 → Q3 x0 x1) : w_wordToken_30 Q3 t1 M F := by
  unfold w_wordToken_30 at h1 h2 ⊢
  exact Exists.elim h1 (fun e1 g3 => Exists.elim h2 (fun e2 g4 => ⟨e1, cj_wordToken_43 hq e1 e2 _ _ _ g3 g4⟩))
theorem cj_wordToken {p1 : Int32} {M : Nat → Int32} {F : Nat → Nat → Int32} {Q1 Q2 Q3 : (Nat → Int32) → (Nat → Nat → Int32) → Prop} (h1 : w_wordToken p1 M F Q1) (h2 : w_wordToken p1 M F Q2) (hq : ∀ x0 x1, Q1 x0 x1 → Q2 x0 x1 → Q3 x0 x1) : w_wordToken p1 M F Q3 := by
  unfold w_wordToken at h1 h2 ⊢
  exact cj_isDigit h1 h2 (fun _ _ _ a1 b2 => ⟨fun c3 => ⟨fun c4 => cj_isSmall ((a1.1 c3).1 c4) ((b2.1 c3).1 c4) (fun _ _ _ a5 b6 => ⟨fun c7 => cj_wordToken_129 (a5.1 c7) (b6.1 c7) hq, fun c8 => cj_wordToken_129 (a5.2 c8) (b6.2 c8) hq⟩), fun c9 => cj_wordToken_129 ((a1.1 c3).2 c9) ((b2.1 c3).2 c9) hq⟩, fun c10 => ⟨fun c11 => cj_wordToken_30 ((a1.2 c10).1 c11) ((b2.2 c10).1 c11) hq, fun c12 => cj_wordToken_30 ((a1.2 c10).2 c12) ((b2.2 c10).2 c12) hq⟩⟩)
theorem cj_next_229 {a2 : Int32} {M : Nat → Int32} {F : Nat → Nat → Int32} {Q1 Q2 Q3 : (Nat → Int32) → (Nat → Nat → Int32) → Prop} (h1 : w_next_229 Q1 a2 M F) (h2 : w_next_229 Q2 a2 M F) (hq : ∀ x0 x1, Q1 x0 x1 → Q2 x0 x1 → Q3 x0 x1) : w_next_229 Q3 a2 M F := by
  unfold w_next_229 at h1 h2 ⊢
  exact ⟨fun c1 => hq _ _ (h1.1 c1) (h2.1 c1), fun c2 => ⟨fun c3 => hq _ _ ((h1.2 c2).1 c3) ((h2.2 c2).1 c3), fun c4 => ⟨fun c5 => hq _ _ (((h1.2 c2).2 c4).1 c5) (((h2.2 c2).2 c4).1 c5), fun c6 => ⟨fun c7 => hq _ _ ((((h1.2 c2).2 c4).2 c6).1 c7) ((((h2.2 c2).2 c4).2 c6).1 c7), fun c8 => ⟨fun c9 => hq _ _ (((((h1.2 c2).2 c4).2 c6).2 c8).1 c9) (((((h2.2 c2).2 c4).2 c6).2 c8).1 c9), fun c10 => ⟨fun c11 => hq _ _ ((((((h1.2 c2).2 c4).2 c6).2 c8).2 c10).1 c11) ((((((h2.2 c2).2 c4).2 c6).2 c8).2 c10).1 c11), fun c12 => ⟨fun c13 => hq _ _ (((((((h1.2 c2).2 c4).2 c6).2 c8).2 c10).2 c12).1 c13) (((((((h2.2 c2).2 c4).2 c6).2 c8).2 c10).2 c12).1 c13), fun c14 => ⟨fun c15 => hq _ _ ((((((((h1.2 c2).2 c4).2 c6).2 c8).2 c10).2 c12).2 c14).1 c15) ((((((((h2.2 c2).2 c4).2 c6).2 c8).2 c10).2 c12).2 c14).1 c15), fun c16 => ⟨fun c17 => hq _ _ (((((((((h1.2 c2).2 c4).2 c6).2 c8).2 c10).2 c12).2 c14).2 c16).1 c17) (((((((((h2.2 c2).2 c4).2 c6).2 c8).2 c10).2 c12).2 c14).2 c16).1 c17), fun c18 => ⟨fun c19 => hq _ _ ((((((((((h1.2 c2).2 c4).2 c6).2 c8).2 c10).2 c12).2 c14).2 c16).2 c18).1 c19) ((((((((((h2.2 c2).2 c4).2 c6).2 c8).2 c10).2 c12).2 c14).2 c16).2 c18).1 c19), fun c20 => ⟨fun c21 => hq _ _ (((((((((((h1.2 c2).2 c4).2 c6).2 c8).2 c10).2 c12).2 c14).2 c16).2 c18).2 c20).1 c21) (((((((((((h2.2 c2).2 c4).2 c6).2 c8).2 c10).2 c12).2 c14).2 c16).2 c18).2 c20).1 c21), fun c22 => ⟨fun c23 => hq _ _ ((((((((((((h1.2 c2).2 c4).2 c6).2 c8).2 c10).2 c12).2 c14).2 c16).2 c18).2 c20).2 c22).1 c23) ((((((((((((h2.2 c2).2 c4).2 c6).2 c8).2 c10).2 c12).2 c14).2 c16).2 c18).2 c20).2 c22).1 c23), fun c24 => ⟨fun c25 => hq _ _ (((((((((((((h1.2 c2).2 c4).2 c6).2 c8).2 c10).2 c12).2 c14).2 c16).2 c18).2 c20).2 c22).2 c24).1 c25) (((((((((((((h2.2 c2).2 c4).2 c6).2 c8).2 c10).2 c12).2 c14).2 c16).2 c18).2 c20).2 c22).2 c24).1 c25), fun c26 => hq _ _ (((((((((((((h1.2 c2).2 c4).2 c6).2 c8).2 c10).2 c12).2 c14).2 c16).2 c18).2 c20).2 c22).2 c24).2 c26) (((((((((((((h2.2 c2).2 c4).2 c6).2 c8).2 c10).2 c12).2 c14).2 c16).2 c18).2 c20).2 c22).2 c24).2 c26)⟩⟩⟩⟩⟩⟩⟩⟩⟩⟩⟩⟩⟩
theorem cj_next_190 {a2 : Int32} {M : Nat → Int32} {F : Nat → Nat → Int32} {Q1 Q2 Q3 : (Nat → Int32) → (Nat → Nat → Int32) → Prop} (h1 : w_next_190 Q1 a2 M F) (h2 : w_next_190 Q2 a2 M F) (hq : ∀ x0 x1, Q1 x0 x1 → Q2 x0 x1 → Q3 x0 x1) : w_next_190 Q3 a2 M F := by
  unfold w_next_190 at h1 h2 ⊢
  exact ⟨fun c1 => cj_next_229 (h1.1 c1) (h2.1 c1) hq, fun c2 => cj_byteAt (h1.2 c2) (h2.2 c2) (fun _ _ _ a3 b4 => ⟨fun c5 => cj_next_229 (a3.1 c5) (b4.1 c5) hq, fun c6 => hq _ _ (a3.2 c6) (b4.2 c6)⟩)⟩
theorem cj_next_107 {Q1 Q2 Q3 : (Nat → Int32) → (Nat → Nat → Int32) → Prop} (hq : ∀ x0 x1, Q1 x0 x1 → Q2 x0 x1 → Q3 x0 x1) : ∀ (e1 e2 : Nat) (a2 : Int32) (M : (Nat → Int32)) (F : (Nat → Nat → Int32)), w_next_107 Q1 e1 a2 M F → w_next_107 Q2 e2 a2 M F → w_next_107 Q3 e1 a2 M F := by
  intro e1
  induction e1 with
  | zero => intro e2 a2 M F h1 _; exact h1.elim
  | succ e ih =>
    intro e2
    cases e2 with
    | zero => intro a2 M F _ h2; exact h2.elim
    | succ e2 =>
      intro a2 M F h1 h2
      dsimp only [w_next_107] at h1 h2 ⊢
      exact cj_byteAt h1 h2 (fun _ _ _ a1 b2 => cj_isOfWord a1 b2 (fun _ _ _ a3 b4 => ⟨fun c5 => cj_wordToken (a3.1 c5) (b4.1 c5) (fun _ _ a6 b7 => hq _ _ a6 b7), fun c8 => ih e2 _ _ _ (a3.2 c8) (b4.2 c8)⟩))
theorem cj_next_63 {a1 : Int32} {M : Nat → Int32} {F : Nat → Nat → Int32} {Q1 Q2 Q3 : (Nat → Int32) → (Nat → Nat → Int32) → Prop} (h1 : w_next_63 Q1 a1 M F) (h2 : w_next_63 Q2 a1 M F) (hq : ∀ x0 x1, Q1 x0 x1 → Q2 x0 x1 → Q3 x0 x1) : w_next_63 Q3 a1 M F := by
  unfold w_next_63 at h1 h2 ⊢
  exact cj_byteAt h1 h2 (fun _ _ _ a1 b2 => ⟨fun c3 => cj_isOfWord (a1.1 c3) (b2.1 c3) (fun _ _ _ a4 b5 => ⟨fun c6 => ⟨fun c7 => cj_next_190 ((a4.1 c6).1 c7) ((b5.1 c6).1 c7) hq, fun c8 => cj_byteAt ((a4.1 c6).2 c8) ((b5.1 c6).2 c8) (fun _ _ _ a9 b10 => ⟨fun c11 => cj_next_190 (a9.1 c11) (b10.1 c11) hq, fun c12 => hq _ _ (a9.2 c12) (b10.2 c12)⟩)⟩, fun c13 => Exists.elim (a4.2 c13) (fun e14 g16 => Exists.elim (b5.2 c13) (fun e15 g17 => ⟨e14, cj_next_107 hq e14 e15 _ _ _ g16 g17⟩))⟩), fun c18 => hq _ _ (a1.2 c18) (b2.2 c18)⟩)
theorem cj_next_57 {K51 K52 K53 : Int32 → (Nat → Int32) → (Nat → Nat → Int32) → Prop} {a1 : Int32} {M : Nat → Int32} {F : Nat → Nat → Int32} {Q1 Q2 Q3 : (Nat → Int32) → (Nat → Nat → Int32) → Prop} (h1 : w_next_57 K51 Q1 a1 M F) (h2 : w_next_57 K52 Q2 a1 M F) (hK5 : ∀ x0 x1 x2, K51 x0 x1 x2 → K52 x0 x1 x2 → K53 x0 x1 x2) (hq : ∀ x0 x1, Q1 x0 x1 → Q2 x0 x1 → Q3 x0 x1) : w_next_57 K53 Q3 a1 M F := by
  unfold w_next_57 at h1 h2 ⊢
  exact hK5 _ _ _ h1 h2
theorem cj_next_5 {Q1 Q2 Q3 : (Nat → Int32) → (Nat → Nat → Int32) → Prop} (hq : ∀ x0 x1, Q1 x0 x1 → Q2 x0 x1 → Q3 x0 x1) : ∀ (e1 e2 : Nat) (a1 : Int32) (M : (Nat → Int32)) (F : (Nat → Nat → Int32)), w_next_5 Q1 e1 a1 M F → w_next_5 Q2 e2 a1 M F → w_next_5 Q3 e1 a1 M F := by
  intro e1
  induction e1 with
  | zero => intro e2 a1 M F h1 _; exact h1.elim
  | succ e ih =>
    intro e2
    cases e2 with
    | zero => intro a1 M F _ h2; exact h2.elim
    | succ e2 =>
      intro a1 M F h1 h2
      dsimp only [w_next_5] at h1 h2 ⊢
      exact ⟨fun c1 => cj_next_63 (h1.1 c1) (h2.1 c1) hq, fun c2 => ⟨(h1.2 c2).1, ⟨fun c3 => cj_next_57 ((h1.2 c2).2.1 c3) ((h2.2 c2).2.1 c3) (fun _ _ _ a b => ih e2 _ _ _ a b) hq, fun c4 => ⟨((h1.2 c2).2.2 c4).1, ⟨fun c5 => cj_next_57 (((h1.2 c2).2.2 c4).2.1 c5) (((h2.2 c2).2.2 c4).2.1 c5) (fun _ _ _ a b => ih e2 _ _ _ a b) hq, fun c6 => ⟨(((h1.2 c2).2.2 c4).2.2 c6).1, ⟨fun c7 => cj_next_57 ((((h1.2 c2).2.2 c4).2.2 c6).2.1 c7) ((((h2.2 c2).2.2 c4).2.2 c6).2.1 c7) (fun _ _ _ a b => ih e2 _ _ _ a b) hq, fun c8 => ⟨((((h1.2 c2).2.2 c4).2.2 c6).2.2 c8).1, ⟨fun c9 => cj_next_63 (((((h1.2 c2).2.2 c4).2.2 c6).2.2 c8).2.1 c9) (((((h2.2 c2).2.2 c4).2.2 c6).2.2 c8).2.1 c9) hq, fun c10 => cj_next_57 (((((h1.2 c2).2.2 c4).2.2 c6).2.2 c8).2.2 c10) (((((h2.2 c2).2.2 c4).2.2 c6).2.2 c8).2.2 c10) (fun _ _ _ a b => ih e2 _ _ _ a b) hq⟩⟩⟩⟩⟩⟩⟩⟩⟩
theorem cj_next {M : Nat → Int32} {F : Nat → Nat → Int32} {Q1 Q2 Q3 : (Nat → Int32) → (Nat → Nat → Int32) → Prop} (h1 : w_next M F Q1) (h2 : w_next M F Q2) (hq : ∀ x0 x1, Q1 x0 x1 → Q2 x0 x1 → Q3 x0 x1) : w_next M F Q3 := by
  unfold w_next at h1 h2 ⊢
  exact Exists.elim h1 (fun e1 g3 => Exists.elim h2 (fun e2 g4 => ⟨e1, cj_next_5 hq e1 e2 _ _ _ g3 g4⟩))
end CJ1
