theorem rpS_c {B : Nat → Nat} {f io n T M : Nat} {ov : Bool} (h : rpS B f io n ov T) (hT : T = M) : n ≤ 255 ∧ n ≤ M := by
  obtain ⟨h1, h2, h3, h4⟩ := h
  refine ⟨h1, ?_⟩
  cases ov with
  | false => have := h3 rfl; omega
  | true => have := (h4 rfl).2.1; omega
theorem rpS_e {B : Nat → Nat} {f io n T k : Nat} {ov : Bool} (h : rpS B f io n ov T) (hT : T = 13 * (io + 1)) (hk : ov = true → k = 0) : ov = true → k = 0 ∧ 13 * (io + 1 - 1) < n ∧ n < 13 * (io + 1) ∧ mt B f n = 0 ∧ ∀ t, n < t → t < 13 * (io + 1) → mt B f t = 65535 := by
  intro ho
  obtain ⟨a1, a2, a3, a4⟩ := h.2.2.2 ho
  exact ⟨hk ho, by omega, by omega, a3, fun t q1 q2 => a4 t q1 (by omega)⟩
theorem ow_s {B : Nat → Nat} {f io p9 su i2 : Nat} (hw : ∀ p8 b8, 1 ≤ p8 → p8 ≤ io → b8 < 28 → owB b8 = true → B (f - 32 * p8 + b8) = duN b8 p8 (if p8 = p9 then 1 else 0) su) (hw2 : ∀ b8, b8 < i2 → owB b8 = true → B (f - 32 * (io + 1) + b8) = duN b8 (io + 1) (if io + 1 = p9 then 1 else 0) su) (hi : i2 = 28) :
    ∀ p8 b8, 1 ≤ p8 → p8 ≤ io + 1 → b8 < 28 → owB b8 = true → B (f - 32 * p8 + b8) = duN b8 p8 (if p8 = p9 then 1 else 0) su := by
  intro p8 b8 h1 h2 h3 h4
  by_cases e : p8 = io + 1
  · rw [e]; exact hw2 b8 (by omega) h4
  · exact hw p8 b8 h1 (by omega) h3 h4
theorem ow_2 {B : Nat → Nat} {f io p9 su i2 : Nat} (hw2 : ∀ b8, b8 < i2 → owB b8 = true → B (f - 32 * (io + 1) + b8) = duN b8 (io + 1) (if io + 1 = p9 then 1 else 0) su) (h : owB i2 = true → B (f - 32 * (io + 1) + i2) = duN i2 (io + 1) (if io + 1 = p9 then 1 else 0) su) :
    ∀ b8, b8 < i2 + 1 → owB b8 = true → B (f - 32 * (io + 1) + b8) = duN b8 (io + 1) (if io + 1 = p9 then 1 else 0) su := by
  intro b8 h1 h2
  by_cases e : b8 = i2
  · rw [e] at h2 ⊢; exact h h2
  · exact hw2 b8 (by omega) h2
