theorem uf_cg {v w : Nat → Nat} {n j : Nat} (h : ∀ j, j < n → v j = w j) : ufN v n j = ufN w n j := by
  unfold ufN
  split
  · rename_i e
    exact h j e
  · rfl
theorem bdL_cg {v w : Nat → Nat} {n q : Nat} {b : Nat → Nat} (h : ∀ j, j < n → v j = w j) : ∀ i, bdL v n q b i = bdL w n q b i
  | 0 => rfl
  | i + 1 => by
    unfold bdL
    rw [bdL_cg h i, uf_cg h]
theorem wpB_cg {v w : Nat → Nat} {n su : Nat} {pb : Nat → Nat} (h : ∀ j, j < n → v j = w j) : ∀ i, wpB v n su pb i = wpB w n su pb i
  | 0 => rfl
  | i + 1 => by
    unfold wpB bdN
    rw [wpB_cg h i, bdL_cg h]
theorem wsB_cg {v w : Nat → Nat} {n su e : Nat} {pb B : Nat → Nat} (h : ∀ j, j < n → v j = w j) : ∀ i, wsB v n su e pb B i = wsB w n su e pb B i
  | 0 => rfl
  | i + 1 => by
    unfold wsB
    rw [wsB_cg h i, wpB_cg h]
theorem bo_sp (b : Nat → Nat) : ∀ k i e, boN b k i e = true ↔ ∀ j, j < k → b (i + j) = 32 ∨ (okS (b (i + j)) = true ∧ e = 0 ∧ ∀ t, t < j → b (i + t) ≠ 32)
  | 0, _, _ => ⟨fun _ j h => by omega, fun _ => rfl⟩
  | k + 1, i, e => by
    unfold boN
    split
    · rename_i h
      rw [bo_sp b k (i + 1) 1]
      constructor
      · intro q j hj
        cases j with
        | zero => exact Or.inl h
        | succ j =>
          rcases q j (by omega) with a | a
          · exact Or.inl (by rw [show i + (j + 1) = i + 1 + j by omega]; exact a)
          · exact absurd a.2.1 (by decide)
      · intro q j hj
        rcases q (j + 1) (by omega) with a | a
        · exact Or.inl (by rw [show i + 1 + j = i + (j + 1) by omega]; exact a)
        · exact absurd h (a.2.2 0 (by omega))
    · rename_i h
      split
      · rename_i h2
        rw [bo_sp b k (i + 1) e]
        constructor
        · intro q j hj
          cases j with
          | zero => exact Or.inr ⟨h2.2, h2.1, fun t ht => by omega⟩
          | succ j =>
            rw [show i + (j + 1) = i + 1 + j by omega]
            rcases q j (by omega) with a | a
            · exact Or.inl a
            · refine Or.inr ⟨a.1, a.2.1, fun t ht => ?_⟩
              cases t with
              | zero => exact h
              | succ t => rw [show i + (t + 1) = i + 1 + t by omega]; exact a.2.2 t (by omega)
        · intro q j hj
          rw [show i + 1 + j = i + (j + 1) by omega]
          rcases q (j + 1) (by omega) with a | a
          · exact Or.inl a
          · exact Or.inr ⟨a.1, a.2.1, fun t ht => by rw [show i + 1 + t = i + (t + 1) by omega]; exact a.2.2 (t + 1) (by omega)⟩
      · rename_i h2
        refine ⟨fun q => (by cases q), fun q => ?_⟩
        rcases q 0 (by omega) with a | a
        · exact absurd a h
        · exact absurd ⟨a.2.1, a.1⟩ h2
/-- no blank before a sign: by its neighbour alone -/
theorem bo_nb {b : Nat → Nat} {o k : Nat} : (∀ j, j < k → b (o + j) = 32 ∨ (okS (b (o + j)) = true ∧ (0 : Nat) = 0 ∧ ∀ t, t < j → b (o + t) ≠ 32)) ↔ ∀ j, j < k → (b (o + j) = 32 ∨ okS (b (o + j)) = true) ∧ (b (o + j) = 32 ∨ j = 0 ∨ b (o + (j - 1)) ≠ 32) := by
  constructor
  · intro q j hj
    rcases q j hj with a | a
    · exact ⟨Or.inl a, Or.inl a⟩
    · refine ⟨Or.inr a.1, Or.inr ?_⟩
      by_cases e : j = 0
      · exact Or.inl e
      · exact Or.inr (a.2.2 (j - 1) (by omega))
  · intro q j
    induction j with
    | zero =>
      intro hj
      rcases (q 0 hj).1 with a | a
      · exact Or.inl a
      · exact Or.inr ⟨a, rfl, fun t ht => by omega⟩
    | succ j ih =>
      intro hj
      obtain ⟨a, c⟩ := q (j + 1) hj
      by_cases e : b (o + (j + 1)) = 32
      · exact Or.inl e
      · refine Or.inr ⟨a.resolve_left e, rfl, fun t ht => ?_⟩
        have c2 := (c.resolve_left e).resolve_left (by omega)
        rw [Nat.add_sub_cancel] at c2
        by_cases e2 : t = j
        · rw [e2]; exact c2
        · rcases ih (by omega) with d | d
          · exact absurd d c2
          · exact d.2.2 t (by omega)
theorem bo_f (b : Nat → Nat) (k o : Nat) : boN b k o 0 = true ↔ ∀ j, j < k → (b (o + j) = 32 ∨ okS (b (o + j)) = true) ∧ (b (o + j) = 32 ∨ j = 0 ∨ b (o + (j - 1)) ≠ 32) := (bo_sp b k o 0).trans bo_nb
theorem val_eq {b B : Nat → Nat} {q : Nat} : valN (cpN b B (q * 32) 11) = isF B (32 * q) := by
  have hc : ∀ j, j < 11 → cpN b B (q * 32) 11 j = B (32 * q + j) := by
    intro j hj
    unfold cpN
    rw [if_pos hj, show q * 32 = 32 * q by omega]
  have h0 := hc 0 (by omega)
  rw [Bool.eq_iff_iff]
  simp only [valN, isF, isK, decide_eq_true_eq, bo_f]
  generalize cpN b B (q * 32) 11 = c at hc h0
  rw [h0, Nat.add_zero]
  constructor
  · intro ⟨a1, a2, a3⟩
    refine ⟨a1, fun i hi => ?_⟩
    by_cases e : i < 8
    · have := a2 i e
      rw [Nat.zero_add, Nat.zero_add, hc i hi, hc (i - 1) (by omega)] at this
      refine isJ_of this.1 ?_
      rcases this.2 with d | d | d
      · exact Or.inl d
      · exact Or.inr (Or.inl d)
      · by_cases e0 : i = 0
        · exact Or.inr (Or.inl e0)
        · exact Or.inr (Or.inr (Or.inr (by rw [show 32 * q + i - 1 = 32 * q + (i - 1) by omega]; exact d)))
    · have := a3 (i - 8) (by omega)
      rw [show 8 + (i - 8) = i by omega, hc i hi] at this
      refine isJ_of this.1 ?_
      by_cases e8 : i = 8
      · exact Or.inr (Or.inr (Or.inl e8))
      · rcases this.2 with d | d | d
        · exact Or.inl d
        · omega
        · rw [show 8 + (i - 8 - 1) = i - 1 by omega, hc (i - 1) (by omega)] at d
          exact Or.inr (Or.inr (Or.inr (by rw [show 32 * q + i - 1 = 32 * q + (i - 1) by omega]; exact d)))
  · intro ⟨a1, a2⟩
    refine ⟨a1, fun i hi => ?_, fun i hi => ?_⟩
    · have := isJ_to (a2 i (by omega))
      rw [Nat.zero_add, Nat.zero_add, hc i (by omega), hc (i - 1) (by omega)]
      refine ⟨this.1, ?_⟩
      by_cases e0 : i = 0
      · exact Or.inr (Or.inl e0)
      · rcases this.2 with d | d | d | d
        · exact Or.inl d
        · exact Or.inr (Or.inl d)
        · omega
        · exact Or.inr (Or.inr (by rw [show 32 * q + (i - 1) = 32 * q + i - 1 by omega]; exact d))
    · have := isJ_to (a2 (8 + i) (by omega))
      rw [hc (8 + i) (by omega)]
      refine ⟨this.1, ?_⟩
      by_cases e0 : i = 0
      · exact Or.inr (Or.inl e0)
      · rw [hc (8 + (i - 1)) (by omega)]
        rcases this.2 with d | d | d | d
        · exact Or.inl d
        · omega
        · omega
        · exact Or.inr (Or.inr (by rw [show 32 * q + (8 + (i - 1)) = 32 * q + (8 + i) - 1 by omega]; exact d))
