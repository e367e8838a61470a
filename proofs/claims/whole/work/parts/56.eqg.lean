/-! the parts that read takes -/
theorem mt_un {B : Nat → Nat} {q t : Nat} (h : t / 13 + 1 ≤ q) : mt B (32 * q) t = unN B q t := by
  unfold mt unN uiN
  rw [show (q - (t / 13 + 1)) * 32 = 32 * q - 32 * (t / 13 + 1) by omega, ← Nat.add_assoc]
theorem co_sp (f : Nat → Nat) : ∀ k t, t ≤ 255 → t ≤ coC f k t ∧ coC f k t ≤ t + k ∧ (∀ x, t ≤ x → x < coC f k t → f x ≠ 0) ∧ (coC f k t < t + k → f (coC f k t) = 0 ∨ coC f k t = 255)
  | 0, t, _ => ⟨Nat.le_refl t, Nat.le_refl t, fun x h1 h2 => absurd h2 (Nat.not_lt.mpr h1), fun h => absurd h (Nat.lt_irrefl _)⟩
  | k + 1, t, ht => by
    unfold coC
    split
    · rename_i h
      exact ⟨Nat.le_refl t, by omega, fun x h1 h2 => absurd h2 (Nat.not_lt.mpr h1), fun _ => h⟩
    · rename_i h
      obtain ⟨a, b, c, d⟩ := co_sp f k (t + 1) (by omega)
      refine ⟨by omega, by omega, fun x h1 h2 => ?_, fun h9 => d (by omega)⟩
      by_cases e : x = t
      · rw [e]; exact fun q => h (Or.inl q)
      · exact c x (by omega) h2
/-- the count by its own words -/
theorem co_un {f : Nat → Nat} {M c : Nat} (h1 : c ≤ 255) (h2 : c ≤ M) (h3 : ∀ x, x < c → f x ≠ 0) (h4 : c < M → f c = 0) : coC f M 0 = c := by
  obtain ⟨-, b, d, e⟩ := co_sp f M 0 (by omega)
  have l := coC_le f M 0 (by omega)
  rcases Nat.lt_trichotomy (coC f M 0) c with g | g | g
  · rcases e (by omega) with k | k
    · exact absurd k (h3 _ g)
    · omega
  · exact g
  · exact absurd (h4 (by omega)) (d c (by omega) g)
theorem rp_sp (v : Nat → Nat) (n su e : Nat) (pb B : Nat → Nat) : ∀ k i, rpR v n su e pb B k i = true ↔ ∀ p, i ≤ p → p < i + k → ∀ j, j < 32 → B ((e - (p + 1)) * 32 + j) = wpB v n su pb (p + 1) j
  | 0, i => ⟨fun _ p h1 h2 => by omega, fun _ => rfl⟩
  | k + 1, i => by
    unfold rpR
    split
    · rename_i h
      simp only [inN, inK, decide_eq_true_eq] at h
      rw [rp_sp v n su e pb B k (i + 1)]
      refine ⟨fun q p h1 h2 => ?_, fun q p h1 h2 => q p (by omega) (by omega)⟩
      by_cases c : p = i
      · rw [c]; exact h
      · exact q p (by omega) (by omega)
    · rename_i h
      refine ⟨fun q => (by cases q), fun q => absurd ?_ h⟩
      simp only [inN, inK, decide_eq_true_eq]
      exact q i (Nat.le_refl i) (by omega)
/-- a part's byte that is no unit's -/
theorem mu_own {v G : Nat → Nat} {n q o b : Nat} (h : owB b = true) (hb : b < 28) : ∀ i, i ≤ 13 → muL v n q o G i (o + b) = G (o + b)
  | 0, _ => rfl
  | i + 1, hi => by
    have ih := mu_own (v := v) (G := G) (n := n) (q := q) (o := o) h hb i (by omega)
    simp only [owB, decide_eq_true_eq] at h
    unfold muL
    have h1 : ¬ o + b = o + plN i + 1 := by unfold plN; (repeat' split) <;> omega
    have h2 : ¬ o + b = o + plN i := by unfold plN; (repeat' split) <;> omega
    simp only [uN]
    rw [if_neg h1, if_neg h2]
    exact ih
