/-! class and reference: the same words -/
theorem ml_eq {y m : Nat} (h : 1 ≤ m ∧ m ≤ 12) : mlenN y m = mlN2 y m := by
  unfold mlenN mlN2 mlN
  rw [if_neg (by omega)]
  cases h9 : leN y with
  | true =>
    simp only [and_true, if_true]
    (repeat' split) <;> omega
  | false =>
    simp only [Bool.false_eq_true, and_false, if_false]
    (repeat' split) <;> omega
theorem ml_0 {y m : Nat} (h : ¬ (1 ≤ m ∧ m ≤ 12)) : mlenN y m = 0 := by
  unfold mlenN
  rw [if_pos (by omega)]
theorem sg_eq (d t : Nat) : sgN d t = (idN d && itN t) := by
  rw [Bool.eq_iff_iff]
  simp only [sgN, idN, itN, Bool.and_eq_true, decide_eq_true_eq]
  by_cases h : 1 ≤ d / 32 % 16 ∧ d / 32 % 16 ≤ 12
  · rw [ml_eq h]
    omega
  · rw [ml_0 h]
    omega
theorem md_eq (y : Nat) : ∀ k, k ≤ 12 → md2 y k = mdN y k
  | 0, _ => rfl
  | k + 1, h => by
    unfold md2 mdN
    rw [md_eq y k (by omega), ml_eq (by omega)]
theorem ss_eq {d t : Nat} (h : sgN d t = true) : ssN d t = sdN d + stmN t := by
  simp only [sgN, decide_eq_true_eq] at h
  unfold ssN sdN stmN
  rw [md_eq _ _ (by omega)]
  omega
theorem esN_cg {v w : Nat → Nat} : ∀ {n : Nat}, (∀ j, j < n → v j = w j) → esN v n = esN w n
  | 0, _ => rfl
  | n + 1, h => by
    unfold esN
    rw [esN_cg (n := n) (fun j hj => h j (by omega)), h n (by omega)]
theorem lpN_cg {v w : Nat → Nat} : ∀ {n : Nat}, (∀ j, j < n → v j = w j) → lpN v n = lpN w n
  | 0, _ => rfl
  | n + 1, h => by
    unfold lpN
    rw [lpN_cg (n := n) (fun j hj => h j (by omega)), h n (by omega)]
theorem ebL_cg {v w : Nat → Nat} : ∀ (k i r : Nat), (∀ j, j < i + k → v j = w j) → ebL v k i r = ebL w k i r
  | 0, _, _, _ => rfl
  | k + 1, i, r, h => by
    unfold ebL
    rw [h i (by omega), ebL_cg k (i + 1) _ (fun j hj => h j (by omega))]
theorem likeN_cg {v w v' w' : Nat → Nat} {n m : Nat} (h : ∀ j, j < n → v j = w j) (h' : ∀ j, j < m → v' j = w' j) : likeN v n v' m = likeN w n w' m := by
  rw [Bool.eq_iff_iff]
  simp only [likeN, decide_eq_true_eq]
  constructor
  · intro q
    exact ⟨q.1, fun i hi => by rw [← h i hi, ← h' i (by omega)]; exact q.2 i hi⟩
  · intro q
    exact ⟨q.1, fun i hi => by rw [h i hi, h' i (by omega)]; exact q.2 i hi⟩
theorem fpN_sp (v : Nat → Nat) : ∀ k i, (fpN v k i = i + k ∧ ∀ j, i ≤ j → j < i + k → v j ≠ 46) ∨ (fpN v k i < i + k ∧ i ≤ fpN v k i ∧ v (fpN v k i) = 46)
  | 0, i => Or.inl ⟨rfl, fun j h1 h2 => by omega⟩
  | k + 1, i => by
    unfold fpN
    split
    · rename_i h
      exact Or.inr ⟨by omega, Nat.le_refl i, h⟩
    · rename_i h
      rcases fpN_sp v k (i + 1) with ⟨a, b⟩ | ⟨a, b, c⟩
      · refine Or.inl ⟨by omega, fun j h1 h2 => ?_⟩
        by_cases e : j = i
        · rw [e]; exact h
        · exact b j (by omega) (by omega)
      · exact Or.inr ⟨by omega, by omega, c⟩
theorem lpN_sp (v : Nat → Nat) : ∀ n, (lpN v n = 0 ∧ ∀ j, j < n → v j ≠ 46) ∨ (0 < lpN v n ∧ lpN v n ≤ n ∧ v (lpN v n - 1) = 46 ∧ ∀ j, lpN v n ≤ j → j < n → v j ≠ 46)
  | 0 => Or.inl ⟨rfl, fun j h => by omega⟩
  | n + 1 => by
    unfold lpN
    split
    · rename_i h
      exact Or.inr ⟨by omega, by omega, h, fun j h1 h2 => by omega⟩
    · rename_i h
      rcases lpN_sp v n with ⟨a, b⟩ | ⟨a, b, c, d⟩
      · refine Or.inl ⟨a, fun j hj => ?_⟩
        by_cases e : j = n
        · rw [e]; exact h
        · exact b j (by omega)
      · refine Or.inr ⟨a, by omega, c, fun j h1 h2 => ?_⟩
        by_cases e : j = n
        · rw [e]; exact h
        · exact d j h1 (by omega)
theorem fkR_sp (v : Nat → Nat) (p : Nat) : ∀ k i, fkR v p k i = true ↔ ∀ j, i ≤ j → j < i + k → j = p ∨ okS (v j) = true
  | 0, i => ⟨fun _ j h1 h2 => by omega, fun _ => rfl⟩
  | k + 1, i => by
    unfold fkR
    split
    · rename_i h
      refine ⟨fun q => (by cases q), fun q => ?_⟩
      rcases q i (Nat.le_refl i) (by omega) with e | e
      · exact absurd e h.1
      · rw [h.2] at e; exact e
    · rename_i h
      rw [fkR_sp v p k (i + 1)]
      refine ⟨fun q j h1 h2 => ?_, fun q j h1 h2 => q j (by omega) (by omega)⟩
      by_cases e : j = i
      · rw [e]
        by_cases e2 : i = p
        · exact Or.inl e2
        · right
          cases h8 : okS (v i) with
          | true => rfl
          | false => exact absurd ⟨e2, h8⟩ h
      · exact q j (by omega) (by omega)
theorem sw_eq (v : Nat → Nat) (n : Nat) : swR v n = shortN v n := by
  have h46 : okS 46 = false := by decide
  rw [Bool.eq_iff_iff]
  simp only [swR, shortN, spOk, Bool.and_eq_true, decide_eq_true_eq, fkR_sp]
  rcases fpN_sp v n 0 with ⟨a, b⟩ | ⟨a, a2, b⟩
  · rcases lpN_sp v n with ⟨c, d⟩ | ⟨c, c2, d, d2⟩
    · rw [c]
      constructor
      · intro q
        exact ⟨fun _ => by omega, fun h => by omega, fun i hi => Or.inr ((q.2 i (by omega) (by omega)).resolve_left (by omega))⟩
      · intro q
        have := q.1 rfl
        exact ⟨⟨by omega, by omega, fun h => by omega⟩, fun i _ hi => Or.inr ((q.2.2 i (by omega)).resolve_left (by omega))⟩
    · exact absurd d (b _ (by omega) (by omega))
  · rcases lpN_sp v n with ⟨c, d⟩ | ⟨c, c2, d, d2⟩
    · exact absurd b (d _ (by omega))
    · by_cases e : fpN v n 0 + 1 = lpN v n
      · constructor
        · intro q
          exact ⟨fun h => by omega, fun _ => by omega, fun i hi => (q.2 i (by omega) (by omega)).imp (fun h => by omega) id⟩
        · intro q
          have := q.2.1 (by omega)
          exact ⟨⟨by omega, by omega, fun h => by omega⟩, fun i _ hi => (q.2.2 i (by omega)).imp (fun h => by omega) id⟩
      · constructor
        · intro q
          rcases q.2 (lpN v n - 1) (by omega) (by omega) with h | h
          · omega
          · rw [d, h46] at h; cases h
        · intro q
          rcases q.2.2 (fpN v n 0) (by omega) with h | h
          · omega
          · rw [b, h46] at h; cases h
theorem shortN_cg {v w : Nat → Nat} {n : Nat} (h : ∀ j, j < n → v j = w j) : shortN v n = shortN w n := by
  rw [Bool.eq_iff_iff]
  simp only [shortN, decide_eq_true_eq, lpN_cg h]
  constructor
  · intro q
    exact ⟨q.1, q.2.1, fun i hi => by rw [← h i hi]; exact q.2.2 i hi⟩
  · intro q
    exact ⟨q.1, q.2.1, fun i hi => by rw [h i hi]; exact q.2.2 i hi⟩
