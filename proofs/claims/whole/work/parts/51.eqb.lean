theorem la_lp (v : Nat → Nat) : ∀ l, laN v l = lpN v (l + 1) - 1
  | 0 => by
    unfold laN lpN lpN
    split <;> rfl
  | l + 1 => by
    have h := la_lp v l
    unfold laN
    rw [lpN]
    split
    · rfl
    · exact h
theorem td_eq {v : Nat → Nat} {n : Nat} (t : Nat) (b : Nat → Nat) (h : 1 ≤ n) : tdN v n t b = ttN v n t b := by
  have e : eqN v n = if lpN v n ≤ 1 then n else lpN v n - 1 := by
    unfold eqN
    rw [la_lp v (n - 1), show n - 1 + 1 = n by omega]
    (repeat' split) <;> omega
  unfold tdN ttN
  rw [e]
theorem shC_cg {v w : Nat → Nat} {mo : Nat} : ∀ (k i c : Nat), (∀ t, i ≤ t → t < i + k → v t = w t) → shC v mo k i c = shC w mo k i c
  | 0, _, _, _ => rfl
  | k + 1, i, c, h => by
    unfold shC
    rw [h i (Nat.le_refl i) (by omega), shC_cg k (i + 1) c (fun t h1 h2 => h t (by omega) (by omega)), shC_cg k (i + 1) (c + 1) (fun t h1 h2 => h t (by omega) (by omega))]
theorem shB_cg {v w : Nat → Nat} {p mo : Nat} : ∀ (k i c : Nat) (b : Nat → Nat), (∀ t, i ≤ t → t < i + k → v t = w t) → shB v p mo k i c b = shB w p mo k i c b
  | 0, _, _, _, _ => rfl
  | k + 1, i, c, b, h => by
    unfold shB
    rw [h i (Nat.le_refl i) (by omega), shB_cg k (i + 1) c b (fun t h1 h2 => h t (by omega) (by omega)), shB_cg k (i + 1) (c + 1) _ (fun t h1 h2 => h t (by omega) (by omega))]
theorem uN_at {b b' : Nat → Nat} {k x j : Nat} (h : b j = b' j) : uN b k x j = uN b' k x j := by
  unfold uN
  split
  · rfl
  · exact h
theorem shB_at {v : Nat → Nat} {p mo j : Nat} : ∀ (k i c : Nat) (b b' : Nat → Nat), b j = b' j → shB v p mo k i c b j = shB v p mo k i c b' j
  | 0, _, _, _, _, h => h
  | k + 1, i, c, b, b', h => by
    unfold shB
    split
    · split
      · exact shB_at k (i + 1) c b b' h
      · exact shB_at k (i + 1) (c + 1) _ _ (uN_at h)
    · exact h
theorem nuN_at {p j : Nat} : ∀ (k r : Nat) (b b' : Nat → Nat), b j = b' j → nuN p k r b j = nuN p k r b' j
  | 0, _, _, _, h => h
  | k + 1, r, b, b', h => by
    unfold nuN
    exact nuN_at k (r / 10) _ _ (uN_at h)
theorem fi_at {b b' : Nat → Nat} {j : Nat} (h : j < 11) : fiN b 32 11 j = fiN b' 32 11 j := by
  unfold fiN
  rw [if_pos h, if_pos h]
theorem tt_at {v : Nat → Nat} {n t j : Nat} (b b' : Nat → Nat) (h : j < 11) : ttN v n t b j = ttN v n t b' j := by
  unfold ttN
  exact shB_at _ _ _ _ _ (nuN_at _ _ _ _ (uN_at (shB_at _ _ _ _ _ (fi_at h))))
theorem tt_cg {v w : Nat → Nat} {n t : Nat} (b : Nat → Nat) (h : ∀ j, j < n → v j = w j) : ttN v n t b = ttN w n t b := by
  have hq : (if lpN w n ≤ 1 then n else lpN w n - 1) ≤ n := by
    have := lpN_le w n
    split <;> omega
  unfold ttN
  rw [lpN_cg h]
  generalize (if lpN w n ≤ 1 then n else lpN w n - 1) = q at hq
  show shB v 8 3 (n - (q + 1)) (q + 1) 0 (nuN (shC v (7 - dgN t) q 0 0 + 1) (dgN t) t (uN (shB v 0 (7 - dgN t) q 0 0 (fiN b 32 11)) (shC v (7 - dgN t) q 0 0) 126)) = shB w 8 3 (n - (q + 1)) (q + 1) 0 (nuN (shC w (7 - dgN t) q 0 0 + 1) (dgN t) t (uN (shB w 0 (7 - dgN t) q 0 0 (fiN b 32 11)) (shC w (7 - dgN t) q 0 0) 126))
  rw [shB_cg (n - (q + 1)) (q + 1) 0 _ (fun t h1 h2 => h t (by omega)), shB_cg q 0 0 _ (fun t h1 h2 => h t (by omega)), shC_cg q 0 0 (fun t h1 h2 => h t (by omega))]
/-- units that are short as they stand -/
theorem okS_sho {u : Nat} (h : okS u = true) : shoN u = u ∧ u ≠ 32 ∧ u ≠ 46 ∧ u < 256 := by
  have h2 := h
  simp only [okS, decide_eq_true_eq] at h2
  have e : capN u = u := by
    unfold capN
    rw [if_neg (by omega)]
  refine ⟨?_, by omega, by omega, by omega⟩
  unfold shoN
  rw [e, if_pos h]
theorem shB_id {v : Nat → Nat} {p mo : Nat} : ∀ (k i c : Nat) (b : Nat → Nat) (j : Nat), (∀ t, i ≤ t → t < i + k → okS (v t) = true) → c + k ≤ mo → shB v p mo k i c b j = if p + c ≤ j ∧ j < p + c + k then v (i + (j - (p + c))) else b j
  | 0, _, _, _, _, _, _ => by
    rw [if_neg (by omega)]
    rfl
  | k + 1, i, c, b, j, h, hk => by
    obtain ⟨a1, a2, a3, -⟩ := okS_sho (h i (Nat.le_refl i) (by omega))
    unfold shB
    rw [if_pos (by omega), if_neg (by omega), shB_id k (i + 1) (c + 1) _ j (fun t h1 h2 => h t (by omega) (by omega)) (by omega), a1]
    by_cases e : j = p + c
    · rw [if_neg (by omega), if_pos (by omega)]
      unfold uN
      rw [if_pos e, e, Nat.sub_self, Nat.add_zero]
    · by_cases e2 : p + c ≤ j ∧ j < p + c + (k + 1)
      · rw [if_pos (by omega), if_pos e2, show i + 1 + (j - (p + (c + 1))) = i + (j - (p + c)) by omega]
      · rw [if_neg (by omega), if_neg e2]
        unfold uN
        rw [if_neg e]
theorem sbL_at {v b : Nat → Nat} {p : Nat} (hp : p ≤ 8) : ∀ (i j : Nat), sbL v p b i j = if j < i ∧ j < p then v j else if 8 ≤ j ∧ j + p < i + 7 then v (j + p - 7) else b j
  | 0, j => by
    rw [if_neg (by omega), if_neg (by omega)]
    rfl
  | i + 1, j => by
    have h := sbL_at (v := v) (b := b) hp i j
    unfold sbL sbN
    by_cases c1 : i < p
    · rw [if_pos c1]
      unfold uN
      by_cases e : j = i
      · rw [if_pos e, if_pos (by omega), e]
      · rw [if_neg e, h]
        (repeat' split) <;> first | rfl | (exfalso; omega)
    · rw [if_neg c1]
      by_cases c2 : p < i
      · rw [if_pos c2]
        unfold uN
        by_cases e : j = 7 + i - p
        · rw [if_pos e, if_neg (by omega), if_pos (by omega), show j + p - 7 = i by omega]
        · rw [if_neg e, h]
          (repeat' split) <;> first | rfl | (exfalso; omega)
      · rw [if_neg c2, h]
        (repeat' split) <;> first | rfl | (exfalso; omega)
