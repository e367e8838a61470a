theorem fkN_all (v : Nat → Nat) (p : Nat) : ∀ k i, fkR v p k i = true → fkN v p k i = i + k
  | 0, _, _ => rfl
  | k + 1, i, h => by
    unfold fkR at h
    unfold fkN
    split at h
    · cases h
    · rename_i e
      rw [if_neg e, fkN_all v p k (i + 1) h]
      omega
/-- the entry of a name that is short as shown -/
theorem ts_sw {v : Nat → Nat} {n j : Nat} (b b' : Nat → Nat) (h : shortN v n = true) (hj : j < 11) : tsN v n b j = swB v n b' j := by
  have h46 : okS 46 = false := by decide
  have hs : swR v n = true := by rw [sw_eq]; exact h
  have hs2 := hs
  simp only [swR, Bool.and_eq_true] at hs2
  obtain ⟨s1, s2⟩ := hs2
  have s3 := (fkR_sp v (fpN v n 0) n 0).mp s2
  have s4 := s1
  simp only [spOk, decide_eq_true_eq] at s4
  unfold swB
  rw [if_pos s1, fkN_all v _ n 0 s2, sbL_at (by omega)]
  have hq : (if lpN v n = 0 then n else lpN v n - 1) = fpN v n 0 := by
    rcases fpN_sp v n 0 with ⟨a, a2⟩ | ⟨a, a2, a3⟩
    · rcases lpN_sp v n with ⟨c, d⟩ | ⟨c, c2, d, d2⟩
      · rw [if_pos c]; omega
      · exact absurd d (a2 _ (by omega) (by omega))
    · rcases lpN_sp v n with ⟨c, d⟩ | ⟨c, c2, d, d2⟩
      · exact absurd a3 (d _ (by omega))
      · rw [if_neg (by omega)]
        rcases s3 (lpN v n - 1) (by omega) (by omega) with e | e
        · exact e
        · rw [d, h46] at e; cases e
  have hf : fpN v n 0 ≤ n := by have := fpN_le v n 0; omega
  unfold tsN
  rw [hq]
  generalize fpN v n 0 = p at *
  show shB v 8 3 (n - (p + 1)) (p + 1) 0 (shB v 0 8 p 0 0 (fiN b 32 11)) j = _
  rw [shB_id (n - (p + 1)) (p + 1) 0 _ j (fun t h1 h2 => (s3 t (by omega) (by omega)).resolve_left (by omega)) (by omega), shB_id p 0 0 _ j (fun t h1 h2 => (s3 t (by omega) (by omega)).resolve_left (by omega)) (by omega)]
  by_cases e1 : j < p
  · rw [if_neg (by omega), if_pos (by omega), if_pos (by omega), show 0 + (j - (0 + 0)) = j by omega]
  · by_cases e2 : 8 ≤ j ∧ j + p < 0 + n + 7
    · rw [if_pos (by omega), if_neg (by omega), if_pos e2, show p + 1 + (j - (8 + 0)) = j + p - 7 by omega]
    · rw [if_neg (by omega), if_neg (by omega), if_neg (by omega), if_neg e2]
      exact fi_at hj
theorem ts_cg {v w : Nat → Nat} {n : Nat} (b : Nat → Nat) (h : ∀ j, j < n → v j = w j) : tsN v n b = tsN w n b := by
  have hq : (if lpN w n = 0 then n else lpN w n - 1) ≤ n := by
    have := lpN_le w n
    split <;> omega
  unfold tsN
  rw [lpN_cg h]
  generalize (if lpN w n = 0 then n else lpN w n - 1) = q at hq
  show shB v 8 3 (n - (q + 1)) (q + 1) 0 (shB v 0 8 q 0 0 (fiN b 32 11)) = shB w 8 3 (n - (q + 1)) (q + 1) 0 (shB w 0 8 q 0 0 (fiN b 32 11))
  rw [shB_cg (n - (q + 1)) (q + 1) 0 _ (fun t h1 h2 => h t (by omega)), shB_cg q 0 0 _ (fun t h1 h2 => h t (by omega))]
/-- the brief names' bytes are bytes -/
theorem sho_b {u : Nat} : shoN u < 256 := by
  unfold shoN
  split
  · rename_i h
    exact (okS_sho h).2.2.2
  · omega
theorem shB_b {v : Nat → Nat} {p mo : Nat} : ∀ (k i c : Nat) (b : Nat → Nat) (j : Nat), b j < 256 → shB v p mo k i c b j < 256
  | 0, _, _, _, _, h => h
  | k + 1, i, c, b, j, h => by
    unfold shB
    split
    · split
      · exact shB_b k (i + 1) c b j h
      · refine shB_b k (i + 1) (c + 1) _ j ?_
        unfold uN
        split
        · exact sho_b
        · exact h
    · exact h
theorem nuN_b {p : Nat} : ∀ (k r : Nat) (b : Nat → Nat) (j : Nat), b j < 256 → nuN p k r b j < 256
  | 0, _, _, _, h => h
  | k + 1, r, b, j, h => by
    unfold nuN
    refine nuN_b k (r / 10) _ j ?_
    unfold uN
    split
    · omega
    · exact h
theorem fi_b {b : Nat → Nat} {j : Nat} (h : j < 11) : fiN b 32 11 j < 256 := by
  unfold fiN
  rw [if_pos h]
  omega
theorem ts_b {v b : Nat → Nat} {n j : Nat} (h : j < 11) : tsN v n b j < 256 := by
  unfold tsN
  exact shB_b _ _ _ _ _ (shB_b _ _ _ _ _ (fi_b h))
theorem uN_b {b : Nat → Nat} {k x j : Nat} (h : b j < 256) (hx : x < 256) : uN b k x j < 256 := by
  unfold uN
  split
  · exact hx
  · exact h
theorem tt_b {v b : Nat → Nat} {n t j : Nat} (h : j < 11) : ttN v n t b j < 256 := by
  unfold ttN
  exact shB_b _ _ _ _ _ (nuN_b _ _ _ _ (uN_b (shB_b _ _ _ _ _ (fi_b h)) (by omega)))
