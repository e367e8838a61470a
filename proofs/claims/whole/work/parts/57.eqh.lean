theorem pl_mono {i k : Nat} (h : i < k) : plN i + 2 ≤ plN k := by
  unfold plN
  (repeat' split) <;> omega
theorem mu_lo {v G : Nat → Nat} {n q o i0 : Nat} : ∀ i, i0 < i → muL v n q o G i (o + plN i0) = ufN v n (13 * (q - 1) + i0) % 256
  | 0, h => by omega
  | i + 1, h => by
    unfold muL
    simp only [uN]
    by_cases e : i0 = i
    · rw [if_neg (by rw [e]; omega), if_pos (by rw [e]), e]
    · have := pl_mono (show i0 < i by omega)
      rw [if_neg (by omega), if_neg (by omega)]
      exact mu_lo i (by omega)
theorem mu_hi {v G : Nat → Nat} {n q o i0 : Nat} : ∀ i, i0 < i → muL v n q o G i (o + plN i0 + 1) = ufN v n (13 * (q - 1) + i0) / 256
  | 0, h => by omega
  | i + 1, h => by
    unfold muL
    simp only [uN]
    by_cases e : i0 = i
    · rw [if_pos (by rw [e]), e]
    · have := pl_mono (show i0 < i by omega)
      rw [if_neg (by omega), if_neg (by omega)]
      exact mu_hi i (by omega)
theorem pl_cover : ∀ j : Fin 32, (j.val < 28 ∧ owB j.val = true) ∨ ∃ i : Fin 13, j.val = plN i.val ∨ j.val = plN i.val + 1 := by decide
theorem rp_bytes {v b B : Nat → Nat} {n q su o : Nat} (hB : ∀ j, B j < 256) (hv : ∀ j, v j < 65536) : (∀ j, j < 32 → B (o + j) = bdN v n q su b j) ↔ (∀ b8, b8 < 28 → owB b8 = true → B (o + b8) = duN b8 q (if q = pnN n then 1 else 0) su) ∧ ∀ i, i < 13 → B (o + plN i) + 256 * B (o + plN i + 1) = ufN v n (13 * (q - 1) + i) := by
  have h0 : ∀ t, 14 ≤ t → t < 32 → (fun _ => 0 : Nat → Nat) (0 + t) = 0 := fun _ _ _ => rfl
  have key : ∀ j, j < 32 → bdN v n q su b j = muL v n q 0 (stN (fun _ => 0) (fun b9 => duN b9 q (if q = pnN n then 1 else 0) su) 0 14) 13 (0 + j) := fun j hj => bd_part (M := fun _ => 0) (o := 0) hj h0
  have own : ∀ b8, b8 < 28 → owB b8 = true → bdN v n q su b b8 = duN b8 q (if q = pnN n then 1 else 0) su := by
    intro b8 h1 h2
    rw [key b8 (by omega), mu_own h2 h1 13 (by omega)]
    simp only [stN]
    by_cases e : b8 < 14
    · rw [if_pos (by omega), Nat.zero_add, Nat.sub_zero]
    · rw [if_neg (by omega)]
      unfold duN
      rw [if_neg (by omega), if_neg (by omega), if_neg (by omega)]
  have lo : ∀ i, i < 13 → bdN v n q su b (plN i) = ufN v n (13 * (q - 1) + i) % 256 := fun i hi => by
    have := plN_le hi
    rw [key _ (by omega), mu_lo 13 hi]
  have hi9 : ∀ i, i < 13 → bdN v n q su b (plN i + 1) = ufN v n (13 * (q - 1) + i) / 256 := fun i hi => by
    have := plN_le hi
    rw [key _ (by omega), ← Nat.add_assoc, mu_hi 13 hi]
  constructor
  · intro h
    refine ⟨fun b8 h1 h2 => by rw [h b8 (by omega), own b8 h1 h2], fun i hi => ?_⟩
    have := plN_le hi
    rw [h (plN i) (by omega), Nat.add_assoc, h (plN i + 1) (by omega), lo i hi, hi9 i hi]
    omega
  · intro ⟨h1, h2⟩ j hj
    rcases pl_cover ⟨j, hj⟩ with ⟨c1, c2⟩ | ⟨i, c⟩
    · rw [h1 j c1 c2, own j c1 c2]
    · have hi := i.isLt
      have e := h2 i.val hi
      have a1 := hB (o + plN i.val)
      have a2 := hB (o + plN i.val + 1)
      rcases c with c | c
      · have c' : j = plN i.val := c
        rw [c', lo _ hi]
        omega
      · have c' : j = plN i.val + 1 := c
        rw [c', hi9 _ hi, ← Nat.add_assoc]
        omega
