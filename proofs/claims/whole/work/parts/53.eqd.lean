/-! the bytes of the parts -/
theorem bd_mu {v F G : Nat → Nat} {n q o j : Nat} (h : F j = G (o + j)) : ∀ i, bdL v n q F i j = muL v n q o G i (o + j)
  | 0 => h
  | i + 1 => by
    have ih := bd_mu (v := v) (n := n) (q := q) h i
    unfold bdL muL
    simp only [uN]
    rw [show (2 : Nat) ^ 8 = 256 from rfl]
    rw [ih]
    (repeat' split) <;> first | rfl | (exfalso; omega)
theorem bdN_b {v b : Nat → Nat} {n q su j : Nat} (hv : ∀ j, v j < 65536) (hq : q < 100) (hs : su < 256) (hj : j < 32) : bdN v n q su b j < 256 := by
  have key : ∀ i, bdL v n q (uN (uN (uN (fiN b 0 32) 0 (if q = pnN n then q + 64 else q)) 11 15) 13 su) i j < 256 := by
    intro i
    induction i with
    | zero =>
      refine uN_b (uN_b (uN_b ?_ ?_) (by omega)) hs
      · unfold fiN
        rw [if_pos hj]
        omega
      · split <;> omega
    | succ i ih =>
      have := ufN_lt n (13 * (q - 1) + i) hv
      unfold bdL
      exact uN_b (uN_b ih (by omega)) (by omega)
  exact key 13
theorem bd_part {v b M : Nat → Nat} {n q su o j : Nat} (hj : j < 32) (hM : ∀ t, 14 ≤ t → t < 32 → M (o + t) = 0) : bdN v n q su b j = muL v n q o (stN M (fun b9 => duN b9 q (if q = pnN n then 1 else 0) su) o 14) 13 (o + j) := by
  unfold bdN
  refine bd_mu ?_ 13
  simp only [uN, stN, fiN]
  by_cases e : j < 14
  · rw [if_pos (show o ≤ o + j ∧ o + j < o + 14 by omega), Nat.add_sub_cancel_left]
    unfold duN
    by_cases e0 : j = 0
    · rw [if_neg (by omega), if_neg (by omega), if_pos e0, if_pos e0]
      by_cases eq : q = pnN n
      · rw [if_pos eq, if_pos eq, if_neg (by omega)]
      · rw [if_neg eq, if_neg eq, if_pos rfl, Nat.add_zero]
    · by_cases e1 : j = 11
      · rw [if_neg (by omega), if_pos e1, if_neg e0, if_pos e1]
      · by_cases e3 : j = 13
        · rw [if_pos e3, if_neg e0, if_neg e1, if_pos e3]
        · rw [if_neg e3, if_neg e1, if_neg e0, if_pos hj, if_neg e0, if_neg e1, if_neg e3]
  · rw [if_neg (show ¬ (o ≤ o + j ∧ o + j < o + 14) by omega), if_neg (by omega), if_neg (by omega), if_neg (by omega), if_pos hj, hM j (by omega) hj]
theorem ws_out {v pb B : Nat → Nat} {n su e a : Nat} : ∀ i, i ≤ e → (a < (e - i) * 32 ∨ e * 32 ≤ a) → wsB v n su e pb B i a = B a
  | 0, _, _ => rfl
  | i + 1, hi, h => by
    unfold wsB
    simp only [stN]
    rw [if_neg (by omega)]
    exact ws_out i (by omega) (by omega)
theorem ws_in {v pb B : Nat → Nat} {n su e q j : Nat} (hq : 1 ≤ q) (hj : j < 32) : ∀ i, i ≤ e → q ≤ i → wsB v n su e pb B i ((e - q) * 32 + j) = moN (wpB v n su pb q) j
  | 0, _, h => by omega
  | i + 1, hi, h => by
    unfold wsB
    simp only [stN]
    by_cases c : q = i + 1
    · rw [if_pos (by rw [c]; omega), c, Nat.add_sub_cancel_left]
    · rw [if_neg (by omega)]
      exact ws_in hq hj i (by omega) (by omega)
theorem mp_low {v B : Nat → Nat} {n su e ps a : Nat} : ∀ i, 32 * i ≤ e → a < e - 32 * i → mpB v n su e ps B i a = B a
  | 0, _, _ => rfl
  | i + 1, hi, h => by
    unfold mpB
    rw [muL_out (by omega) 13 (by omega)]
    simp only [stN]
    rw [if_neg (by omega)]
    exact mp_low i (by omega) (by omega)
theorem mp_in {v B : Nat → Nat} {n su e ps q j : Nat} (hq : 1 ≤ q) (hj : j < 32) : ∀ i, 32 * i ≤ e → q ≤ i → mpB v n su e ps B i (e - 32 * q + j) = mpB v n su e ps B q (e - 32 * q + j)
  | 0, _, h => by omega
  | i + 1, hi, h => by
    by_cases c : q = i + 1
    · rw [c]
    · rw [mpB]
      rw [muL_out (by omega) 13 (by omega)]
      simp only [stN]
      rw [if_neg (by omega)]
      exact mp_in hq hj i (by omega) (by omega)
theorem wp_at {v pb : Nat → Nat} {n su j : Nat} (hj : j < 32) : ∀ q, 1 ≤ q → ∀ b, wpB v n su pb q j = bdN v n q su b j
  | 0, h, _ => by omega
  | q + 1, _, b => by
    unfold wpB
    have h0 : ∀ t, 14 ≤ t → t < 32 → (fun _ => 0 : Nat → Nat) (0 + t) = 0 := fun _ _ _ => rfl
    rw [bd_part (M := fun _ => 0) (o := 0) hj h0, bd_part (M := fun _ => 0) (o := 0) (b := b) hj h0]
/-- what write leaves, the same on both sides: parts -/
theorem wr_eq {v pb B B1 B2 : Nat → Nat} {n su e ps : Nat} (hv : ∀ j, v j < 65536) (hs : su < 256) (hps : ps = pnN n) (hp : ps ≤ e) (hp2 : ps < 99) (hz : ∀ a, (e - ps) * 32 ≤ a → a < e * 32 → B2 a = 0) (ho : ∀ a, (a < (e - ps) * 32 ∨ e * 32 ≤ a) → B1 a = B2 a) (a : Nat) :
    wsB v n su e pb B1 ps a = mpB v n su (32 * e) ps B2 ps a := by
  by_cases c : a < (e - ps) * 32 ∨ e * 32 ≤ a
  · rw [ws_out ps hp c]
    rcases c with c | c
    · rw [mp_low ps (by omega) (by omega)]
      exact ho a (Or.inl c)
    · rw [mpB_out (by omega) ps (by omega)]
      exact ho a (Or.inr c)
  · obtain ⟨q, j, hq1, hq2, hj, rfl⟩ : ∃ q j, 1 ≤ q ∧ q ≤ ps ∧ j < 32 ∧ a = (e - q) * 32 + j := ⟨e - a / 32, a % 32, by omega, by omega, by omega, by omega⟩
    rw [ws_in hq1 hj ps hp hq2]
    have ea : (e - q) * 32 + j = 32 * e - 32 * q + j := by omega
    rw [ea, mp_in hq1 hj ps (by omega) hq2]
    obtain ⟨q0, rfl⟩ : ∃ q0, q = q0 + 1 := ⟨q - 1, by omega⟩
    have hM : ∀ t, 14 ≤ t → t < 32 → mpB v n su (32 * e) ps B2 q0 (32 * e - 32 * (q0 + 1) + t) = 0 := by
      intro t h1 h2
      rw [mp_low q0 (by omega) (by omega)]
      exact hz _ (by omega) (by omega)
    unfold moN
    rw [wp_at hj (q0 + 1) hq1 (fun _ => 0), show (2 : Nat) ^ 8 = 256 from rfl, Nat.mod_eq_of_lt (bdN_b hv (by omega) hs hj), bd_part hj hM, mpB, hps]
