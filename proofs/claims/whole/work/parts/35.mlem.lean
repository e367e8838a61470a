theorem shC_ge (v : Nat → Nat) (mo : Nat) {c : Nat} (h : ¬ c < mo) : ∀ k i, shC v mo k i c = c
  | 0, _ => rfl
  | k + 1, i => by rw [shC, if_neg h]
theorem shB_ge (v : Nat → Nat) (p mo : Nat) {c : Nat} (h : ¬ c < mo) : ∀ k i b, shB v p mo k i c b = b
  | 0, _, _ => rfl
  | k + 1, i, b => by rw [shB, if_neg h]
theorem mk_sk2 {v : Nat → Nat} {p mo k i c : Nat} {b Y : Nat → Nat} (hE : Y = shB v p mo (k + 1) i c b) (h : (v i = 32 ∨ v i = 46) ∨ mo ≤ c) : Y = shB v p mo k (i + 1) c b := by
  by_cases hc : c < mo
  · rcases h with h | h
    · rw [shB, if_pos hc, if_pos h] at hE
      exact hE
    · omega
  · rw [hE, shB_ge v p mo hc, shB_ge v p mo hc]
theorem mk_sk1 {v : Nat → Nat} {mo k i c : Nat} {X : Nat} (hE : X = shC v mo (k + 1) i c) (h : (v i = 32 ∨ v i = 46) ∨ mo ≤ c) : X = shC v mo k (i + 1) c := by
  by_cases hc : c < mo
  · rcases h with h | h
    · rw [shC, if_pos hc, if_pos h] at hE
      exact hE
    · omega
  · rw [hE, shC_ge v mo hc, shC_ge v mo hc]
theorem mk_sk {v : Nat → Nat} {p mo k i c : Nat} {b Y : Nat → Nat} {X : Nat} (hE : X = shC v mo (k + 1) i c ∧ Y = shB v p mo (k + 1) i c b) (h : (v i = 32 ∨ v i = 46) ∨ mo ≤ c) : X = shC v mo k (i + 1) c ∧ Y = shB v p mo k (i + 1) c b := ⟨mk_sk1 hE.1 h, mk_sk2 hE.2 h⟩
theorem mk_sk3 {v : Nat → Nat} {p mo k i c : Nat} {b Y : Nat → Nat} (hE : Y = shB v p mo (k + 1) i c b) (h : ¬ foN (v i) = 0) (hc : c < mo) : Y = shB v p mo k (i + 1) (c + 1) (uN b (p + c) (foN (v i))) := by
  have h8 := foN_0 (u := v i)
  rw [shB, if_pos hc, if_neg (by omega)] at hE
  rw [hE, foN_1 h]
theorem mk_sk4 {v : Nat → Nat} {mo k i c : Nat} {b Y : Nat → Nat} {X : Nat} (hE : X = shC v mo (k + 1) i c ∧ Y = shB v 0 mo (k + 1) i c b) (h : ¬ foN (v i) = 0) (hc : c < mo) : X = shC v mo k (i + 1) (c + 1) ∧ Y = shB v 0 mo k (i + 1) (c + 1) (uN b c (foN (v i))) := by
  have h8 := foN_0 (u := v i)
  have h9 := mk_sk3 hE.2 h hc
  rw [Nat.zero_add] at h9
  have h7 := hE.1
  rw [shC, if_pos hc, if_neg (by omega)] at h7
  exact ⟨h7, h9⟩
theorem mk_ex (v : Nat → Nat) (n : Nat) (b : Nat → Nat) : shB v 8 3 (n - (eqN v n + 1)) (eqN v n + 1) 0 b = shB v 8 3 (n - (eqN v n + 1)) (laN v (n - 1) + 1) 0 b := by
  unfold eqN
  split
  · rw [show n - (n + 1) = 0 by omega]
    rfl
  · rfl
