theorem nameN_pos {v : Nat → Nat} {n : Nat} (h : nameN v n = true) : 1 ≤ n := by
  simp only [nameN, decide_eq_true_eq] at h
  exact h.1
theorem duN_lt {b q l su : Nat} (hq : q < 60000) (hs : su < 256) : duN b q l su < 65536 := by
  unfold duN
  (repeat' split) <;> omega
theorem muL_lt2 {v B : Nat → Nat} (n q o : Nat) (hv : ∀ j, v j < 65536) (hB : ∀ j, B j < 65536) : ∀ i j, muL v n q o B i j < 65536
  | 0, j => hB j
  | i + 1, j => by
    have := ufN_lt n (13 * (q - 1) + i) hv
    unfold muL
    exact uN_lt (uN_lt (muL_lt2 n q o hv hB i) (by omega)) (by omega) j
theorem mpB_lt {v B : Nat → Nat} {n su e ps : Nat} (hv : ∀ j, v j < 65536) (hB : ∀ j, B j < 65536) (hs : su < 256) : ∀ i, i < 60000 → ∀ j, mpB v n su e ps B i j < 65536
  | 0, _, j => hB j
  | i + 1, hi, j => muL_lt2 n (i + 1) _ hv (stN_lt (mpB_lt hv hB hs i (by omega)) (fun b => duN_lt hi hs)) 13 j
theorem tdN_lt {v : Nat → Nat} {n t : Nat} {b : Nat → Nat} (hv : ∀ j, v j < 65536) (hb : ∀ j, b j < 65536) : ∀ j, tdN v n t b j < 65536 :=
  shB_lt v 8 3 hv _ _ _ _ (nuN_lt _ (by omega) _ _ _ (uN_lt (shB_lt v 0 _ hv _ _ _ _ (fiN_lt hb (by omega))) (by omega)))
