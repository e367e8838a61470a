/-! the name that an entry shows -/
theorem stN_cons {U g : Nat → Nat} {o k x : Nat} (hx : x = g 0) : stN (uN U o x) (fun j => g (j + 1)) (o + 1) k = stN U g o (k + 1) := by
  funext j
  simp only [stN, uN]
  by_cases e : j = o
  · rw [if_neg (by omega), if_pos e, if_pos (by omega), hx, e, Nat.sub_self]
  · by_cases e2 : o + 1 ≤ j ∧ j < o + 1 + k
    · rw [if_pos e2, if_pos (by omega), show j - (o + 1) + 1 = j - o by omega]
    · rw [if_neg e2, if_neg e, if_neg (by omega)]
theorem rsC_n {B : Nat → Nat} {f m : Nat} : ∀ k i c, (i + k ≤ 8 ∨ 8 < i) → (∀ t, t < k → B (f + (i + t)) ≠ 32) → rsC B f (k + m) i c = rsC B f m (i + k) (c + k)
  | 0, i, c, _, _ => by rw [Nat.zero_add]; rfl
  | k + 1, i, c, h, hb => by
    have h0 : B (f + i) ≠ 32 := hb 0 (by omega)
    rw [show k + 1 + m = (k + m) + 1 by omega, rsC, if_neg (by omega), if_pos h0, rsC_n k (i + 1) (c + 1) (by omega) (fun t ht => by rw [show i + 1 + t = i + (t + 1) by omega]; exact hb (t + 1) (by omega))]
    rw [show i + 1 + k = i + (k + 1) by omega, show c + 1 + k = c + (k + 1) by omega]
theorem rsC_b {B : Nat → Nat} {f m : Nat} : ∀ k i c, (∀ t, t < k → B (f + (i + t)) = 32) → rsC B f (k + m) i c = rsC B f m (i + k) c
  | 0, i, c, _ => by rw [Nat.zero_add]; rfl
  | k + 1, i, c, hb => by
    have h0 : B (f + i) = 32 := hb 0 (by omega)
    rw [show k + 1 + m = (k + m) + 1 by omega, rsC, if_neg (fun q => q.2 (by rw [← q.1]; exact h0)), if_neg (fun q => q h0), rsC_b k (i + 1) c (fun t ht => by rw [show i + 1 + t = i + (t + 1) by omega]; exact hb (t + 1) (by omega))]
    rw [show i + 1 + k = i + (k + 1) by omega]
theorem rsU_n {B : Nat → Nat} {f r m : Nat} : ∀ k i c U, (i + k ≤ 8 ∨ 8 < i) → (∀ t, t < k → B (f + (i + t)) ≠ 32) → rsU B f r (k + m) i c U = rsU B f r m (i + k) (c + k) (stN U (fun j => B (f + (i + j))) (255 * r + c) k)
  | 0, i, c, U, _, _ => by rw [Nat.zero_add, stN_0]; rfl
  | k + 1, i, c, U, h, hb => by
    have h0 : B (f + i) ≠ 32 := hb 0 (by omega)
    rw [show k + 1 + m = (k + m) + 1 by omega, rsU, if_neg (by omega), if_pos h0, rsU_n k (i + 1) (c + 1) _ (by omega) (fun t ht => by rw [show i + 1 + t = i + (t + 1) by omega]; exact hb (t + 1) (by omega))]
    rw [show i + 1 + k = i + (k + 1) by omega, show c + 1 + k = c + (k + 1) by omega, show 255 * r + (c + 1) = 255 * r + c + 1 by omega]
    rw [← stN_cons (g := fun j => B (f + (i + j))) (x := B (f + i)) rfl]
    congr 2
    funext j
    rw [show i + 1 + j = i + (j + 1) by omega]
theorem rsU_b {B : Nat → Nat} {f r m : Nat} : ∀ k i c U, (∀ t, t < k → B (f + (i + t)) = 32) → rsU B f r (k + m) i c U = rsU B f r m (i + k) c U
  | 0, i, c, U, _ => by rw [Nat.zero_add]; rfl
  | k + 1, i, c, U, hb => by
    have h0 : B (f + i) = 32 := hb 0 (by omega)
    rw [show k + 1 + m = (k + m) + 1 by omega, rsU, if_neg (fun q => q.2 (by rw [← q.1]; exact h0)), if_neg (fun q => q h0), rsU_b k (i + 1) c U (fun t ht => by rw [show i + 1 + t = i + (t + 1) by omega]; exact hb (t + 1) (by omega))]
    rw [show i + 1 + k = i + (k + 1) by omega]
theorem cn_sp (b : Nat → Nat) : ∀ k i, (∀ t, t < cnN b k i → b (i + t) ≠ 32) ∧ (cnN b k i < k → b (i + cnN b k i) = 32)
  | 0, _ => ⟨fun t h => absurd h (Nat.not_lt_zero t), fun h => absurd h (Nat.lt_irrefl 0)⟩
  | k + 1, i => by
    unfold cnN
    split
    · rename_i h
      exact ⟨fun t ht => absurd ht (Nat.not_lt_zero t), fun _ => h⟩
    · rename_i h
      obtain ⟨a, c⟩ := cn_sp b k (i + 1)
      refine ⟨fun t ht => ?_, fun ht => ?_⟩
      · cases t with
        | zero => exact h
        | succ t => rw [show i + (t + 1) = i + 1 + t by omega]; exact a t (by omega)
      · rw [show i + (cnN b k (i + 1) + 1) = i + 1 + cnN b k (i + 1) by omega]
        exact c (by omega)
theorem cn_bl {b : Nat → Nat} {k i : Nat} (h : boN b k i 0 = true) : ∀ t, cnN b k i ≤ t → t < k → b (i + t) = 32 := by
  intro t h1 h2
  have q := (bo_sp b k i 0).mp h t h2
  rcases q with a | a
  · exact a
  · by_cases e : t = cnN b k i
    · rw [e]; exact (cn_sp b k i).2 (by omega)
    · exact absurd ((cn_sp b k i).2 (by omega)) (a.2.2 _ (by omega))
theorem si_eq {b B U v : Nat → Nat} {q r : Nat} (h : valN (cpN b B (q * 32) 11) = true) :
    rsC B (32 * q) 11 0 0 = siC (cpN b B (q * 32) 11) ∧ ∀ t, t < siC (cpN b B (q * 32) 11) → rv (rsU B (32 * q) r 11 0 0 U) r t = siV v (cpN b B (q * 32) 11) t := by
  have hc : ∀ j, j < 11 → cpN b B (q * 32) 11 j = B (32 * q + j) := by
    intro j hj
    unfold cpN
    rw [if_pos hj, show q * 32 = 32 * q by omega]
  generalize cpN b B (q * 32) 11 = c at hc h
  simp only [valN, decide_eq_true_eq] at h
  obtain ⟨-, h8, h3⟩ := h
  have l8 := cnN_le c 8 0
  have l3 := cnN_le c 3 8
  have n8 := (cn_sp c 8 0).1
  have n3 := (cn_sp c 3 8).1
  have b8 := cn_bl h8
  have b3 := cn_bl h3
  unfold siC siV
  generalize cnN c 8 0 = m8 at *
  have e11 : (11 : Nat) = m8 + ((8 - m8) + 3) := by omega
  have C1 : ∀ cc, rsC B (32 * q) 11 0 cc = rsC B (32 * q) 3 8 (cc + m8) := by
    intro cc
    rw [e11, rsC_n m8 0 cc (by omega) (fun t ht => by rw [← hc (0 + t) (by omega)]; exact n8 t ht), rsC_b (8 - m8) (0 + m8) _ (fun t ht => by rw [← hc (0 + m8 + t) (by omega), show 0 + m8 + t = 0 + (m8 + t) by omega]; exact b8 (m8 + t) (by omega) (by omega)), show 0 + m8 + (8 - m8) = 8 by omega]
  have U1 : rsU B (32 * q) r 11 0 0 U = rsU B (32 * q) r 3 8 m8 (stN U (fun j => B (32 * q + (0 + j))) (255 * r + 0) m8) := by
    rw [e11, rsU_n m8 0 0 U (by omega) (fun t ht => by rw [← hc (0 + t) (by omega)]; exact n8 t ht), rsU_b (8 - m8) (0 + m8) _ _ (fun t ht => by rw [← hc (0 + m8 + t) (by omega), show 0 + m8 + t = 0 + (m8 + t) by omega]; exact b8 (m8 + t) (by omega) (by omega)), show 0 + m8 + (8 - m8) = 8 by omega, Nat.zero_add]
  have c88 := hc 8 (by omega)
  by_cases e : c 8 = 32
  · have z3 : cnN c 3 8 = 0 := by
      unfold cnN
      rw [if_pos e]
    have bb : ∀ t, t < 3 → B (32 * q + (8 + t)) = 32 := fun t ht => by rw [← hc (8 + t) (by omega)]; exact b3 t (by omega) ht
    rw [if_pos e, if_pos e]
    refine ⟨?_, fun t ht => ?_⟩
    · rw [C1, show (3 : Nat) = 3 + 0 from rfl, rsC_b 3 8 _ bb, Nat.zero_add]
      rfl
    · rw [U1, show (3 : Nat) = 3 + 0 from rfl, rsU_b 3 8 _ _ bb]
      show rv (stN U (fun j => B (32 * q + (0 + j))) (255 * r + 0) m8) r t = apN v c 0 0 m8 t
      rw [Nat.add_zero, rv_st ht]
      unfold apN
      rw [if_pos (by omega), hc _ (by omega)]
      rw [show 0 + (t - 0) = 0 + t by omega]
  · have e32 : ¬ B (32 * q + 8) = 32 := by rw [← c88]; exact e
    have z3 : 1 ≤ cnN c 3 8 := by
      unfold cnN
      rw [if_neg e]
      omega
    rw [if_neg e, if_neg e]
    generalize cnN c 3 8 = m3 at *
    have nn : ∀ t, t < m3 - 1 → B (32 * q + (9 + t)) ≠ 32 := fun t ht => by rw [← hc (9 + t) (by omega), show 9 + t = 8 + (t + 1) by omega]; exact n3 (t + 1) (by omega)
    have bb : ∀ t, t < 3 - m3 → B (32 * q + (9 + (m3 - 1) + t)) = 32 := fun t ht => by rw [← hc (9 + (m3 - 1) + t) (by omega), show 9 + (m3 - 1) + t = 8 + (m3 + t) by omega]; exact b3 (m3 + t) (by omega) (by omega)
    have e2 : (2 : Nat) = (m3 - 1) + ((3 - m3) + 0) := by omega
    refine ⟨?_, fun t ht => ?_⟩
    · rw [C1, rsC, if_pos ⟨rfl, e32⟩, if_pos e32, e2, rsC_n (m3 - 1) (8 + 1) _ (by omega) nn, rsC_b (3 - m3) (8 + 1 + (m3 - 1)) _ bb]
      show 0 + m8 + 1 + 1 + (m3 - 1) = m8 + 1 + m3
      omega
    · rw [U1, rsU, if_pos ⟨rfl, e32⟩, if_pos e32, e2, rsU_n (m3 - 1) (8 + 1) _ _ (by omega) nn, rsU_b (3 - m3) (8 + 1 + (m3 - 1)) _ _ bb]
      simp only [rsU, rv, stN, uN, apN]
      by_cases t1 : t < m8
      · rw [if_neg (by omega), if_neg (by omega), if_neg (by omega), if_pos (by omega), if_neg (by omega), if_neg (by omega), if_pos (by omega), hc _ (by omega)]
        rw [show 0 + (255 * r + t - (255 * r + 0)) = 0 + (t - 0) by omega]
      · by_cases t2 : t = m8
        · rw [if_neg (by omega), if_neg (by omega), if_pos (by omega), if_neg (by omega), if_pos t2]
        · by_cases t3 : t = m8 + 1
          · rw [if_neg (by omega), if_pos (by omega), if_pos (by omega), hc _ (by omega), show 8 + (t - (m8 + 1)) = 8 by omega]
          · rw [if_pos (by omega), if_pos (by omega), hc _ (by omega), show 8 + (t - (m8 + 1)) = 8 + 1 + (255 * r + t - (255 * r + (m8 + 1 + 1))) by omega]
