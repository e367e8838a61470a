/-- all units of the parts, and their own bytes: what the comparison of the parts says -/
theorem rp_all {B V pb : Nat → Nat} {n q p9 : Nat} (hB : ∀ j, B j < 256) (hV : ∀ j, V j < 65536) (hp : p9 ≤ q) (hn : pnN n = p9) : rpR V n (suN B (q * 32) 11) q pb B p9 0 = true ↔
    (∀ p8 b8, 1 ≤ p8 → p8 ≤ p9 → b8 < 28 → owB b8 = true → B (32 * q - 32 * p8 + b8) = duN b8 p8 (if p8 = p9 then 1 else 0) (suN B (32 * q) 11)) ∧ ∀ t, t < 13 * p9 → mt B (32 * q) t = ufN V n t := by
  rw [show q * 32 = 32 * q by omega, rp_sp]
  have key : ∀ p, p < p9 → ((∀ j, j < 32 → B ((q - (p + 1)) * 32 + j) = wpB V n (suN B (32 * q) 11) pb (p + 1) j) ↔ ((∀ b8, b8 < 28 → owB b8 = true → B (32 * q - 32 * (p + 1) + b8) = duN b8 (p + 1) (if p + 1 = p9 then 1 else 0) (suN B (32 * q) 11)) ∧ ∀ i, i < 13 → mt B (32 * q) (13 * p + i) = ufN V n (13 * p + i))) := by
    intro p hp9
    have hb := rp_bytes (v := V) (b := fun _ => 0) (n := n) (q := p + 1) (su := suN B (32 * q) 11) (o := 32 * q - 32 * (p + 1)) hB hV
    rw [hn, Nat.add_sub_cancel] at hb
    rw [show (q - (p + 1)) * 32 = 32 * q - 32 * (p + 1) by omega]
    constructor
    · intro h
      obtain ⟨a, c⟩ := hb.mp (fun j hj => by rw [h j hj, wp_at hj (p + 1) (by omega) (fun _ => 0)])
      exact ⟨a, fun i hi => by rw [mt_at hi]; exact c i hi⟩
    · intro ⟨a, c⟩ j hj
      rw [wp_at hj (p + 1) (by omega) (fun _ => 0)]
      exact hb.mpr ⟨a, fun i hi => by rw [← mt_at hi]; exact c i hi⟩ j hj
  constructor
  · intro h
    refine ⟨fun p8 b8 h1 h2 h3 h4 => ?_, fun t ht => ?_⟩
    · have := ((key (p8 - 1) (by omega)).mp (h (p8 - 1) (by omega) (by omega))).1 b8 h3 h4
      rw [show p8 - 1 + 1 = p8 by omega] at this
      exact this
    · have := ((key (t / 13) (by omega)).mp (h (t / 13) (by omega) (by omega))).2 (t % 13) (by omega)
      rw [show 13 * (t / 13) + t % 13 = t by omega] at this
      exact this
  · intro ⟨a, c⟩ p _ h2
    exact (key p (by omega)).mpr ⟨fun b8 h3 h4 => a (p + 1) b8 (by omega) (by omega) h3 h4, fun i hi => c _ (by omega)⟩
theorem rd_good {B v pb : Nat → Nat} {q p9 : Nat} (hB : ∀ j, B j < 256) (hv : ∀ j, v j < 65536) (hp : 1 ≤ p9 ∧ p9 ≤ 20 ∧ p9 ≤ q)
    (h4 : pnN (coC (unN B q) (13 * p9) 0) = p9) (h5 : rpR (coV v (unN B q) (coC (unN B q) (13 * p9) 0)) (coC (unN B q) (13 * p9) 0) (suN B (q * 32) 11) q pb B p9 0 = true) :
    coC (unN B q) (13 * p9) 0 ≤ 255 ∧ coC (unN B q) (13 * p9) 0 ≤ 13 * p9 ∧ (∀ t, t < coC (unN B q) (13 * p9) 0 → mt B (32 * q) t ≠ 0) ∧ (coC (unN B q) (13 * p9) 0 = 13 * p9 ∨ (13 * (p9 - 1) < coC (unN B q) (13 * p9) 0 ∧ coC (unN B q) (13 * p9) 0 < 13 * p9)) ∧ (coC (unN B q) (13 * p9) 0 < 13 * p9 → mt B (32 * q) (coC (unN B q) (13 * p9) 0) = 0) ∧ (∀ t, coC (unN B q) (13 * p9) 0 < t → t < 13 * p9 → mt B (32 * q) t = 65535) ∧
    (∀ p8 b8, 1 ≤ p8 → p8 ≤ p9 → b8 < 28 → owB b8 = true → B (32 * q - 32 * p8 + b8) = duN b8 p8 (if p8 = p9 then 1 else 0) (suN B (32 * q) 11)) := by
  obtain ⟨-, b, d, -⟩ := co_sp (unN B q) (13 * p9) 0 (by omega)
  have l := coC_le (unN B q) (13 * p9) 0 (by omega)
  obtain ⟨o, u⟩ := (rp_all hB (coV_lt hv (fun j => unN_lt q j hB)) hp.2.2 h4).mp h5
  generalize coC (unN B q) (13 * p9) 0 = c at *
  refine ⟨l, by omega, fun t ht => ?_, ?_, fun h => ?_, fun t h1 h2 => ?_, o⟩
  · rw [mt_un (by omega)]
    exact d t (by omega) ht
  · unfold pnN at h4
    omega
  · rw [u c h]
    unfold ufN
    rw [if_neg (by omega), if_pos rfl]
  · rw [u t h2]
    unfold ufN
    rw [if_neg (by omega), if_neg (by omega)]
theorem rd_only {B v pb : Nat → Nat} {q p9 c5 : Nat} (hB : ∀ j, B j < 256) (hv : ∀ j, v j < 65536) (hp : 1 ≤ p9 ∧ p9 ≤ 20 ∧ p9 ≤ q)
    (hc : c5 ≤ 255) (hcp : c5 ≤ 13 * p9) (hn0 : ∀ t, t < c5 → mt B (32 * q) t ≠ 0) (hcE : c5 = 13 * p9 ∨ (13 * (p9 - 1) < c5 ∧ c5 < 13 * p9)) (h0 : c5 < 13 * p9 → mt B (32 * q) c5 = 0) (h6 : ∀ t, c5 < t → t < 13 * p9 → mt B (32 * q) t = 65535) (hown9 : ∀ p8 b8, 1 ≤ p8 → p8 ≤ p9 → b8 < 28 → owB b8 = true → B (32 * q - 32 * p8 + b8) = duN b8 p8 (if p8 = p9 then 1 else 0) (suN B (32 * q) 11)) :
    coC (unN B q) (13 * p9) 0 = c5 ∧ pnN c5 = p9 ∧ nameN (coV v (unN B q) c5) c5 = nameN (mt B (32 * q)) c5 ∧ rpR (coV v (unN B q) c5) c5 (suN B (q * 32) 11) q pb B p9 0 = true := by
  have hm : ∀ t, t < 13 * p9 → mt B (32 * q) t = unN B q t := fun t ht => mt_un (by omega)
  have hn : pnN c5 = p9 := by unfold pnN; omega
  have hV : ∀ t, t < c5 → coV v (unN B q) c5 t = mt B (32 * q) t := fun t ht => by
    unfold coV
    rw [if_pos ht, hm t (by omega)]
  refine ⟨co_un hc hcp (fun t ht => by rw [← hm t (by omega)]; exact hn0 t ht) (fun h => by rw [← hm c5 h]; exact h0 h), hn, nameN_cg hV, (rp_all hB (coV_lt hv (fun j => unN_lt q j hB)) hp.2.2 hn).mpr ⟨hown9, fun t ht => ?_⟩⟩
  unfold ufN
  split
  · rename_i e
    exact (hV t e).symm
  · split
    · rename_i e1 e2
      rw [e2]
      exact h0 (by omega)
    · exact h6 t (by omega) ht
