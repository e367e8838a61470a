/-! write and read: an answer, or a throw -/
def oW (l : Launch) (dC : Nat → ClassId) (dI : Nat → Nat → Nat) (cI : ClassId) (ad am : Nat → Nat) (yC yM : MethodName) (wC wN : List Cond) (av : List Value) (ks : List (String × Nat)) (n0 : Nat) (v0 : Nat → Nat) (n1 : Nat) (v1 b pb B : Nat → Nat) (th : Int32) (U Z bm : Nat → Nat) : Prop :=
  (∃ (r : Int32) (n0' : Nat) (v0' : Nat → Nat) (n1' : Nat) (v1' b' pb' B' : Nat → Nat), mG l yC wC 8 200 (.ref (ad 0) :: av) (dC, dI) vwCl [(cI, .int)] (wL cI ad n0 v0 n1 v1 b pb B) (fun v w => v = .int r ∧ w = wL cI ad n0' v0' n1' v1' b' pb' B') ∧
    mG l yM wN 8 200 (.ref (am 0) :: av) (dC, dI) vwCl [(cI, .int)] (wM cI am th U Z B bm) (fun v w => v = .int r ∧ ∃ (U' Z' bm' : Nat → Nat), w = wM cI am (nI 0) U' Z' B' bm' ∧ lwI n0' v0' n1' v1' b' pb' B' U' Z' bm')) ∨
  ∃ (X : String) (k : Nat) (n0' : Nat) (v0' : Nat → Nat) (n1' : Nat) (v1' b' pb' B' : Nat → Nat), (X, k) ∈ ks ∧ mX l yC wC 8 200 (.ref (ad 0) :: av) (dC, dI) vwCl [(cI, .int)] (wL cI ad n0 v0 n1 v1 b pb B) X (wL cI ad n0' v0' n1' v1' b' pb' B') ∧
    mG l yM wN 8 200 (.ref (am 0) :: av) (dC, dI) vwCl [(cI, .int)] (wM cI am th U Z B bm) (fun v w => vI v ∧ ∃ (U' Z' bm' : Nat → Nat), w = wM cI am (nI k) U' Z' B' bm' ∧ lwI n0' v0' n1' v1' b' pb' B' U' Z' bm')
theorem lw_yx {x : Int32} (h : x < 0 ∨ nI 32 ≤ x) {k : Nat} (hk : k ≤ 31) : x < 0 ∨ ¬ x ≤ nI k := by
  rcases h with h | h
  · exact Or.inl h
  · refine Or.inr fun q => ?_
    have h9 := Int32.le_trans h q
    rw [nI_leI (by decide) (by omega)] at h9
    omega
theorem rv_x0 {U g : Nat → Nat} {c j : Nat} (h : c ≤ 255) : rv (stN U g (255 * 0) c) 1 j = rv U 1 j := by
  unfold rv stN
  rw [if_neg (by omega)]
theorem rv_x1 {U g : Nat → Nat} {c j : Nat} (hj : j < 255) : rv (stN U g (255 * 1) c) 0 j = rv U 0 j := by
  unfold rv stN
  rw [if_neg (by omega)]
theorem rs_out {B : Nat → Nat} {f r a : Nat} : ∀ (k i c : Nat) (U : Nat → Nat), (a < 255 * r ∨ 255 * r + c + 2 * k ≤ a) → rsU B f r k i c U a = U a
  | 0, _, _, _, _ => rfl
  | k + 1, i, c, U, h => by
    unfold rsU
    split
    · split
      · rw [rs_out k _ _ _ (by omega)]
        unfold uN
        rw [if_neg (show ¬ a = 255 * r + (c + 1) by omega), if_neg (show ¬ a = 255 * r + c by omega)]
      · rw [rs_out k _ _ _ (by omega)]
        unfold uN
        rw [if_neg (show ¬ a = 255 * r + c by omega)]
    · split
      · rw [rs_out k _ _ _ (by omega)]
        unfold uN
        rw [if_neg (show ¬ a = 255 * r + c by omega)]
      · exact rs_out k _ _ _ (by omega)
theorem rs_lt {B : Nat → Nat} {f r : Nat} (hB : ∀ j, B j < 256) : ∀ (k i c : Nat) (U : Nat → Nat), (∀ j, U j < 65536) → ∀ j, rsU B f r k i c U j < 65536
  | 0, _, _, _, h, j => h j
  | k + 1, i, c, U, h, j => by
    have hb : B (f + i) < 65536 := Nat.lt_trans (hB _) (by decide)
    unfold rsU
    split
    · split
      · exact rs_lt hB k _ _ _ (uN_lt (uN_lt h (by decide)) hb) j
      · exact rs_lt hB k _ _ _ (uN_lt h (by decide)) j
    · split
      · exact rs_lt hB k _ _ _ (uN_lt h hb) j
      · exact rs_lt hB k _ _ _ h j
theorem siV_lt {v c : Nat → Nat} (hv : ∀ j, v j < 65536) (hc : ∀ j, c j < 65536) : ∀ j, siV v c j < 65536 := by
  unfold siV
  split
  · exact apN_lt hv hc
  · exact apN_lt (uN_lt (apN_lt hv hc) (by decide)) hc
theorem siC_le (c : Nat → Nat) : siC c ≤ 255 := by
  have h1 := cnN_le c 8 0
  have h2 := cnN_le c 3 8
  unfold siC
  split <;> omega
theorem st_in {B F G : Nat → Nat} {q k a : Nat} (hF : ∀ j, j < 11 → F j < 256) (hFG : ∀ j, j < 11 → F j = G j) (h : a < q * 32 ∨ (q + k) * 32 ≤ a) : stN B (enN F) ((q + k) * 32) 32 a = stN (stN B (fun _ => 0) (32 * q) (32 * k + 32)) G (32 * (q + k)) 11 a := by
  have e9 : a - (q + k) * 32 = a - 32 * (q + k) := by omega
  unfold stN
  by_cases c1 : (q + k) * 32 ≤ a ∧ a < (q + k) * 32 + 32
  · by_cases c2 : a < (q + k) * 32 + 11
    · rw [if_pos c1, if_pos (show 32 * (q + k) ≤ a ∧ a < 32 * (q + k) + 11 by omega), e9]
      unfold enN
      rw [if_pos (show a - 32 * (q + k) < 11 by omega), Nat.mod_eq_of_lt (hF _ (by omega)), hFG _ (by omega)]
    · rw [if_pos c1, if_neg (show ¬ (32 * (q + k) ≤ a ∧ a < 32 * (q + k) + 11) by omega), if_pos (show 32 * q ≤ a ∧ a < 32 * q + (32 * k + 32) by omega)]
      unfold enN
      rw [if_neg (show ¬ a - (q + k) * 32 < 11 by omega)]
  · rw [if_neg c1, if_neg (show ¬ (32 * (q + k) ≤ a ∧ a < 32 * (q + k) + 11) by omega), if_neg (show ¬ (32 * q ≤ a ∧ a < 32 * q + (32 * k + 32)) by omega)]
theorem ws_eq {v v' pb B b b' : Nat → Nat} {n q su : Nat} (hcg : ∀ j, j < n → v j = v' j) (hs : shortN v' n = true) : wsB v n su (q + 0) pb (stN B (enN (tsN v n b)) ((q + 0) * 32) 32) 0 = stN (stN B (fun _ => 0) (32 * q) (32 * 0 + 32)) (swB v' n b') (32 * (q + 0)) 11 := by
  funext a
  show stN B (enN (tsN v n b)) ((q + 0) * 32) 32 a = _
  refine st_in (q := q) (k := 0) (fun j hj => ts_b hj) (fun j hj => ?_) (by omega)
  rw [ts_cg b hcg]
  exact ts_sw b b' hs hj
theorem wt_eq {v v' pb B b b' : Nat → Nat} {n q t : Nat} (hv : ∀ j, v' j < 65536) (hcg : ∀ j, j < n → v j = v' j) (h1 : 1 ≤ n) (hn : n ≤ 255) : wsB v n (suN (stN B (enN (ttN v n t b)) ((q + pnN n) * 32) 32) ((q + pnN n) * 32) 11) (q + pnN n) pb (stN B (enN (ttN v n t b)) ((q + pnN n) * 32) 32) (pnN n) = mpB v' n (suN (stN (stN B (fun _ => 0) (32 * q) (32 * (pnN n) + 32)) (tdN v' n t b') (32 * (q + pnN n)) 11) (32 * (q + pnN n)) 11) (32 * (q + pnN n)) (pnN n) (stN (stN B (fun _ => 0) (32 * q) (32 * (pnN n) + 32)) (tdN v' n t b') (32 * (q + pnN n)) 11) (pnN n) := by
  funext a
  have hp := pnN_le hn
  have hin : ∀ a, (a < q * 32 ∨ (q + pnN n) * 32 ≤ a) → stN B (enN (ttN v n t b)) ((q + pnN n) * 32) 32 a = stN (stN B (fun _ => 0) (32 * q) (32 * (pnN n) + 32)) (tdN v' n t b') (32 * (q + pnN n)) 11 a := fun a ha => by
    refine st_in (fun j hj => tt_b hj) (fun j hj => ?_) ha
    rw [tt_cg b hcg, td_eq t b' h1]
    exact tt_at b b' hj
  have hsu : suN (stN B (enN (ttN v n t b)) ((q + pnN n) * 32) 32) ((q + pnN n) * 32) 11 = suN (stN (stN B (fun _ => 0) (32 * q) (32 * (pnN n) + 32)) (tdN v' n t b') (32 * (q + pnN n)) 11) (32 * (q + pnN n)) 11 := by
    rw [show 32 * (q + pnN n) = (q + pnN n) * 32 from Nat.mul_comm _ _] at hin ⊢
    exact suN_congr (fun j _ => hin _ (by omega))
  rw [wsB_cg hcg, hsu]
  refine wr_eq (B := B) hv (suN_lt _ _ _) rfl (by omega) (by omega) (fun a h2 h3 => ?_) (fun a ha => hin a (by omega)) a
  have h4 : ¬ (32 * (q + pnN n) ≤ a ∧ a < 32 * (q + pnN n) + 11) := by omega
  have h5 : 32 * q ≤ a ∧ a < 32 * q + (32 * (pnN n) + 32) := by omega
  show (if 32 * (q + pnN n) ≤ a ∧ a < 32 * (q + pnN n) + 11 then _ else (if 32 * q ≤ a ∧ a < 32 * q + (32 * (pnN n) + 32) then _ else _)) = 0
  rw [if_neg h4, if_pos h5]
set_option maxRecDepth 100000 in
theorem o_write (l : Launch) (dC : Nat → ClassId) (dI : Nat → Nat → Nat) (cI : ClassId) (ad am : Nat → Nat) {n0 : Nat} {v0 : Nat → Nat} {n1 : Nat} {v1 b pb B : Nat → Nat} (th : Int32) {U Z bm : Nat → Nat} (hI : lwI n0 v0 n1 v1 b pb B U Z bm) (htr : l.stackTraces = false) (p1 p2 p3 : Int32) : oW l dC dI cI ad am y_LN_write y_Mo_write w_LN_write w_Mo_write [.int p1, .int p2, .int p3] [(xA, 1), (xI, 2)] n0 v0 n1 v1 b pb B th U Z bm := by
  have hI0 := hI
  obtain ⟨⟨hn0, hv0, hn1, hv1, hb9, hpb, hB⟩, ⟨hU, hZ, hbm⟩, e0, e1, r0, r1⟩ := hI
  subst e0; subst e1
  have hB6 : ∀ j, B j < 65536 := fun j => Nat.lt_trans (hB j) (by decide)
  rcases lw_r p1 with rfl | rfl | ⟨c0, c1⟩
  · cases h1 : nameN v0 (Z 0)
    · have h1' : nameN (rv U 0) (Z 0) = false := by rw [← nameN_cg r0]; exact h1
      exact Or.inr ⟨xA, 1, _, _, _, _, _, _, _, List.mem_cons_self, mX.of (x_writeN0 l dC dI cI (ad 0) (ad 1) (ad 2) (Z 0) v0 (ad 3) (ad 4) (Z 1) v1 (ad 5) (ad 6) b (ad 7) (ad 8) pb (ad 9) (ad 10) B p2 p3 hn0 hv0 hn1 hv1 hb9 hpb hB h1 htr) (Nat.le_of_ble_eq_true rfl) (Nat.le_of_ble_eq_true rfl) rfl rfl, mG.ofM (c_Mo_wN l dC dI cI (am 0) th (am 1) (am 2) (am 3) (am 4) U Z B bm 0 p2 p3 hU hZ hB6 hbm (by decide) h1') (Nat.le_of_ble_eq_true rfl) (Nat.le_of_ble_eq_true rfl) rfl rfl ⟨⟨_, rfl⟩, _, _, _, rfl, hI0⟩⟩
    · have h1' : nameN (rv U 0) (Z 0) = true := by rw [← nameN_cg r0]; exact h1
      rcases lw_ix p3 (n := 9999) (by decide) with ht | ⟨t, ht, rfl⟩
      · skip
        exact Or.inr ⟨xA, 1, _, _, _, _, _, _, _, List.mem_cons_self, mX.of (x_writeT0 l dC dI cI (ad 0) (ad 1) (ad 2) (Z 0) v0 (ad 3) (ad 4) (Z 1) v1 (ad 5) (ad 6) b (ad 7) (ad 8) pb (ad 9) (ad 10) B p2 p3 hn0 hv0 hn1 hv1 hb9 hpb hB h1 ht htr) (Nat.le_of_ble_eq_true rfl) (Nat.le_of_ble_eq_true rfl) rfl rfl, mG.ofM (c_Mo_wT l dC dI cI (am 0) th (am 1) (am 2) (am 3) (am 4) U Z B bm 0 p2 p3 hU hZ hB6 hbm (by decide) h1' ht) (Nat.le_of_ble_eq_true rfl) (Nat.le_of_ble_eq_true rfl) rfl rfl ⟨⟨_, rfl⟩, _, _, _, rfl, hI0⟩⟩
      · rcases Nat.eq_zero_or_pos t with rfl | ht0
        · cases h2 : shortN v0 (Z 0)
          · have h2' : swR (rv U 0) (Z 0) = false := by rw [sw_eq, ← shortN_cg r0]; exact h2
            exact Or.inr ⟨xA, 1, _, _, _, _, _, _, _, List.mem_cons_self, mX.of (x_writeS0 l dC dI cI (ad 0) (ad 1) (ad 2) (Z 0) v0 (ad 3) (ad 4) (Z 1) v1 (ad 5) (ad 6) b (ad 7) (ad 8) pb (ad 9) (ad 10) B p2 hn0 hv0 hn1 hv1 hb9 hpb hB h1 h2 htr) (Nat.le_of_ble_eq_true rfl) (Nat.le_of_ble_eq_true rfl) rfl rfl, mG.ofM (c_Mo_wS l dC dI cI (am 0) th (am 1) (am 2) (am 3) (am 4) U Z B bm 0 p2 hU hZ hB6 hbm (by decide) h1' h2') (Nat.le_of_ble_eq_true rfl) (Nat.le_of_ble_eq_true rfl) rfl rfl ⟨⟨_, rfl⟩, _, _, _, rfl, lw_sb hI0 hb9 hpb hB (fun j => swB_lt (fun k => rv_lt hU k) hbm j)⟩⟩
          · have h2' : swR (rv U 0) (Z 0) = true := by rw [sw_eq, ← shortN_cg r0]; exact h2
            rcases lw_iy p2 (n := 32) (by decide) with hy | ⟨q, hq, rfl⟩
            · skip
              exact Or.inr ⟨xI, 2, _, _, _, _, _, _, _, List.mem_cons_of_mem _ List.mem_cons_self, mX.of (x_writeI0 l dC dI cI (ad 0) (ad 1) (ad 2) (Z 0) v0 (ad 3) (ad 4) (Z 1) v1 (ad 5) (ad 6) b (ad 7) (ad 8) pb (ad 9) (ad 10) B p2 hn0 hv0 hn1 hv1 hb9 hpb hB h1 h2 hy htr) (Nat.le_of_ble_eq_true rfl) (Nat.le_of_ble_eq_true rfl) rfl rfl, mG.ofM (c_Mo_wI l dC dI cI (am 0) th (am 1) (am 2) (am 3) (am 4) U Z B bm 0 p2 hU hZ hB6 hbm (by decide) h1' h2' (lw_yx hy (by decide))) (Nat.le_of_ble_eq_true rfl) (Nat.le_of_ble_eq_true rfl) rfl rfl ⟨⟨_, rfl⟩, _, _, _, rfl, lw_sb hI0 hb9 hpb hB (fun j => swB_lt (fun k => rv_lt hU k) hbm j)⟩⟩
            · have hc := c_LN_writeS0 l dC dI cI (ad 0) (ad 1) (ad 2) (Z 0) v0 (ad 3) (ad 4) (Z 1) v1 (ad 5) (ad 6) b (ad 7) (ad 8) pb (ad 9) (ad 10) B q hn0 hv0 hn1 hv1 hb9 hpb hB h1 h2 hq
              have hB1 := wsB_lt (v := v0) (n := Z 0) (su := 0) (e := q + 0) (pb := pb) (B := stN B (enN (tsN v0 (Z 0) b)) ((q + 0) * 32) 32) (stN_lt hB (enN_lt _)) 0
              rw [ws_eq (b' := bm) r0 (by rw [← sw_eq]; exact h2')] at hc hB1
              exact Or.inl ⟨_, _, _, _, _, _, _, _, mG.ofM (hc) (Nat.le_of_ble_eq_true rfl) (Nat.le_of_ble_eq_true rfl) rfl rfl ⟨rfl, rfl⟩, mG.ofM (c_Mo_w0 l dC dI cI (am 0) th (am 1) (am 2) (am 3) (am 4) U Z B bm 0 q hU hZ hB6 hbm (by decide) h1' h2' hq) (Nat.le_of_ble_eq_true rfl) (Nat.le_of_ble_eq_true rfl) rfl rfl ⟨rfl, _, _, _, rfl, lw_sb hI0 (tsN_lt hv0 hb9) (wpB_lt hv0 hpb (suN_lt _ _ _) _ (by decide)) hB1 (fun j => swB_lt (fun k => rv_lt hU k) hbm j)⟩⟩
        · rcases lw_iy p2 (n := 32) (by decide) with hy | ⟨q, hq, rfl⟩
          · skip
            exact Or.inr ⟨xI, 2, _, _, _, _, _, _, _, List.mem_cons_of_mem _ List.mem_cons_self, mX.of (x_writeJ0 l dC dI cI (ad 0) (ad 1) (ad 2) (Z 0) v0 (ad 3) (ad 4) (Z 1) v1 (ad 5) (ad 6) b (ad 7) (ad 8) pb (ad 9) (ad 10) B p2 t hn0 hv0 hn1 hv1 hb9 hpb hB h1 ⟨ht0, ht⟩ hy htr) (Nat.le_of_ble_eq_true rfl) (Nat.le_of_ble_eq_true rfl) rfl rfl, mG.ofM (c_Mo_wJ l dC dI cI (am 0) th (am 1) (am 2) (am 3) (am 4) U Z B bm 0 p2 t hU hZ hB6 hbm (by decide) h1' ⟨ht0, ht⟩ (lw_yx hy (by omega))) (Nat.le_of_ble_eq_true rfl) (Nat.le_of_ble_eq_true rfl) rfl rfl ⟨⟨_, rfl⟩, _, _, _, rfl, hI0⟩⟩
          · have hpn := pnN_le hn0
            rcases Nat.lt_or_ge (q + pnN (Z 0)) 32 with hq2 | hq2
            · have hc := c_LN_writeT0 l dC dI cI (ad 0) (ad 1) (ad 2) (Z 0) v0 (ad 3) (ad 4) (Z 1) v1 (ad 5) (ad 6) b (ad 7) (ad 8) pb (ad 9) (ad 10) B q t hn0 hv0 hn1 hv1 hb9 hpb hB h1 ⟨ht0, ht⟩ hq2
              have hB1 := wsB_lt (v := v0) (n := Z 0) (su := suN (stN B (enN (ttN v0 (Z 0) t b)) ((q + pnN (Z 0)) * 32) 32) ((q + pnN (Z 0)) * 32) 11) (e := q + pnN (Z 0)) (pb := pb) (B := stN B (enN (ttN v0 (Z 0) t b)) ((q + pnN (Z 0)) * 32) 32) (stN_lt hB (enN_lt _)) (pnN (Z 0))
              rw [wt_eq (b' := bm) (fun j => rv_lt hU j) r0 (nameN_pos h1) hn0] at hc hB1
              exact Or.inl ⟨_, _, _, _, _, _, _, _, mG.ofM (hc) (Nat.le_of_ble_eq_true rfl) (Nat.le_of_ble_eq_true rfl) rfl rfl ⟨rfl, rfl⟩, mG.ofM (c_Mo_wP l dC dI cI (am 0) th (am 1) (am 2) (am 3) (am 4) U Z B bm 0 q t hU hZ hB6 hbm (by decide) h1' ⟨ht0, ht⟩ hq2) (Nat.le_of_ble_eq_true rfl) (Nat.le_of_ble_eq_true rfl) rfl rfl ⟨rfl, _, _, _, rfl, lw_sb hI0 (ttN_lt hv0 hb9) (wpB_lt hv0 hpb (suN_lt _ _ _) _ (by omega)) hB1 (tdN_lt (fun j => rv_lt hU j) hbm)⟩⟩
            · skip
              exact Or.inr ⟨xI, 2, _, _, _, _, _, _, _, List.mem_cons_of_mem _ List.mem_cons_self, mX.of (x_writeK0 l dC dI cI (ad 0) (ad 1) (ad 2) (Z 0) v0 (ad 3) (ad 4) (Z 1) v1 (ad 5) (ad 6) b (ad 7) (ad 8) pb (ad 9) (ad 10) B q t hn0 hv0 hn1 hv1 hb9 hpb hB h1 ⟨ht0, ht⟩ hq hq2 htr) (Nat.le_of_ble_eq_true rfl) (Nat.le_of_ble_eq_true rfl) rfl rfl, mG.ofM (c_Mo_wJ l dC dI cI (am 0) th (am 1) (am 2) (am 3) (am 4) U Z B bm 0 (nI q) t hU hZ hB6 hbm (by decide) h1' ⟨ht0, ht⟩ (Or.inr (by rw [nI_leI (by omega) (by omega)]; omega))) (Nat.le_of_ble_eq_true rfl) (Nat.le_of_ble_eq_true rfl) rfl rfl ⟨⟨_, rfl⟩, _, _, _, rfl, hI0⟩⟩
  · cases h1 : nameN v1 (Z 1)
    · have h1' : nameN (rv U 1) (Z 1) = false := by rw [← nameN_cg r1]; exact h1
      exact Or.inr ⟨xA, 1, _, _, _, _, _, _, _, List.mem_cons_self, mX.of (x_writeN1 l dC dI cI (ad 0) (ad 1) (ad 2) (Z 0) v0 (ad 3) (ad 4) (Z 1) v1 (ad 5) (ad 6) b (ad 7) (ad 8) pb (ad 9) (ad 10) B p2 p3 hn0 hv0 hn1 hv1 hb9 hpb hB h1 htr) (Nat.le_of_ble_eq_true rfl) (Nat.le_of_ble_eq_true rfl) rfl rfl, mG.ofM (c_Mo_wN l dC dI cI (am 0) th (am 1) (am 2) (am 3) (am 4) U Z B bm 1 p2 p3 hU hZ hB6 hbm (by decide) h1') (Nat.le_of_ble_eq_true rfl) (Nat.le_of_ble_eq_true rfl) rfl rfl ⟨⟨_, rfl⟩, _, _, _, rfl, hI0⟩⟩
    · have h1' : nameN (rv U 1) (Z 1) = true := by rw [← nameN_cg r1]; exact h1
      rcases lw_ix p3 (n := 9999) (by decide) with ht | ⟨t, ht, rfl⟩
      · skip
        exact Or.inr ⟨xA, 1, _, _, _, _, _, _, _, List.mem_cons_self, mX.of (x_writeT1 l dC dI cI (ad 0) (ad 1) (ad 2) (Z 0) v0 (ad 3) (ad 4) (Z 1) v1 (ad 5) (ad 6) b (ad 7) (ad 8) pb (ad 9) (ad 10) B p2 p3 hn0 hv0 hn1 hv1 hb9 hpb hB h1 ht htr) (Nat.le_of_ble_eq_true rfl) (Nat.le_of_ble_eq_true rfl) rfl rfl, mG.ofM (c_Mo_wT l dC dI cI (am 0) th (am 1) (am 2) (am 3) (am 4) U Z B bm 1 p2 p3 hU hZ hB6 hbm (by decide) h1' ht) (Nat.le_of_ble_eq_true rfl) (Nat.le_of_ble_eq_true rfl) rfl rfl ⟨⟨_, rfl⟩, _, _, _, rfl, hI0⟩⟩
      · rcases Nat.eq_zero_or_pos t with rfl | ht0
        · cases h2 : shortN v1 (Z 1)
          · have h2' : swR (rv U 1) (Z 1) = false := by rw [sw_eq, ← shortN_cg r1]; exact h2
            exact Or.inr ⟨xA, 1, _, _, _, _, _, _, _, List.mem_cons_self, mX.of (x_writeS1 l dC dI cI (ad 0) (ad 1) (ad 2) (Z 0) v0 (ad 3) (ad 4) (Z 1) v1 (ad 5) (ad 6) b (ad 7) (ad 8) pb (ad 9) (ad 10) B p2 hn0 hv0 hn1 hv1 hb9 hpb hB h1 h2 htr) (Nat.le_of_ble_eq_true rfl) (Nat.le_of_ble_eq_true rfl) rfl rfl, mG.ofM (c_Mo_wS l dC dI cI (am 0) th (am 1) (am 2) (am 3) (am 4) U Z B bm 1 p2 hU hZ hB6 hbm (by decide) h1' h2') (Nat.le_of_ble_eq_true rfl) (Nat.le_of_ble_eq_true rfl) rfl rfl ⟨⟨_, rfl⟩, _, _, _, rfl, lw_sb hI0 hb9 hpb hB (fun j => swB_lt (fun k => rv_lt hU k) hbm j)⟩⟩
          · have h2' : swR (rv U 1) (Z 1) = true := by rw [sw_eq, ← shortN_cg r1]; exact h2
            rcases lw_iy p2 (n := 32) (by decide) with hy | ⟨q, hq, rfl⟩
            · skip
              exact Or.inr ⟨xI, 2, _, _, _, _, _, _, _, List.mem_cons_of_mem _ List.mem_cons_self, mX.of (x_writeI1 l dC dI cI (ad 0) (ad 1) (ad 2) (Z 0) v0 (ad 3) (ad 4) (Z 1) v1 (ad 5) (ad 6) b (ad 7) (ad 8) pb (ad 9) (ad 10) B p2 hn0 hv0 hn1 hv1 hb9 hpb hB h1 h2 hy htr) (Nat.le_of_ble_eq_true rfl) (Nat.le_of_ble_eq_true rfl) rfl rfl, mG.ofM (c_Mo_wI l dC dI cI (am 0) th (am 1) (am 2) (am 3) (am 4) U Z B bm 1 p2 hU hZ hB6 hbm (by decide) h1' h2' (lw_yx hy (by decide))) (Nat.le_of_ble_eq_true rfl) (Nat.le_of_ble_eq_true rfl) rfl rfl ⟨⟨_, rfl⟩, _, _, _, rfl, lw_sb hI0 hb9 hpb hB (fun j => swB_lt (fun k => rv_lt hU k) hbm j)⟩⟩
            · have hc := c_LN_writeS1 l dC dI cI (ad 0) (ad 1) (ad 2) (Z 0) v0 (ad 3) (ad 4) (Z 1) v1 (ad 5) (ad 6) b (ad 7) (ad 8) pb (ad 9) (ad 10) B q hn0 hv0 hn1 hv1 hb9 hpb hB h1 h2 hq
              have hB1 := wsB_lt (v := v1) (n := Z 1) (su := 0) (e := q + 0) (pb := pb) (B := stN B (enN (tsN v1 (Z 1) b)) ((q + 0) * 32) 32) (stN_lt hB (enN_lt _)) 0
              rw [ws_eq (b' := bm) r1 (by rw [← sw_eq]; exact h2')] at hc hB1
              exact Or.inl ⟨_, _, _, _, _, _, _, _, mG.ofM (hc) (Nat.le_of_ble_eq_true rfl) (Nat.le_of_ble_eq_true rfl) rfl rfl ⟨rfl, rfl⟩, mG.ofM (c_Mo_w0 l dC dI cI (am 0) th (am 1) (am 2) (am 3) (am 4) U Z B bm 1 q hU hZ hB6 hbm (by decide) h1' h2' hq) (Nat.le_of_ble_eq_true rfl) (Nat.le_of_ble_eq_true rfl) rfl rfl ⟨rfl, _, _, _, rfl, lw_sb hI0 (tsN_lt hv1 hb9) (wpB_lt hv1 hpb (suN_lt _ _ _) _ (by decide)) hB1 (fun j => swB_lt (fun k => rv_lt hU k) hbm j)⟩⟩
        · rcases lw_iy p2 (n := 32) (by decide) with hy | ⟨q, hq, rfl⟩
          · skip
            exact Or.inr ⟨xI, 2, _, _, _, _, _, _, _, List.mem_cons_of_mem _ List.mem_cons_self, mX.of (x_writeJ1 l dC dI cI (ad 0) (ad 1) (ad 2) (Z 0) v0 (ad 3) (ad 4) (Z 1) v1 (ad 5) (ad 6) b (ad 7) (ad 8) pb (ad 9) (ad 10) B p2 t hn0 hv0 hn1 hv1 hb9 hpb hB h1 ⟨ht0, ht⟩ hy htr) (Nat.le_of_ble_eq_true rfl) (Nat.le_of_ble_eq_true rfl) rfl rfl, mG.ofM (c_Mo_wJ l dC dI cI (am 0) th (am 1) (am 2) (am 3) (am 4) U Z B bm 1 p2 t hU hZ hB6 hbm (by decide) h1' ⟨ht0, ht⟩ (lw_yx hy (by omega))) (Nat.le_of_ble_eq_true rfl) (Nat.le_of_ble_eq_true rfl) rfl rfl ⟨⟨_, rfl⟩, _, _, _, rfl, hI0⟩⟩
          · have hpn := pnN_le hn1
            rcases Nat.lt_or_ge (q + pnN (Z 1)) 32 with hq2 | hq2
            · have hc := c_LN_writeT1 l dC dI cI (ad 0) (ad 1) (ad 2) (Z 0) v0 (ad 3) (ad 4) (Z 1) v1 (ad 5) (ad 6) b (ad 7) (ad 8) pb (ad 9) (ad 10) B q t hn0 hv0 hn1 hv1 hb9 hpb hB h1 ⟨ht0, ht⟩ hq2
              have hB1 := wsB_lt (v := v1) (n := Z 1) (su := suN (stN B (enN (ttN v1 (Z 1) t b)) ((q + pnN (Z 1)) * 32) 32) ((q + pnN (Z 1)) * 32) 11) (e := q + pnN (Z 1)) (pb := pb) (B := stN B (enN (ttN v1 (Z 1) t b)) ((q + pnN (Z 1)) * 32) 32) (stN_lt hB (enN_lt _)) (pnN (Z 1))
              rw [wt_eq (b' := bm) (fun j => rv_lt hU j) r1 (nameN_pos h1) hn1] at hc hB1
              exact Or.inl ⟨_, _, _, _, _, _, _, _, mG.ofM (hc) (Nat.le_of_ble_eq_true rfl) (Nat.le_of_ble_eq_true rfl) rfl rfl ⟨rfl, rfl⟩, mG.ofM (c_Mo_wP l dC dI cI (am 0) th (am 1) (am 2) (am 3) (am 4) U Z B bm 1 q t hU hZ hB6 hbm (by decide) h1' ⟨ht0, ht⟩ hq2) (Nat.le_of_ble_eq_true rfl) (Nat.le_of_ble_eq_true rfl) rfl rfl ⟨rfl, _, _, _, rfl, lw_sb hI0 (ttN_lt hv1 hb9) (wpB_lt hv1 hpb (suN_lt _ _ _) _ (by omega)) hB1 (tdN_lt (fun j => rv_lt hU j) hbm)⟩⟩
            · skip
              exact Or.inr ⟨xI, 2, _, _, _, _, _, _, _, List.mem_cons_of_mem _ List.mem_cons_self, mX.of (x_writeK1 l dC dI cI (ad 0) (ad 1) (ad 2) (Z 0) v0 (ad 3) (ad 4) (Z 1) v1 (ad 5) (ad 6) b (ad 7) (ad 8) pb (ad 9) (ad 10) B q t hn0 hv0 hn1 hv1 hb9 hpb hB h1 ⟨ht0, ht⟩ hq hq2 htr) (Nat.le_of_ble_eq_true rfl) (Nat.le_of_ble_eq_true rfl) rfl rfl, mG.ofM (c_Mo_wJ l dC dI cI (am 0) th (am 1) (am 2) (am 3) (am 4) U Z B bm 1 (nI q) t hU hZ hB6 hbm (by decide) h1' ⟨ht0, ht⟩ (Or.inr (by rw [nI_leI (by omega) (by omega)]; omega))) (Nat.le_of_ble_eq_true rfl) (Nat.le_of_ble_eq_true rfl) rfl rfl ⟨⟨_, rfl⟩, _, _, _, rfl, hI0⟩⟩
  · skip
    exact Or.inr ⟨xA, 1, _, _, _, _, _, _, _, List.mem_cons_self, mX.of (x_write l dC dI cI (ad 0) (ad 1) (ad 2) (Z 0) v0 (ad 3) (ad 4) (Z 1) v1 (ad 5) (ad 6) b (ad 7) (ad 8) pb (ad 9) (ad 10) B p1 p2 p3 hn0 hv0 hn1 hv1 hb9 hpb hB c0 c1 htr) (Nat.le_of_ble_eq_true rfl) (Nat.le_of_ble_eq_true rfl) rfl rfl, mG.ofM (c_Mo_wx l dC dI cI (am 0) th (am 1) (am 2) (am 3) (am 4) U Z B bm p1 p2 p3 hU hZ hB6 hbm c0 c1) (Nat.le_of_ble_eq_true rfl) (Nat.le_of_ble_eq_true rfl) rfl rfl ⟨⟨_, rfl⟩, _, _, _, rfl, hI0⟩⟩
set_option maxRecDepth 100000 in
theorem o_read (l : Launch) (dC : Nat → ClassId) (dI : Nat → Nat → Nat) (cI : ClassId) (ad am : Nat → Nat) {n0 : Nat} {v0 : Nat → Nat} {n1 : Nat} {v1 b pb B : Nat → Nat} (th : Int32) {U Z bm : Nat → Nat} (hI : lwI n0 v0 n1 v1 b pb B U Z bm) (htr : l.stackTraces = false) (p1 p2 p3 : Int32) : oW l dC dI cI ad am y_LN_read y_Mo_read w_LN_read w_Mo_read [.int p1, .int p2, .int p3] [(xA, 1), (xI, 2), (xS, 3)] n0 v0 n1 v1 b pb B th U Z bm := by
  have hI0 := hI
  obtain ⟨⟨hn0, hv0, hn1, hv1, hb9, hpb, hB⟩, ⟨hU, hZ, hbm⟩, e0, e1, r0, r1⟩ := hI
  subst e0; subst e1
  have hB6 : ∀ j, B j < 65536 := fun j => Nat.lt_trans (hB j) (by decide)
  rcases lw_r p1 with rfl | rfl | ⟨c0, c1⟩
  · rcases lw_ix p3 (n := 20) (by decide) with hz | ⟨p9, hp9, rfl⟩
    · skip
      exact Or.inr ⟨xA, 1, _, _, _, _, _, _, _, List.mem_cons_self, mX.of (x_readP0 l dC dI cI (ad 0) (ad 1) (ad 2) (Z 0) v0 (ad 3) (ad 4) (Z 1) v1 (ad 5) (ad 6) b (ad 7) (ad 8) pb (ad 9) (ad 10) B p2 p3 hn0 hv0 hn1 hv1 hb9 hpb hB hz htr) (Nat.le_of_ble_eq_true rfl) (Nat.le_of_ble_eq_true rfl) rfl rfl, mG.ofM (c_Mo_rP l dC dI cI (am 0) th (am 1) (am 2) (am 3) (am 4) U Z B bm 0 p2 p3 hU hZ hB6 hbm (by decide) hz) (Nat.le_of_ble_eq_true rfl) (Nat.le_of_ble_eq_true rfl) rfl rfl ⟨⟨_, rfl⟩, _, _, _, rfl, lw_s0 hI0 (Nat.zero_le _) hv0 (hU) (fun j hj => absurd hj (Nat.not_lt_zero _)) (fun _ _ => rfl) hb9 hpb hbm⟩⟩
    · rcases lw_iy p2 (n := 32) (by decide) with hy | ⟨q, hq, rfl⟩
      · skip
        exact Or.inr ⟨xI, 2, _, _, _, _, _, _, _, List.mem_cons_of_mem _ List.mem_cons_self, mX.of (x_readI0 l dC dI cI (ad 0) (ad 1) (ad 2) (Z 0) v0 (ad 3) (ad 4) (Z 1) v1 (ad 5) (ad 6) b (ad 7) (ad 8) pb (ad 9) (ad 10) B p2 p9 hn0 hv0 hn1 hv1 hb9 hpb hB (by omega) hy htr) (Nat.le_of_ble_eq_true rfl) (Nat.le_of_ble_eq_true rfl) rfl rfl, mG.ofM (c_Mo_rI l dC dI cI (am 0) th (am 1) (am 2) (am 3) (am 4) U Z B bm 0 p2 p9 hU hZ hB6 hbm (by decide) (by omega) (lw_yx hy (by decide))) (Nat.le_of_ble_eq_true rfl) (Nat.le_of_ble_eq_true rfl) rfl rfl ⟨⟨_, rfl⟩, _, _, _, rfl, lw_s0 hI0 (Nat.zero_le _) hv0 (hU) (fun j hj => absurd hj (Nat.not_lt_zero _)) (fun _ _ => rfl) hb9 hpb hbm⟩⟩
      · rcases Nat.lt_or_ge q p9 with hy | hy
        · skip
          exact Or.inr ⟨xI, 2, _, _, _, _, _, _, _, List.mem_cons_of_mem _ List.mem_cons_self, mX.of (x_readJ0 l dC dI cI (ad 0) (ad 1) (ad 2) (Z 0) v0 (ad 3) (ad 4) (Z 1) v1 (ad 5) (ad 6) b (ad 7) (ad 8) pb (ad 9) (ad 10) B q p9 hn0 hv0 hn1 hv1 hb9 hpb hB (by omega) hq hy htr) (Nat.le_of_ble_eq_true rfl) (Nat.le_of_ble_eq_true rfl) rfl rfl, mG.ofM (c_Mo_rJ l dC dI cI (am 0) th (am 1) (am 2) (am 3) (am 4) U Z B bm 0 q p9 hU hZ hB6 hbm (by decide) (by omega) hq hy) (Nat.le_of_ble_eq_true rfl) (Nat.le_of_ble_eq_true rfl) rfl rfl ⟨⟨_, rfl⟩, _, _, _, rfl, lw_s0 hI0 (Nat.zero_le _) hv0 (hU) (fun j hj => absurd hj (Nat.not_lt_zero _)) (fun _ _ => rfl) hb9 hpb hbm⟩⟩
        · cases h1 : valN (cpN b B (q * 32) 11)
          · have h1' : isF B (32 * q) = false := by rw [← val_eq (b := b)]; exact h1
            exact Or.inr ⟨xS, 3, _, _, _, _, _, _, _, List.mem_cons_of_mem _ (List.mem_cons_of_mem _ List.mem_cons_self), mX.of (x_readV0 l dC dI cI (ad 0) (ad 1) (ad 2) (Z 0) v0 (ad 3) (ad 4) (Z 1) v1 (ad 5) (ad 6) b (ad 7) (ad 8) pb (ad 9) (ad 10) B q p9 hn0 hv0 hn1 hv1 hb9 hpb hB h1 hq ⟨by omega, hy⟩ htr) (Nat.le_of_ble_eq_true rfl) (Nat.le_of_ble_eq_true rfl) rfl rfl, mG.ofM (c_Mo_rV l dC dI cI (am 0) th (am 1) (am 2) (am 3) (am 4) U Z B bm 0 q p9 hU hZ hB6 hbm (by decide) h1' hq ⟨by omega, hy⟩) (Nat.le_of_ble_eq_true rfl) (Nat.le_of_ble_eq_true rfl) rfl rfl ⟨⟨_, rfl⟩, _, _, _, rfl, lw_s0 hI0 (Nat.zero_le _) hv0 (hU) (fun j hj => absurd hj (Nat.not_lt_zero _)) (fun _ _ => rfl) (cpN_lt hb9 hB) hpb hbm⟩⟩
          · have h1' : isF B (32 * q) = true := by rw [← val_eq (b := b)]; exact h1
            rcases Nat.eq_zero_or_pos p9 with rfl | hp0
            · have es := si_eq (b := b) (B := B) (U := U) (v := v0) (q := q) (r := 0) h1
              have hm := c_Mo_rE l dC dI cI (am 0) th (am 1) (am 2) (am 3) (am 4) U Z B bm 0 q hU hZ hB6 hbm (by decide) h1' hq
              rw [es.1] at hm
              exact Or.inl ⟨_, _, _, _, _, _, _, _, mG.ofM (c_LN_readE0 l dC dI cI (ad 0) (ad 1) (ad 2) (Z 0) v0 (ad 3) (ad 4) (Z 1) v1 (ad 5) (ad 6) b (ad 7) (ad 8) pb (ad 9) (ad 10) B q hn0 hv0 hn1 hv1 hb9 hpb hB h1 hq) (Nat.le_of_ble_eq_true rfl) (Nat.le_of_ble_eq_true rfl) rfl rfl ⟨rfl, rfl⟩, mG.ofM (hm) (Nat.le_of_ble_eq_true rfl) (Nat.le_of_ble_eq_true rfl) rfl rfl ⟨rfl, _, _, _, rfl, lw_s0 hI0 (siC_le _) (siV_lt hv0 (cpN_lt hb9 hB)) (rs_lt hB 11 0 0 U hU) (fun j hj => (es.2 j hj).symm) (fun j hj => rs_out 11 0 0 U (by omega)) (cpN_lt hb9 hB) hpb hbm⟩⟩
            · have hp7 : 1 ≤ p9 ∧ p9 ≤ 20 ∧ p9 ≤ q := ⟨hp0, by omega, hy⟩
              cases h3 : nameN (coV v0 (unN B q) (coC (unN B q) (13 * p9) 0)) (coC (unN B q) (13 * p9) 0)
              · have hbad : ∀ c5, c5 ≤ 255 → c5 ≤ 13 * p9 → (∀ t, t < c5 → mt B (32 * q) t ≠ 0) → (c5 = 13 * p9 ∨ (13 * (p9 - 1) < c5 ∧ c5 < 13 * p9)) → (c5 < 13 * p9 → mt B (32 * q) c5 = 0) → (∀ t, c5 < t → t < 13 * p9 → mt B (32 * q) t = 65535) → (∀ p8 b8, 1 ≤ p8 → p8 ≤ p9 → b8 < 28 → owB b8 = true → B (32 * q - 32 * p8 + b8) = duN b8 p8 (if p8 = p9 then 1 else 0) (suN B (32 * q) 11)) → nameN (mt B (32 * q)) c5 = false := by
                  intro c5 a1 a2 a3 a4 a5 a6 a7
                  obtain ⟨e9, -, hn9, -⟩ := rd_only (v := v0) (pb := pb) hB hv0 hp7 a1 a2 a3 a4 a5 a6 a7
                  rw [e9] at h3
                  rw [← hn9]
                  exact h3
                exact Or.inr ⟨xS, 3, _, _, _, _, _, _, _, List.mem_cons_of_mem _ (List.mem_cons_of_mem _ List.mem_cons_self), mX.of (x_readR10 l dC dI cI (ad 0) (ad 1) (ad 2) (Z 0) v0 (ad 3) (ad 4) (Z 1) v1 (ad 5) (ad 6) b (ad 7) (ad 8) pb (ad 9) (ad 10) B q p9 hn0 hv0 hn1 hv1 hb9 hpb hB h1 hq hp7 h3 htr) (Nat.le_of_ble_eq_true rfl) (Nat.le_of_ble_eq_true rfl) rfl rfl, mG.ofE (c_Mo_rF l dC dI cI (am 0) th (am 1) (am 2) (am 3) (am 4) U Z B bm 0 q p9 hU hZ hB6 hbm (by decide) h1' hB hq hp7 hbad) (Nat.le_of_ble_eq_true rfl) (Nat.le_of_ble_eq_true rfl) rfl rfl (fun q9 c8 g1 g2 => ⟨⟨_, rfl⟩, _, _, _, rfl, lw_s0 hI0 (Nat.zero_le _) (coV_lt hv0 (fun j => unN_lt q j hB)) (stN_lt hU g1) (fun j hj => absurd hj (Nat.not_lt_zero _)) (fun j hj => rv_x0 g2) (cpN_lt hb9 hB) hpb hbm⟩)⟩
              · by_cases h4 : pnN (coC (unN B q) (13 * p9) 0) = p9
                · cases h5 : rpR (coV v0 (unN B q) (coC (unN B q) (13 * p9) 0)) (coC (unN B q) (13 * p9) 0) (suN B (q * 32) 11) q pb B p9 0
                  · have hbad : ∀ c5, c5 ≤ 255 → c5 ≤ 13 * p9 → (∀ t, t < c5 → mt B (32 * q) t ≠ 0) → (c5 = 13 * p9 ∨ (13 * (p9 - 1) < c5 ∧ c5 < 13 * p9)) → (c5 < 13 * p9 → mt B (32 * q) c5 = 0) → (∀ t, c5 < t → t < 13 * p9 → mt B (32 * q) t = 65535) → (∀ p8 b8, 1 ≤ p8 → p8 ≤ p9 → b8 < 28 → owB b8 = true → B (32 * q - 32 * p8 + b8) = duN b8 p8 (if p8 = p9 then 1 else 0) (suN B (32 * q) 11)) → nameN (mt B (32 * q)) c5 = false := by
                      intro c5 a1 a2 a3 a4 a5 a6 a7
                      obtain ⟨e9, -, -, f9⟩ := rd_only (v := v0) (pb := pb) hB hv0 hp7 a1 a2 a3 a4 a5 a6 a7
                      rw [e9, f9] at h5
                      cases h5
                    exact Or.inr ⟨xS, 3, _, _, _, _, _, _, _, List.mem_cons_of_mem _ (List.mem_cons_of_mem _ List.mem_cons_self), mX.of (x_readR30 l dC dI cI (ad 0) (ad 1) (ad 2) (Z 0) v0 (ad 3) (ad 4) (Z 1) v1 (ad 5) (ad 6) b (ad 7) (ad 8) pb (ad 9) (ad 10) B q p9 hn0 hv0 hn1 hv1 hb9 hpb hB h1 hq hp7 h3 h4 h5 htr) (Nat.le_of_ble_eq_true rfl) (Nat.le_of_ble_eq_true rfl) rfl rfl, mG.ofE (c_Mo_rF l dC dI cI (am 0) th (am 1) (am 2) (am 3) (am 4) U Z B bm 0 q p9 hU hZ hB6 hbm (by decide) h1' hB hq hp7 hbad) (Nat.le_of_ble_eq_true rfl) (Nat.le_of_ble_eq_true rfl) rfl rfl (fun q9 c8 g1 g2 => ⟨⟨_, rfl⟩, _, _, _, rfl, lw_s0 hI0 (Nat.zero_le _) (coV_lt hv0 (fun j => unN_lt q j hB)) (stN_lt hU g1) (fun j hj => absurd hj (Nat.not_lt_zero _)) (fun j hj => rv_x0 g2) (cpN_lt hb9 hB) (wpB_lt (coV_lt hv0 (fun j => unN_lt q j hB)) hpb (suN_lt _ _ _) _ (Nat.lt_of_le_of_lt (rpK_le _ _ _ _ _ _ _ _) (by omega))) hbm⟩)⟩
                  · obtain ⟨g1, g2, g3, g4, g5, g6, g7⟩ := rd_good hB hv0 hp7 h4 h5
                    have hV : ∀ j, j < (coC (unN B q) (13 * p9) 0) → coV v0 (unN B q) (coC (unN B q) (13 * p9) 0) j = mt B (32 * q) j := fun j hj => by
                      rw [mt_un (by omega)]
                      unfold coV
                      rw [if_pos hj]
                    exact Or.inl ⟨_, _, _, _, _, _, _, _, mG.ofM (c_LN_readP0 l dC dI cI (ad 0) (ad 1) (ad 2) (Z 0) v0 (ad 3) (ad 4) (Z 1) v1 (ad 5) (ad 6) b (ad 7) (ad 8) pb (ad 9) (ad 10) B q p9 hn0 hv0 hn1 hv1 hb9 hpb hB h1 hq hp7 h3 h4 h5) (Nat.le_of_ble_eq_true rfl) (Nat.le_of_ble_eq_true rfl) rfl rfl ⟨rfl, rfl⟩, mG.ofM (c_Mo_rT l dC dI cI (am 0) th (am 1) (am 2) (am 3) (am 4) U Z B bm 0 q p9 (coC (unN B q) (13 * p9) 0) hU hZ hB6 hbm (by decide) h1' hB hq hp7 g1 g2 g3 g4 g5 g6 g7 (by rw [← nameN_cg hV]; exact h3)) (Nat.le_of_ble_eq_true rfl) (Nat.le_of_ble_eq_true rfl) rfl rfl ⟨rfl, _, _, _, rfl, lw_s0 hI0 g1 (coV_lt hv0 (fun j => unN_lt q j hB)) (stN_lt hU (fun j => mt_lt hB j)) (fun j hj => (hV j hj).trans (rv_st hj).symm) (fun j hj => rv_x0 g1) (cpN_lt hb9 hB) (wpB_lt (coV_lt hv0 (fun j => unN_lt q j hB)) hpb (suN_lt _ _ _) _ (Nat.lt_of_le_of_lt (rpK_le _ _ _ _ _ _ _ _) (by omega))) hbm⟩⟩
                · have hbad : ∀ c5, c5 ≤ 255 → c5 ≤ 13 * p9 → (∀ t, t < c5 → mt B (32 * q) t ≠ 0) → (c5 = 13 * p9 ∨ (13 * (p9 - 1) < c5 ∧ c5 < 13 * p9)) → (c5 < 13 * p9 → mt B (32 * q) c5 = 0) → (∀ t, c5 < t → t < 13 * p9 → mt B (32 * q) t = 65535) → (∀ p8 b8, 1 ≤ p8 → p8 ≤ p9 → b8 < 28 → owB b8 = true → B (32 * q - 32 * p8 + b8) = duN b8 p8 (if p8 = p9 then 1 else 0) (suN B (32 * q) 11)) → nameN (mt B (32 * q)) c5 = false := by
                    intro c5 a1 a2 a3 a4 a5 a6 a7
                    obtain ⟨e9, f9, -, -⟩ := rd_only (v := v0) (pb := pb) hB hv0 hp7 a1 a2 a3 a4 a5 a6 a7
                    exact absurd (by rw [e9]; exact f9) h4
                  exact Or.inr ⟨xS, 3, _, _, _, _, _, _, _, List.mem_cons_of_mem _ (List.mem_cons_of_mem _ List.mem_cons_self), mX.of (x_readR20 l dC dI cI (ad 0) (ad 1) (ad 2) (Z 0) v0 (ad 3) (ad 4) (Z 1) v1 (ad 5) (ad 6) b (ad 7) (ad 8) pb (ad 9) (ad 10) B q p9 hn0 hv0 hn1 hv1 hb9 hpb hB h1 hq hp7 h3 h4 htr) (Nat.le_of_ble_eq_true rfl) (Nat.le_of_ble_eq_true rfl) rfl rfl, mG.ofE (c_Mo_rF l dC dI cI (am 0) th (am 1) (am 2) (am 3) (am 4) U Z B bm 0 q p9 hU hZ hB6 hbm (by decide) h1' hB hq hp7 hbad) (Nat.le_of_ble_eq_true rfl) (Nat.le_of_ble_eq_true rfl) rfl rfl (fun q9 c8 g1 g2 => ⟨⟨_, rfl⟩, _, _, _, rfl, lw_s0 hI0 (Nat.zero_le _) (coV_lt hv0 (fun j => unN_lt q j hB)) (stN_lt hU g1) (fun j hj => absurd hj (Nat.not_lt_zero _)) (fun j hj => rv_x0 g2) (cpN_lt hb9 hB) hpb hbm⟩)⟩
  · rcases lw_ix p3 (n := 20) (by decide) with hz | ⟨p9, hp9, rfl⟩
    · skip
      exact Or.inr ⟨xA, 1, _, _, _, _, _, _, _, List.mem_cons_self, mX.of (x_readP1 l dC dI cI (ad 0) (ad 1) (ad 2) (Z 0) v0 (ad 3) (ad 4) (Z 1) v1 (ad 5) (ad 6) b (ad 7) (ad 8) pb (ad 9) (ad 10) B p2 p3 hn0 hv0 hn1 hv1 hb9 hpb hB hz htr) (Nat.le_of_ble_eq_true rfl) (Nat.le_of_ble_eq_true rfl) rfl rfl, mG.ofM (c_Mo_rP l dC dI cI (am 0) th (am 1) (am 2) (am 3) (am 4) U Z B bm 1 p2 p3 hU hZ hB6 hbm (by decide) hz) (Nat.le_of_ble_eq_true rfl) (Nat.le_of_ble_eq_true rfl) rfl rfl ⟨⟨_, rfl⟩, _, _, _, rfl, lw_s1 hI0 (Nat.zero_le _) hv1 (hU) (fun j hj => absurd hj (Nat.not_lt_zero _)) (fun _ _ => rfl) hb9 hpb hbm⟩⟩
    · rcases lw_iy p2 (n := 32) (by decide) with hy | ⟨q, hq, rfl⟩
      · skip
        exact Or.inr ⟨xI, 2, _, _, _, _, _, _, _, List.mem_cons_of_mem _ List.mem_cons_self, mX.of (x_readI1 l dC dI cI (ad 0) (ad 1) (ad 2) (Z 0) v0 (ad 3) (ad 4) (Z 1) v1 (ad 5) (ad 6) b (ad 7) (ad 8) pb (ad 9) (ad 10) B p2 p9 hn0 hv0 hn1 hv1 hb9 hpb hB (by omega) hy htr) (Nat.le_of_ble_eq_true rfl) (Nat.le_of_ble_eq_true rfl) rfl rfl, mG.ofM (c_Mo_rI l dC dI cI (am 0) th (am 1) (am 2) (am 3) (am 4) U Z B bm 1 p2 p9 hU hZ hB6 hbm (by decide) (by omega) (lw_yx hy (by decide))) (Nat.le_of_ble_eq_true rfl) (Nat.le_of_ble_eq_true rfl) rfl rfl ⟨⟨_, rfl⟩, _, _, _, rfl, lw_s1 hI0 (Nat.zero_le _) hv1 (hU) (fun j hj => absurd hj (Nat.not_lt_zero _)) (fun _ _ => rfl) hb9 hpb hbm⟩⟩
      · rcases Nat.lt_or_ge q p9 with hy | hy
        · skip
          exact Or.inr ⟨xI, 2, _, _, _, _, _, _, _, List.mem_cons_of_mem _ List.mem_cons_self, mX.of (x_readJ1 l dC dI cI (ad 0) (ad 1) (ad 2) (Z 0) v0 (ad 3) (ad 4) (Z 1) v1 (ad 5) (ad 6) b (ad 7) (ad 8) pb (ad 9) (ad 10) B q p9 hn0 hv0 hn1 hv1 hb9 hpb hB (by omega) hq hy htr) (Nat.le_of_ble_eq_true rfl) (Nat.le_of_ble_eq_true rfl) rfl rfl, mG.ofM (c_Mo_rJ l dC dI cI (am 0) th (am 1) (am 2) (am 3) (am 4) U Z B bm 1 q p9 hU hZ hB6 hbm (by decide) (by omega) hq hy) (Nat.le_of_ble_eq_true rfl) (Nat.le_of_ble_eq_true rfl) rfl rfl ⟨⟨_, rfl⟩, _, _, _, rfl, lw_s1 hI0 (Nat.zero_le _) hv1 (hU) (fun j hj => absurd hj (Nat.not_lt_zero _)) (fun _ _ => rfl) hb9 hpb hbm⟩⟩
        · cases h1 : valN (cpN b B (q * 32) 11)
          · have h1' : isF B (32 * q) = false := by rw [← val_eq (b := b)]; exact h1
            exact Or.inr ⟨xS, 3, _, _, _, _, _, _, _, List.mem_cons_of_mem _ (List.mem_cons_of_mem _ List.mem_cons_self), mX.of (x_readV1 l dC dI cI (ad 0) (ad 1) (ad 2) (Z 0) v0 (ad 3) (ad 4) (Z 1) v1 (ad 5) (ad 6) b (ad 7) (ad 8) pb (ad 9) (ad 10) B q p9 hn0 hv0 hn1 hv1 hb9 hpb hB h1 hq ⟨by omega, hy⟩ htr) (Nat.le_of_ble_eq_true rfl) (Nat.le_of_ble_eq_true rfl) rfl rfl, mG.ofM (c_Mo_rV l dC dI cI (am 0) th (am 1) (am 2) (am 3) (am 4) U Z B bm 1 q p9 hU hZ hB6 hbm (by decide) h1' hq ⟨by omega, hy⟩) (Nat.le_of_ble_eq_true rfl) (Nat.le_of_ble_eq_true rfl) rfl rfl ⟨⟨_, rfl⟩, _, _, _, rfl, lw_s1 hI0 (Nat.zero_le _) hv1 (hU) (fun j hj => absurd hj (Nat.not_lt_zero _)) (fun _ _ => rfl) (cpN_lt hb9 hB) hpb hbm⟩⟩
          · have h1' : isF B (32 * q) = true := by rw [← val_eq (b := b)]; exact h1
            rcases Nat.eq_zero_or_pos p9 with rfl | hp0
            · have es := si_eq (b := b) (B := B) (U := U) (v := v1) (q := q) (r := 1) h1
              have hm := c_Mo_rE l dC dI cI (am 0) th (am 1) (am 2) (am 3) (am 4) U Z B bm 1 q hU hZ hB6 hbm (by decide) h1' hq
              rw [es.1] at hm
              exact Or.inl ⟨_, _, _, _, _, _, _, _, mG.ofM (c_LN_readE1 l dC dI cI (ad 0) (ad 1) (ad 2) (Z 0) v0 (ad 3) (ad 4) (Z 1) v1 (ad 5) (ad 6) b (ad 7) (ad 8) pb (ad 9) (ad 10) B q hn0 hv0 hn1 hv1 hb9 hpb hB h1 hq) (Nat.le_of_ble_eq_true rfl) (Nat.le_of_ble_eq_true rfl) rfl rfl ⟨rfl, rfl⟩, mG.ofM (hm) (Nat.le_of_ble_eq_true rfl) (Nat.le_of_ble_eq_true rfl) rfl rfl ⟨rfl, _, _, _, rfl, lw_s1 hI0 (siC_le _) (siV_lt hv1 (cpN_lt hb9 hB)) (rs_lt hB 11 0 0 U hU) (fun j hj => (es.2 j hj).symm) (fun j hj => rs_out 11 0 0 U (by omega)) (cpN_lt hb9 hB) hpb hbm⟩⟩
            · have hp7 : 1 ≤ p9 ∧ p9 ≤ 20 ∧ p9 ≤ q := ⟨hp0, by omega, hy⟩
              cases h3 : nameN (coV v1 (unN B q) (coC (unN B q) (13 * p9) 0)) (coC (unN B q) (13 * p9) 0)
              · have hbad : ∀ c5, c5 ≤ 255 → c5 ≤ 13 * p9 → (∀ t, t < c5 → mt B (32 * q) t ≠ 0) → (c5 = 13 * p9 ∨ (13 * (p9 - 1) < c5 ∧ c5 < 13 * p9)) → (c5 < 13 * p9 → mt B (32 * q) c5 = 0) → (∀ t, c5 < t → t < 13 * p9 → mt B (32 * q) t = 65535) → (∀ p8 b8, 1 ≤ p8 → p8 ≤ p9 → b8 < 28 → owB b8 = true → B (32 * q - 32 * p8 + b8) = duN b8 p8 (if p8 = p9 then 1 else 0) (suN B (32 * q) 11)) → nameN (mt B (32 * q)) c5 = false := by
                  intro c5 a1 a2 a3 a4 a5 a6 a7
                  obtain ⟨e9, -, hn9, -⟩ := rd_only (v := v1) (pb := pb) hB hv1 hp7 a1 a2 a3 a4 a5 a6 a7
                  rw [e9] at h3
                  rw [← hn9]
                  exact h3
                exact Or.inr ⟨xS, 3, _, _, _, _, _, _, _, List.mem_cons_of_mem _ (List.mem_cons_of_mem _ List.mem_cons_self), mX.of (x_readR11 l dC dI cI (ad 0) (ad 1) (ad 2) (Z 0) v0 (ad 3) (ad 4) (Z 1) v1 (ad 5) (ad 6) b (ad 7) (ad 8) pb (ad 9) (ad 10) B q p9 hn0 hv0 hn1 hv1 hb9 hpb hB h1 hq hp7 h3 htr) (Nat.le_of_ble_eq_true rfl) (Nat.le_of_ble_eq_true rfl) rfl rfl, mG.ofE (c_Mo_rF l dC dI cI (am 0) th (am 1) (am 2) (am 3) (am 4) U Z B bm 1 q p9 hU hZ hB6 hbm (by decide) h1' hB hq hp7 hbad) (Nat.le_of_ble_eq_true rfl) (Nat.le_of_ble_eq_true rfl) rfl rfl (fun q9 c8 g1 g2 => ⟨⟨_, rfl⟩, _, _, _, rfl, lw_s1 hI0 (Nat.zero_le _) (coV_lt hv1 (fun j => unN_lt q j hB)) (stN_lt hU g1) (fun j hj => absurd hj (Nat.not_lt_zero _)) (fun j hj => rv_x1 hj) (cpN_lt hb9 hB) hpb hbm⟩)⟩
              · by_cases h4 : pnN (coC (unN B q) (13 * p9) 0) = p9
                · cases h5 : rpR (coV v1 (unN B q) (coC (unN B q) (13 * p9) 0)) (coC (unN B q) (13 * p9) 0) (suN B (q * 32) 11) q pb B p9 0
                  · have hbad : ∀ c5, c5 ≤ 255 → c5 ≤ 13 * p9 → (∀ t, t < c5 → mt B (32 * q) t ≠ 0) → (c5 = 13 * p9 ∨ (13 * (p9 - 1) < c5 ∧ c5 < 13 * p9)) → (c5 < 13 * p9 → mt B (32 * q) c5 = 0) → (∀ t, c5 < t → t < 13 * p9 → mt B (32 * q) t = 65535) → (∀ p8 b8, 1 ≤ p8 → p8 ≤ p9 → b8 < 28 → owB b8 = true → B (32 * q - 32 * p8 + b8) = duN b8 p8 (if p8 = p9 then 1 else 0) (suN B (32 * q) 11)) → nameN (mt B (32 * q)) c5 = false := by
                      intro c5 a1 a2 a3 a4 a5 a6 a7
                      obtain ⟨e9, -, -, f9⟩ := rd_only (v := v1) (pb := pb) hB hv1 hp7 a1 a2 a3 a4 a5 a6 a7
                      rw [e9, f9] at h5
                      cases h5
                    exact Or.inr ⟨xS, 3, _, _, _, _, _, _, _, List.mem_cons_of_mem _ (List.mem_cons_of_mem _ List.mem_cons_self), mX.of (x_readR31 l dC dI cI (ad 0) (ad 1) (ad 2) (Z 0) v0 (ad 3) (ad 4) (Z 1) v1 (ad 5) (ad 6) b (ad 7) (ad 8) pb (ad 9) (ad 10) B q p9 hn0 hv0 hn1 hv1 hb9 hpb hB h1 hq hp7 h3 h4 h5 htr) (Nat.le_of_ble_eq_true rfl) (Nat.le_of_ble_eq_true rfl) rfl rfl, mG.ofE (c_Mo_rF l dC dI cI (am 0) th (am 1) (am 2) (am 3) (am 4) U Z B bm 1 q p9 hU hZ hB6 hbm (by decide) h1' hB hq hp7 hbad) (Nat.le_of_ble_eq_true rfl) (Nat.le_of_ble_eq_true rfl) rfl rfl (fun q9 c8 g1 g2 => ⟨⟨_, rfl⟩, _, _, _, rfl, lw_s1 hI0 (Nat.zero_le _) (coV_lt hv1 (fun j => unN_lt q j hB)) (stN_lt hU g1) (fun j hj => absurd hj (Nat.not_lt_zero _)) (fun j hj => rv_x1 hj) (cpN_lt hb9 hB) (wpB_lt (coV_lt hv1 (fun j => unN_lt q j hB)) hpb (suN_lt _ _ _) _ (Nat.lt_of_le_of_lt (rpK_le _ _ _ _ _ _ _ _) (by omega))) hbm⟩)⟩
                  · obtain ⟨g1, g2, g3, g4, g5, g6, g7⟩ := rd_good hB hv1 hp7 h4 h5
                    have hV : ∀ j, j < (coC (unN B q) (13 * p9) 0) → coV v1 (unN B q) (coC (unN B q) (13 * p9) 0) j = mt B (32 * q) j := fun j hj => by
                      rw [mt_un (by omega)]
                      unfold coV
                      rw [if_pos hj]
                    exact Or.inl ⟨_, _, _, _, _, _, _, _, mG.ofM (c_LN_readP1 l dC dI cI (ad 0) (ad 1) (ad 2) (Z 0) v0 (ad 3) (ad 4) (Z 1) v1 (ad 5) (ad 6) b (ad 7) (ad 8) pb (ad 9) (ad 10) B q p9 hn0 hv0 hn1 hv1 hb9 hpb hB h1 hq hp7 h3 h4 h5) (Nat.le_of_ble_eq_true rfl) (Nat.le_of_ble_eq_true rfl) rfl rfl ⟨rfl, rfl⟩, mG.ofM (c_Mo_rT l dC dI cI (am 0) th (am 1) (am 2) (am 3) (am 4) U Z B bm 1 q p9 (coC (unN B q) (13 * p9) 0) hU hZ hB6 hbm (by decide) h1' hB hq hp7 g1 g2 g3 g4 g5 g6 g7 (by rw [← nameN_cg hV]; exact h3)) (Nat.le_of_ble_eq_true rfl) (Nat.le_of_ble_eq_true rfl) rfl rfl ⟨rfl, _, _, _, rfl, lw_s1 hI0 g1 (coV_lt hv1 (fun j => unN_lt q j hB)) (stN_lt hU (fun j => mt_lt hB j)) (fun j hj => (hV j hj).trans (rv_st hj).symm) (fun j hj => rv_x1 hj) (cpN_lt hb9 hB) (wpB_lt (coV_lt hv1 (fun j => unN_lt q j hB)) hpb (suN_lt _ _ _) _ (Nat.lt_of_le_of_lt (rpK_le _ _ _ _ _ _ _ _) (by omega))) hbm⟩⟩
                · have hbad : ∀ c5, c5 ≤ 255 → c5 ≤ 13 * p9 → (∀ t, t < c5 → mt B (32 * q) t ≠ 0) → (c5 = 13 * p9 ∨ (13 * (p9 - 1) < c5 ∧ c5 < 13 * p9)) → (c5 < 13 * p9 → mt B (32 * q) c5 = 0) → (∀ t, c5 < t → t < 13 * p9 → mt B (32 * q) t = 65535) → (∀ p8 b8, 1 ≤ p8 → p8 ≤ p9 → b8 < 28 → owB b8 = true → B (32 * q - 32 * p8 + b8) = duN b8 p8 (if p8 = p9 then 1 else 0) (suN B (32 * q) 11)) → nameN (mt B (32 * q)) c5 = false := by
                    intro c5 a1 a2 a3 a4 a5 a6 a7
                    obtain ⟨e9, f9, -, -⟩ := rd_only (v := v1) (pb := pb) hB hv1 hp7 a1 a2 a3 a4 a5 a6 a7
                    exact absurd (by rw [e9]; exact f9) h4
                  exact Or.inr ⟨xS, 3, _, _, _, _, _, _, _, List.mem_cons_of_mem _ (List.mem_cons_of_mem _ List.mem_cons_self), mX.of (x_readR21 l dC dI cI (ad 0) (ad 1) (ad 2) (Z 0) v0 (ad 3) (ad 4) (Z 1) v1 (ad 5) (ad 6) b (ad 7) (ad 8) pb (ad 9) (ad 10) B q p9 hn0 hv0 hn1 hv1 hb9 hpb hB h1 hq hp7 h3 h4 htr) (Nat.le_of_ble_eq_true rfl) (Nat.le_of_ble_eq_true rfl) rfl rfl, mG.ofE (c_Mo_rF l dC dI cI (am 0) th (am 1) (am 2) (am 3) (am 4) U Z B bm 1 q p9 hU hZ hB6 hbm (by decide) h1' hB hq hp7 hbad) (Nat.le_of_ble_eq_true rfl) (Nat.le_of_ble_eq_true rfl) rfl rfl (fun q9 c8 g1 g2 => ⟨⟨_, rfl⟩, _, _, _, rfl, lw_s1 hI0 (Nat.zero_le _) (coV_lt hv1 (fun j => unN_lt q j hB)) (stN_lt hU g1) (fun j hj => absurd hj (Nat.not_lt_zero _)) (fun j hj => rv_x1 hj) (cpN_lt hb9 hB) hpb hbm⟩)⟩
  · skip
    exact Or.inr ⟨xA, 1, _, _, _, _, _, _, _, List.mem_cons_self, mX.of (x_read l dC dI cI (ad 0) (ad 1) (ad 2) (Z 0) v0 (ad 3) (ad 4) (Z 1) v1 (ad 5) (ad 6) b (ad 7) (ad 8) pb (ad 9) (ad 10) B p1 p2 p3 hn0 hv0 hn1 hv1 hb9 hpb hB c0 c1 htr) (Nat.le_of_ble_eq_true rfl) (Nat.le_of_ble_eq_true rfl) rfl rfl, mG.ofM (c_Mo_rx l dC dI cI (am 0) th (am 1) (am 2) (am 3) (am 4) U Z B bm p1 p2 p3 hU hZ hB6 hbm c0 c1) (Nat.le_of_ble_eq_true rfl) (Nat.le_of_ble_eq_true rfl) rfl rfl ⟨⟨_, rfl⟩, _, _, _, rfl, hI0⟩⟩
