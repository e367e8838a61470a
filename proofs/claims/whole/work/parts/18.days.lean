set_option maxHeartbeats 4000000 in
set_option maxRecDepth 100000 in
theorem c_Dy_yearOf (l : Launch) (dC : Nat → ClassId) (dI : Nat → Nat → Nat) (cI : ClassId) (d : Nat) (hd : d < 65536) : mR l y_Dy_yearOf w_Dy_yearOf ({ frames := 0, cells := 0, slots := 0, locals := 0 } : Room) [.int (nI d)] (dC, dI) vwCl [(cI, .int)] [] (some (.int (nI (1980 + d / 512)))) := by
  refine mk_Ri (cc := b_Dy_yearOf) (maxL := 1) (by decide) rfl (Nat.le_of_ble_eq_true rfl) rfl ?_
  intro p e s m below meth c Q A ls S hP hK hT hS hl hret
  obtain ⟨hx, hb, hml, hown, hts⟩ := id S
  have hl : lv_has ls 1 [(0, .int (nI d))] := hl
  refine lv_sipush (v := nI 1980) hx hb d_Dy_yearOf_0 (by decide) ?_
  refine lv_iload_n hx hb d_Dy_yearOf_3 rfl (lv_at hl 0 rfl) ?_
  refine lv_sipush (v := nI 512) hx hb d_Dy_yearOf_4 (by decide) ?_
  refine lv_idiv hx hb d_Dy_yearOf_7 (by decide) ?_
  refine mk_ti (y := nI (d / 512)) (pk_div (by omega) (by decide) (by decide)) ?_
  refine lv_iadd hx hb d_Dy_yearOf_8 ?_
  refine mk_ti (y := nI (1980 + d / 512)) (nI_add 1980 (d / 512)) ?_
  exact hret _ _ d_Dy_yearOf_9

set_option maxHeartbeats 4000000 in
set_option maxRecDepth 100000 in
theorem c_Dy_monthOf (l : Launch) (dC : Nat → ClassId) (dI : Nat → Nat → Nat) (cI : ClassId) (d : Nat) (hd : d < 65536) : mR l y_Dy_monthOf w_Dy_monthOf ({ frames := 0, cells := 0, slots := 0, locals := 0 } : Room) [.int (nI d)] (dC, dI) vwCl [(cI, .int)] [] (some (.int (nI (d / 32 % 16)))) := by
  refine mk_Ri (cc := b_Dy_monthOf) (maxL := 1) (by decide) rfl (Nat.le_of_ble_eq_true rfl) rfl ?_
  intro p e s m below meth c Q A ls S hP hK hT hS hl hret
  obtain ⟨hx, hb, hml, hown, hts⟩ := id S
  have hl : lv_has ls 1 [(0, .int (nI d))] := hl
  refine lv_iload_n hx hb d_Dy_monthOf_0 rfl (lv_at hl 0 rfl) ?_
  refine lv_bipush (v := nI 32) hx hb d_Dy_monthOf_1 (by decide) ?_
  refine lv_idiv hx hb d_Dy_monthOf_3 (by decide) ?_
  refine mk_ti (y := nI (d / 32)) (pk_div (by omega) (by decide) (by decide)) ?_
  refine lv_bipush (v := nI 16) hx hb d_Dy_monthOf_4 (by decide) ?_
  refine lv_irem hx hb d_Dy_monthOf_6 (by decide) ?_
  refine mk_ti (y := nI ((d / 32) % 16)) (pk_rem (by omega) (by decide) (by decide)) ?_
  exact mk_ti (by rfl) (hret _ _ d_Dy_monthOf_7)

set_option maxHeartbeats 4000000 in
set_option maxRecDepth 100000 in
theorem c_Dy_dayOf (l : Launch) (dC : Nat → ClassId) (dI : Nat → Nat → Nat) (cI : ClassId) (d : Nat) (hd : d < 65536) : mR l y_Dy_dayOf w_Dy_dayOf ({ frames := 0, cells := 0, slots := 0, locals := 0 } : Room) [.int (nI d)] (dC, dI) vwCl [(cI, .int)] [] (some (.int (nI (d % 32)))) := by
  refine mk_Ri (cc := b_Dy_dayOf) (maxL := 1) (by decide) rfl (Nat.le_of_ble_eq_true rfl) rfl ?_
  intro p e s m below meth c Q A ls S hP hK hT hS hl hret
  obtain ⟨hx, hb, hml, hown, hts⟩ := id S
  have hl : lv_has ls 1 [(0, .int (nI d))] := hl
  refine lv_iload_n hx hb d_Dy_dayOf_0 rfl (lv_at hl 0 rfl) ?_
  refine lv_bipush (v := nI 32) hx hb d_Dy_dayOf_1 (by decide) ?_
  refine lv_irem hx hb d_Dy_dayOf_3 (by decide) ?_
  refine mk_ti (y := nI (d % 32)) (pk_rem (by omega) (by decide) (by decide)) ?_
  exact hret _ _ d_Dy_dayOf_4

set_option maxHeartbeats 4000000 in
set_option maxRecDepth 100000 in
theorem c_Dy_hourOf (l : Launch) (dC : Nat → ClassId) (dI : Nat → Nat → Nat) (cI : ClassId) (d : Nat) (hd : d < 65536) : mR l y_Dy_hourOf w_Dy_hourOf ({ frames := 0, cells := 0, slots := 0, locals := 0 } : Room) [.int (nI d)] (dC, dI) vwCl [(cI, .int)] [] (some (.int (nI (d / 2048)))) := by
  refine mk_Ri (cc := b_Dy_hourOf) (maxL := 1) (by decide) rfl (Nat.le_of_ble_eq_true rfl) rfl ?_
  intro p e s m below meth c Q A ls S hP hK hT hS hl hret
  obtain ⟨hx, hb, hml, hown, hts⟩ := id S
  have hl : lv_has ls 1 [(0, .int (nI d))] := hl
  refine lv_iload_n hx hb d_Dy_hourOf_0 rfl (lv_at hl 0 rfl) ?_
  refine lv_sipush (v := nI 2048) hx hb d_Dy_hourOf_1 (by decide) ?_
  refine lv_idiv hx hb d_Dy_hourOf_4 (by decide) ?_
  refine mk_ti (y := nI (d / 2048)) (pk_div (by omega) (by decide) (by decide)) ?_
  exact hret _ _ d_Dy_hourOf_5

set_option maxHeartbeats 4000000 in
set_option maxRecDepth 100000 in
theorem c_Dy_minuteOf (l : Launch) (dC : Nat → ClassId) (dI : Nat → Nat → Nat) (cI : ClassId) (d : Nat) (hd : d < 65536) : mR l y_Dy_minuteOf w_Dy_minuteOf ({ frames := 0, cells := 0, slots := 0, locals := 0 } : Room) [.int (nI d)] (dC, dI) vwCl [(cI, .int)] [] (some (.int (nI (d / 32 % 64)))) := by
  refine mk_Ri (cc := b_Dy_minuteOf) (maxL := 1) (by decide) rfl (Nat.le_of_ble_eq_true rfl) rfl ?_
  intro p e s m below meth c Q A ls S hP hK hT hS hl hret
  obtain ⟨hx, hb, hml, hown, hts⟩ := id S
  have hl : lv_has ls 1 [(0, .int (nI d))] := hl
  refine lv_iload_n hx hb d_Dy_minuteOf_0 rfl (lv_at hl 0 rfl) ?_
  refine lv_bipush (v := nI 32) hx hb d_Dy_minuteOf_1 (by decide) ?_
  refine lv_idiv hx hb d_Dy_minuteOf_3 (by decide) ?_
  refine mk_ti (y := nI (d / 32)) (pk_div (by omega) (by decide) (by decide)) ?_
  refine lv_bipush (v := nI 64) hx hb d_Dy_minuteOf_4 (by decide) ?_
  refine lv_irem hx hb d_Dy_minuteOf_6 (by decide) ?_
  refine mk_ti (y := nI ((d / 32) % 64)) (pk_rem (by omega) (by decide) (by decide)) ?_
  exact mk_ti (by rfl) (hret _ _ d_Dy_minuteOf_7)

set_option maxHeartbeats 4000000 in
set_option maxRecDepth 100000 in
theorem c_Dy_halfOf (l : Launch) (dC : Nat → ClassId) (dI : Nat → Nat → Nat) (cI : ClassId) (d : Nat) (hd : d < 65536) : mR l y_Dy_halfOf w_Dy_halfOf ({ frames := 0, cells := 0, slots := 0, locals := 0 } : Room) [.int (nI d)] (dC, dI) vwCl [(cI, .int)] [] (some (.int (nI (d % 32)))) := by
  refine mk_Ri (cc := b_Dy_halfOf) (maxL := 1) (by decide) rfl (Nat.le_of_ble_eq_true rfl) rfl ?_
  intro p e s m below meth c Q A ls S hP hK hT hS hl hret
  obtain ⟨hx, hb, hml, hown, hts⟩ := id S
  have hl : lv_has ls 1 [(0, .int (nI d))] := hl
  refine lv_iload_n hx hb d_Dy_halfOf_0 rfl (lv_at hl 0 rfl) ?_
  refine lv_bipush (v := nI 32) hx hb d_Dy_halfOf_1 (by decide) ?_
  refine lv_irem hx hb d_Dy_halfOf_3 (by decide) ?_
  refine mk_ti (y := nI (d % 32)) (pk_rem (by omega) (by decide) (by decide)) ?_
  exact hret _ _ d_Dy_halfOf_4

set_option maxHeartbeats 4000000 in
set_option maxRecDepth 100000 in
theorem c_Dy_leap (l : Launch) (dC : Nat → ClassId) (dI : Nat → Nat → Nat) (cI : ClassId) (y9 : Nat) (hy : y9 < 65536) : mR l y_Dy_isLeap w_Dy_isLeap ({ frames := 0, cells := 0, slots := 0, locals := 0 } : Room) [.int (nI y9)] (dC, dI) vwCl [(cI, .int)] [] (some (.int (bI (leN y9)))) := by
  refine mk_Ri (cc := b_Dy_isLeap) (maxL := 1) (by decide) rfl (Nat.le_of_ble_eq_true rfl) (mk_nz _) ?_
  intro p e s m below meth c Q A ls S hP hK hT hS hl hret
  obtain ⟨hx, hb, hml, hown, hts⟩ := id S
  have hl : lv_has ls 1 [(0, .int (nI y9))] := hl
  refine lv_iload_n hx hb d_Dy_isLeap_0 rfl (lv_at hl 0 rfl) ?_
  refine lv_iconst (v := nI 4) hx hb d_Dy_isLeap_1 (by decide) ?_
  refine lv_irem hx hb d_Dy_isLeap_2 (by decide) ?_
  refine mk_ti (y := nI (y9 % 4)) (pk_rem (by omega) (by decide) (by decide)) ?_
  refine lv_if_ne (tgt := 25) hx hb d_Dy_isLeap_3 (by decide) (fun c_1 => ?_) (fun c_1 => ?_)
  · skip
    rw [mk_ceq (by omega)] at c_1
    refine lv_iconst (v := nI 0) hx hb d_Dy_isLeap_25 (by decide) ?_
    exact mk_ti (by exact mk_bf (by simp only [leN, decide_eq_false_iff_not]; omega)) (hret _ _ d_Dy_isLeap_26)
  · skip
    rw [mk_ceq (by omega)] at c_1
    refine lv_iload_n hx hb d_Dy_isLeap_6 rfl (lv_at hl 0 rfl) ?_
    refine lv_bipush (v := nI 100) hx hb d_Dy_isLeap_7 (by decide) ?_
    refine lv_irem hx hb d_Dy_isLeap_9 (by decide) ?_
    refine mk_ti (y := nI (y9 % 100)) (pk_rem (by omega) (by decide) (by decide)) ?_
    refine lv_if_ne (tgt := 21) hx hb d_Dy_isLeap_10 (by decide) (fun c_2 => ?_) (fun c_2 => ?_)
    · skip
      rw [mk_ceq (by omega)] at c_2
      refine lv_iconst (v := nI 1) hx hb d_Dy_isLeap_21 (by decide) ?_
      refine lv_goto (tgt := 26) hx hb d_Dy_isLeap_22 (by decide) ?_
      exact mk_ti (by exact mk_bt (by simp only [leN, decide_eq_true_eq]; omega)) (hret _ _ d_Dy_isLeap_26)
    · skip
      rw [mk_ceq (by omega)] at c_2
      refine lv_iload_n hx hb d_Dy_isLeap_13 rfl (lv_at hl 0 rfl) ?_
      refine lv_sipush (v := nI 400) hx hb d_Dy_isLeap_14 (by decide) ?_
      refine lv_irem hx hb d_Dy_isLeap_17 (by decide) ?_
      refine mk_ti (y := nI (y9 % 400)) (pk_rem (by omega) (by decide) (by decide)) ?_
      refine lv_if_ne (tgt := 25) hx hb d_Dy_isLeap_18 (by decide) (fun c_3 => ?_) (fun c_3 => ?_)
      · skip
        rw [mk_ceq (by omega)] at c_3
        refine lv_iconst (v := nI 0) hx hb d_Dy_isLeap_25 (by decide) ?_
        exact mk_ti (by exact mk_bf (by simp only [leN, decide_eq_false_iff_not]; omega)) (hret _ _ d_Dy_isLeap_26)
      · skip
        rw [mk_ceq (by omega)] at c_3
        refine lv_iconst (v := nI 1) hx hb d_Dy_isLeap_21 (by decide) ?_
        refine lv_goto (tgt := 26) hx hb d_Dy_isLeap_22 (by decide) ?_
        exact mk_ti (by exact mk_bt (by simp only [leN, decide_eq_true_eq]; omega)) (hret _ _ d_Dy_isLeap_26)

set_option maxHeartbeats 4000000 in
set_option maxRecDepth 100000 in
theorem c_Dy_ml (l : Launch) (dC : Nat → ClassId) (dI : Nat → Nat → Nat) (cI : ClassId) (y9 m9 : Nat) (hy : y9 < 65536) (hm : m9 < 65536) : mR l y_Dy_monthLength w_Dy_monthLength ({ frames := 1, cells := 0, slots := 0, locals := 20 } : Room) [.int (nI y9), .int (nI m9)] (dC, dI) vwCl [(cI, .int)] [] (some (.int (nI (mlenN y9 m9)))) := by
  refine mk_Ri (cc := b_Dy_monthLength) (maxL := 2) (by decide) rfl (Nat.le_of_ble_eq_true rfl) rfl ?_
  intro p e s m below meth c Q A ls S hP hK hT hS hl hret
  obtain ⟨hx, hb, hml, hown, hts⟩ := id S
  have hl : lv_has ls 2 [(0, .int (nI y9)), (1, .int (nI m9))] := hl
  refine lv_iload_n hx hb d_Dy_monthLength_0 rfl (lv_at hl 1 rfl) ?_
  refine lv_iconst (v := nI 1) hx hb d_Dy_monthLength_1 (by decide) ?_
  refine lv_icmp_lt (tgt := 11) hx hb d_Dy_monthLength_2 (by decide) (fun c_1 => ?_) (fun c_1 => ?_)
  · skip
    rw [nI_ltI (by omega) (by omega)] at c_1
    refine lv_iconst (v := nI 0) hx hb d_Dy_monthLength_11 (by decide) ?_
    exact mk_ti (by rw [mlenN, if_pos (by omega)]) (hret _ _ d_Dy_monthLength_12)
  · skip
    rw [nI_ltI (by omega) (by omega)] at c_1
    refine lv_iload_n hx hb d_Dy_monthLength_5 rfl (lv_at hl 1 rfl) ?_
    refine lv_bipush (v := nI 12) hx hb d_Dy_monthLength_6 (by decide) ?_
    refine lv_icmp_le (tgt := 13) hx hb d_Dy_monthLength_8 (by decide) (fun c_2 => ?_) (fun c_2 => ?_)
    · skip
      rw [nI_leI (by omega) (by omega)] at c_2
      refine lv_iload_n hx hb d_Dy_monthLength_13 rfl (lv_at hl 1 rfl) ?_
      refine lv_iconst (v := nI 2) hx hb d_Dy_monthLength_14 (by decide) ?_
      refine lv_icmp_ne (tgt := 30) hx hb d_Dy_monthLength_15 (by decide) (fun c_3 => ?_) (fun c_3 => ?_)
      · skip
        rw [nI_eq (by omega) (by omega)] at c_3
        obtain ⟨tP, tM, hZP, hTP, hZM, hTM⟩ := hT.tabs
        refine va_gets (v := .ref tM) hx hb hZM hS hown (hts _ (List.mem_cons_of_mem _ k_250)) (fun _ h9 => h9) d_Dy_monthLength_30 ?_
        refine lv_iload_n hx hb d_Dy_monthLength_33 rfl (lv_at hl 1 rfl) ?_
        refine lv_iconst (v := nI 1) hx hb d_Dy_monthLength_34 (by decide) ?_
        refine lv_isub hx hb d_Dy_monthLength_35 ?_
        refine mk_ti (y := nI (m9 - 1)) (pk_sub (by omega)) ?_
        refine va_ti hx hb hTM hS (vp_in_nI (N := 12) (show m9 - 1 < 12 by omega) (by decide)) (v := .int (nI (mlN (m9 - 1)))) (by simp only [nI_clamp (show m9 - 1 < 2 ^ 31 by omega)]) d_Dy_monthLength_36 ?_
        exact mk_ti (by rw [mlenN, if_neg (by omega), if_neg (by first | omega | (intro h9; rw [c_3] at h9; exact absurd h9.2 (by decide)))]) (hret _ _ d_Dy_monthLength_37)
      · skip
        rw [nI_eq (by omega) (by omega)] at c_3
        refine lv_iload_n hx hb d_Dy_monthLength_18 rfl (lv_at hl 0 rfl) ?_
        refine mk_r1 (W.runS (As := [.int (nI y9)]) (rest := []) S (c_Dy_leap l dC dI cI y9 (by first | assumption | omega)) (gS 1 hts k_247 k_248 k_38 k_249 (by decide +kernel) ⟨Nat.le_of_ble_eq_true rfl, Nat.le_of_ble_eq_true rfl⟩) (mk_sR hP hK hT hS [] rfl) rfl rfl hl.1 rfl (lv_room (Nat.le_of_ble_eq_true rfl)) d_Dy_monthLength_19 ⟨Nat.zero_le _, Nat.zero_le _⟩) ?_
        refine lv_if_eq (tgt := 30) hx hb d_Dy_monthLength_22 (by decide) (fun c_4 => ?_) (fun c_4 => ?_)
        · skip
          have c_4 := bI_0 c_4
          obtain ⟨tP, tM, hZP, hTP, hZM, hTM⟩ := hT.tabs
          refine va_gets (v := .ref tM) hx hb hZM hS hown (hts _ (List.mem_cons_of_mem _ k_250)) (fun _ h9 => h9) d_Dy_monthLength_30 ?_
          refine lv_iload_n hx hb d_Dy_monthLength_33 rfl (lv_at hl 1 rfl) ?_
          refine lv_iconst (v := nI 1) hx hb d_Dy_monthLength_34 (by decide) ?_
          refine lv_isub hx hb d_Dy_monthLength_35 ?_
          refine mk_ti (y := nI (m9 - 1)) (pk_sub (by omega)) ?_
          refine va_ti hx hb hTM hS (vp_in_nI (N := 12) (show m9 - 1 < 12 by omega) (by decide)) (v := .int (nI (mlN (m9 - 1)))) (by simp only [nI_clamp (show m9 - 1 < 2 ^ 31 by omega)]) d_Dy_monthLength_36 ?_
          exact mk_ti (by rw [mlenN, if_neg (by omega), if_neg (by first | omega | (intro h9; rw [c_4] at h9; exact absurd h9.2 (by decide)))]) (hret _ _ d_Dy_monthLength_37)
        · skip
          have c_4 := bI_1 c_4
          refine lv_bipush (v := nI 29) hx hb d_Dy_monthLength_25 (by decide) ?_
          refine lv_goto (tgt := 37) hx hb d_Dy_monthLength_27 (by decide) ?_
          exact mk_ti (by rw [mlenN, if_neg (by omega), if_pos ⟨by omega, by assumption⟩]) (hret _ _ d_Dy_monthLength_37)
    · skip
      rw [nI_leI (by omega) (by omega)] at c_2
      refine lv_iconst (v := nI 0) hx hb d_Dy_monthLength_11 (by decide) ?_
      exact mk_ti (by rw [mlenN, if_pos (by omega)]) (hret _ _ d_Dy_monthLength_12)

set_option maxHeartbeats 4000000 in
set_option maxRecDepth 100000 in
theorem c_Dy_isDayX (l : Launch) (dC : Nat → ClassId) (dI : Nat → Nat → Nat) (cI : ClassId) (x : Int32) (hx9 : x < 0 ∨ ¬ x ≤ nI 65535) : mR l y_Dy_isDay w_Dy_isDay ({ frames := 0, cells := 0, slots := 0, locals := 0 } : Room) [.int x] (dC, dI) vwCl [(cI, .int)] [] (some (.int (nI 0))) := by
  refine mk_Ri (cc := b_Dy_isDay) (maxL := 2) (by decide) rfl (Nat.le_of_ble_eq_true rfl) (rfl) ?_
  intro p e s m below meth c Q A ls S hP hK hT hS hl hret
  obtain ⟨hx, hb, hml, hown, hts⟩ := id S
  have hl : lv_has ls 2 [(0, .int x)] := hl
  refine lv_iload_n hx hb d_Dy_isDay_0 rfl (lv_at hl 0 rfl) ?_
  refine lv_if_lt (tgt := 10) hx hb d_Dy_isDay_1 (by decide) (fun c_1 => ?_) (fun c_1 => ?_)
  · skip
    refine lv_iconst (v := nI 0) hx hb d_Dy_isDay_10 (by decide) ?_
    exact hret _ _ d_Dy_isDay_11
  · skip
    refine lv_iload_n hx hb d_Dy_isDay_4 rfl (lv_at hl 0 rfl) ?_
    refine lv_ldc (v := nI 65535) hx hb hown (hts _ (List.mem_cons_of_mem _ k_234)) d_Dy_isDay_5 ?_
    refine lv_icmp_le (tgt := 12) hx hb d_Dy_isDay_7 (by decide) (fun c_2 => ?_) (fun c_2 => ?_)
    · skip
      rcases hx9 with h9 | h9 <;> contradiction
    · skip
      refine lv_iconst (v := nI 0) hx hb d_Dy_isDay_10 (by decide) ?_
      exact hret _ _ d_Dy_isDay_11

set_option maxHeartbeats 4000000 in
set_option maxRecDepth 100000 in
theorem c_Dy_isDay (l : Launch) (dC : Nat → ClassId) (dI : Nat → Nat → Nat) (cI : ClassId) (d : Nat) (hd : d < 65536) : mR l y_Dy_isDay w_Dy_isDay ({ frames := 2, cells := 0, slots := 0, locals := 41 } : Room) [.int (nI d)] (dC, dI) vwCl [(cI, .int)] [] (some (.int (bI (idN d)))) := by
  refine mk_Ri (cc := b_Dy_isDay) (maxL := 2) (by decide) rfl (Nat.le_of_ble_eq_true rfl) (mk_nz _) ?_
  intro p e s m below meth c Q A ls S hP hK hT hS hl hret
  obtain ⟨hx, hb, hml, hown, hts⟩ := id S
  have hl : lv_has ls 2 [(0, .int (nI d))] := hl
  refine lv_iload_n hx hb d_Dy_isDay_0 rfl (lv_at hl 0 rfl) ?_
  refine lv_if_lt (tgt := 10) hx hb d_Dy_isDay_1 (by decide) (fun c_1 => ?_) (fun c_1 => ?_)
  · skip
    rw [mk_clt (by omega)] at c_1
    first | omega | contradiction
  · skip
    rw [mk_clt (by omega)] at c_1
    refine lv_iload_n hx hb d_Dy_isDay_4 rfl (lv_at hl 0 rfl) ?_
    refine lv_ldc (v := nI 65535) hx hb hown (hts _ (List.mem_cons_of_mem _ k_234)) d_Dy_isDay_5 ?_
    refine lv_icmp_le (tgt := 12) hx hb d_Dy_isDay_7 (by decide) (fun c_2 => ?_) (fun c_2 => ?_)
    · skip
      rw [nI_leI (by omega) (by omega)] at c_2
      refine lv_iload_n hx hb d_Dy_isDay_12 rfl (lv_at hl 0 rfl) ?_
      refine mk_r1 (W.runS (As := [.int (nI d)]) (rest := []) S (c_Dy_dayOf l dC dI cI d (by first | assumption | omega)) (gS 1 hts k_235 k_236 k_38 k_237 (by decide +kernel) ⟨Nat.le_of_ble_eq_true rfl, Nat.le_of_ble_eq_true rfl⟩) (mk_sR hP hK hT hS [] rfl) rfl rfl hl.1 rfl (lv_room (Nat.le_of_ble_eq_true rfl)) d_Dy_isDay_13 ⟨Nat.zero_le _, Nat.zero_le _⟩) ?_
      refine lv_istore_n (lv' := [(1, .int (nI (d % 32))), (0, .int (nI d))]) hx hb d_Dy_isDay_16 rfl hl (by decide) rfl (fun ls hl => ?_)
      refine lv_iload_n hx hb d_Dy_isDay_17 rfl (lv_at hl 0 rfl) ?_
      refine lv_iconst (v := nI 1) hx hb d_Dy_isDay_18 (by decide) ?_
      refine lv_icmp_lt (tgt := 41) hx hb d_Dy_isDay_19 (by decide) (fun c_3 => ?_) (fun c_3 => ?_)
      · skip
        rw [nI_ltI (by omega) (by omega)] at c_3
        refine lv_iconst (v := nI 0) hx hb d_Dy_isDay_41 (by decide) ?_
        exact mk_ti (by exact mk_bf (by simp only [idN, decide_eq_false_iff_not]; omega)) (hret _ _ d_Dy_isDay_42)
      · skip
        rw [nI_ltI (by omega) (by omega)] at c_3
        refine lv_iload_n hx hb d_Dy_isDay_22 rfl (lv_at hl 0 rfl) ?_
        refine lv_iload_n hx hb d_Dy_isDay_23 rfl (lv_at hl 1 rfl) ?_
        refine mk_r1 (W.runS (As := [.int (nI d)]) (rest := [.int (nI (d % 32))]) S (c_Dy_yearOf l dC dI cI d (by first | assumption | omega)) (gS 1 hts k_238 k_239 k_38 k_240 (by decide +kernel) ⟨Nat.le_of_ble_eq_true rfl, Nat.le_of_ble_eq_true rfl⟩) (mk_sR hP hK hT hS [] rfl) rfl rfl hl.1 rfl (lv_room (Nat.le_of_ble_eq_true rfl)) d_Dy_isDay_24 ⟨Nat.zero_le _, Nat.zero_le _⟩) ?_
        refine lv_iload_n hx hb d_Dy_isDay_27 rfl (lv_at hl 1 rfl) ?_
        refine mk_r1 (W.runS (As := [.int (nI d)]) (rest := [.int (nI (1980 + d / 512)), .int (nI (d % 32))]) S (c_Dy_monthOf l dC dI cI d (by first | assumption | omega)) (gS 1 hts k_241 k_242 k_38 k_243 (by decide +kernel) ⟨Nat.le_of_ble_eq_true rfl, Nat.le_of_ble_eq_true rfl⟩) (mk_sR hP hK hT hS [] rfl) rfl rfl hl.1 rfl (lv_room (Nat.le_of_ble_eq_true rfl)) d_Dy_isDay_28 ⟨Nat.zero_le _, Nat.zero_le _⟩) ?_
        refine mk_r1 (W.runS (As := [.int (nI (1980 + d / 512)), .int (nI (d / 32 % 16))]) (rest := [.int (nI (d % 32))]) S (c_Dy_ml l dC dI cI (1980 + d / 512) (d / 32 % 16) (by first | assumption | omega) (by first | assumption | omega)) (gS 2 hts k_244 k_245 k_38 k_246 (by decide +kernel) ⟨Nat.le_of_ble_eq_true rfl, Nat.le_of_ble_eq_true rfl⟩) (mk_sR hP hK hT hS [] rfl) rfl rfl hl.1 rfl (lv_room (Nat.le_of_ble_eq_true rfl)) d_Dy_isDay_31 ⟨Nat.zero_le _, Nat.zero_le _⟩) ?_
        have b_4 := mlenN_le (1980 + d / 512) (d / 32 % 16)
        refine lv_icmp_gt (tgt := 41) hx hb d_Dy_isDay_34 (by decide) (fun c_5 => ?_) (fun c_5 => ?_)
        · skip
          rw [nI_ltI (by omega) (by omega)] at c_5
          refine lv_iconst (v := nI 0) hx hb d_Dy_isDay_41 (by decide) ?_
          exact mk_ti (by exact mk_bf (by simp only [idN, decide_eq_false_iff_not]; omega)) (hret _ _ d_Dy_isDay_42)
        · skip
          rw [nI_ltI (by omega) (by omega)] at c_5
          refine lv_iconst (v := nI 1) hx hb d_Dy_isDay_37 (by decide) ?_
          refine lv_goto (tgt := 42) hx hb d_Dy_isDay_38 (by decide) ?_
          exact mk_ti (by exact mk_bt (by simp only [idN, decide_eq_true_eq]; omega)) (hret _ _ d_Dy_isDay_42)
    · skip
      rw [nI_leI (by omega) (by omega)] at c_2
      first | omega | contradiction

set_option maxHeartbeats 4000000 in
set_option maxRecDepth 100000 in
theorem c_Dy_isTimeX (l : Launch) (dC : Nat → ClassId) (dI : Nat → Nat → Nat) (cI : ClassId) (x : Int32) (hx9 : x < 0 ∨ ¬ x ≤ nI 65535) : mR l y_Dy_isTime w_Dy_isTime ({ frames := 0, cells := 0, slots := 0, locals := 0 } : Room) [.int x] (dC, dI) vwCl [(cI, .int)] [] (some (.int (nI 0))) := by
  refine mk_Ri (cc := b_Dy_isTime) (maxL := 1) (by decide) rfl (Nat.le_of_ble_eq_true rfl) (rfl) ?_
  intro p e s m below meth c Q A ls S hP hK hT hS hl hret
  obtain ⟨hx, hb, hml, hown, hts⟩ := id S
  have hl : lv_has ls 1 [(0, .int x)] := hl
  refine lv_iload_n hx hb d_Dy_isTime_0 rfl (lv_at hl 0 rfl) ?_
  refine lv_if_lt (tgt := 10) hx hb d_Dy_isTime_1 (by decide) (fun c_1 => ?_) (fun c_1 => ?_)
  · skip
    refine lv_iconst (v := nI 0) hx hb d_Dy_isTime_10 (by decide) ?_
    exact hret _ _ d_Dy_isTime_11
  · skip
    refine lv_iload_n hx hb d_Dy_isTime_4 rfl (lv_at hl 0 rfl) ?_
    refine lv_ldc (v := nI 65535) hx hb hown (hts _ (List.mem_cons_of_mem _ k_234)) d_Dy_isTime_5 ?_
    refine lv_icmp_le (tgt := 12) hx hb d_Dy_isTime_7 (by decide) (fun c_2 => ?_) (fun c_2 => ?_)
    · skip
      rcases hx9 with h9 | h9 <;> contradiction
    · skip
      refine lv_iconst (v := nI 0) hx hb d_Dy_isTime_10 (by decide) ?_
      exact hret _ _ d_Dy_isTime_11

set_option maxHeartbeats 4000000 in
set_option maxRecDepth 100000 in
theorem c_Dy_isTime (l : Launch) (dC : Nat → ClassId) (dI : Nat → Nat → Nat) (cI : ClassId) (d : Nat) (hd : d < 65536) : mR l y_Dy_isTime w_Dy_isTime ({ frames := 1, cells := 0, slots := 0, locals := 20 } : Room) [.int (nI d)] (dC, dI) vwCl [(cI, .int)] [] (some (.int (bI (itN d)))) := by
  refine mk_Ri (cc := b_Dy_isTime) (maxL := 1) (by decide) rfl (Nat.le_of_ble_eq_true rfl) (mk_nz _) ?_
  intro p e s m below meth c Q A ls S hP hK hT hS hl hret
  obtain ⟨hx, hb, hml, hown, hts⟩ := id S
  have hl : lv_has ls 1 [(0, .int (nI d))] := hl
  refine lv_iload_n hx hb d_Dy_isTime_0 rfl (lv_at hl 0 rfl) ?_
  refine lv_if_lt (tgt := 10) hx hb d_Dy_isTime_1 (by decide) (fun c_1 => ?_) (fun c_1 => ?_)
  · skip
    rw [mk_clt (by omega)] at c_1
    first | omega | contradiction
  · skip
    rw [mk_clt (by omega)] at c_1
    refine lv_iload_n hx hb d_Dy_isTime_4 rfl (lv_at hl 0 rfl) ?_
    refine lv_ldc (v := nI 65535) hx hb hown (hts _ (List.mem_cons_of_mem _ k_234)) d_Dy_isTime_5 ?_
    refine lv_icmp_le (tgt := 12) hx hb d_Dy_isTime_7 (by decide) (fun c_2 => ?_) (fun c_2 => ?_)
    · skip
      rw [nI_leI (by omega) (by omega)] at c_2
      refine lv_iload_n hx hb d_Dy_isTime_12 rfl (lv_at hl 0 rfl) ?_
      refine mk_r1 (W.runS (As := [.int (nI d)]) (rest := []) S (c_Dy_hourOf l dC dI cI d (by first | assumption | omega)) (gS 1 hts k_255 k_256 k_38 k_257 (by decide +kernel) ⟨Nat.le_of_ble_eq_true rfl, Nat.le_of_ble_eq_true rfl⟩) (mk_sR hP hK hT hS [] rfl) rfl rfl hl.1 rfl (lv_room (Nat.le_of_ble_eq_true rfl)) d_Dy_isTime_13 ⟨Nat.zero_le _, Nat.zero_le _⟩) ?_
      refine lv_bipush (v := nI 24) hx hb d_Dy_isTime_16 (by decide) ?_
      refine lv_icmp_ge (tgt := 43) hx hb d_Dy_isTime_18 (by decide) (fun c_3 => ?_) (fun c_3 => ?_)
      · skip
        rw [nI_leI (by omega) (by omega)] at c_3
        refine lv_iconst (v := nI 0) hx hb d_Dy_isTime_43 (by decide) ?_
        exact mk_ti (by exact mk_bf (by simp only [itN, decide_eq_false_iff_not]; omega)) (hret _ _ d_Dy_isTime_44)
      · skip
        rw [nI_leI (by omega) (by omega)] at c_3
        refine lv_iload_n hx hb d_Dy_isTime_21 rfl (lv_at hl 0 rfl) ?_
        refine mk_r1 (W.runS (As := [.int (nI d)]) (rest := []) S (c_Dy_minuteOf l dC dI cI d (by first | assumption | omega)) (gS 1 hts k_258 k_259 k_38 k_260 (by decide +kernel) ⟨Nat.le_of_ble_eq_true rfl, Nat.le_of_ble_eq_true rfl⟩) (mk_sR hP hK hT hS [] rfl) rfl rfl hl.1 rfl (lv_room (Nat.le_of_ble_eq_true rfl)) d_Dy_isTime_22 ⟨Nat.zero_le _, Nat.zero_le _⟩) ?_
        refine lv_bipush (v := nI 60) hx hb d_Dy_isTime_25 (by decide) ?_
        refine lv_icmp_ge (tgt := 43) hx hb d_Dy_isTime_27 (by decide) (fun c_4 => ?_) (fun c_4 => ?_)
        · skip
          rw [nI_leI (by omega) (by omega)] at c_4
          refine lv_iconst (v := nI 0) hx hb d_Dy_isTime_43 (by decide) ?_
          exact mk_ti (by exact mk_bf (by simp only [itN, decide_eq_false_iff_not]; omega)) (hret _ _ d_Dy_isTime_44)
        · skip
          rw [nI_leI (by omega) (by omega)] at c_4
          refine lv_iload_n hx hb d_Dy_isTime_30 rfl (lv_at hl 0 rfl) ?_
          refine mk_r1 (W.runS (As := [.int (nI d)]) (rest := []) S (c_Dy_halfOf l dC dI cI d (by first | assumption | omega)) (gS 1 hts k_261 k_262 k_38 k_263 (by decide +kernel) ⟨Nat.le_of_ble_eq_true rfl, Nat.le_of_ble_eq_true rfl⟩) (mk_sR hP hK hT hS [] rfl) rfl rfl hl.1 rfl (lv_room (Nat.le_of_ble_eq_true rfl)) d_Dy_isTime_31 ⟨Nat.zero_le _, Nat.zero_le _⟩) ?_
          refine lv_bipush (v := nI 30) hx hb d_Dy_isTime_34 (by decide) ?_
          refine lv_icmp_ge (tgt := 43) hx hb d_Dy_isTime_36 (by decide) (fun c_5 => ?_) (fun c_5 => ?_)
          · skip
            rw [nI_leI (by omega) (by omega)] at c_5
            refine lv_iconst (v := nI 0) hx hb d_Dy_isTime_43 (by decide) ?_
            exact mk_ti (by exact mk_bf (by simp only [itN, decide_eq_false_iff_not]; omega)) (hret _ _ d_Dy_isTime_44)
          · skip
            rw [nI_leI (by omega) (by omega)] at c_5
            refine lv_iconst (v := nI 1) hx hb d_Dy_isTime_39 (by decide) ?_
            refine lv_goto (tgt := 44) hx hb d_Dy_isTime_40 (by decide) ?_
            exact mk_ti (by exact mk_bt (by simp only [itN, decide_eq_true_eq]; omega)) (hret _ _ d_Dy_isTime_44)
    · skip
      rw [nI_leI (by omega) (by omega)] at c_2
      first | omega | contradiction

set_option maxHeartbeats 4000000 in
set_option maxRecDepth 100000 in
theorem c_Dy_sbd (l : Launch) (dC : Nat → ClassId) (dI : Nat → Nat → Nat) (cI : ClassId) (d : Nat) (hd : d < 65536) (h1 : 1 ≤ d % 32) (h2 : 1 ≤ d / 32 % 16) : mR l y_Dy_secondsBeforeDay w_Dy_secondsBeforeDay ({ frames := 2, cells := 0, slots := 0, locals := 41 } : Room) [.int (nI d)] (dC, dI) vwCl [(cI, .int)] [] (some (.long (lN (sdN d)))) := by
  refine mk_Rl (cc := b_Dy_secondsBeforeDay) (maxL := 6) (by decide) rfl (Nat.le_of_ble_eq_true rfl) ?_
  intro p e s m below meth c Q A ls S hP hK hT hS hl hret
  obtain ⟨hx, hb, hml, hown, hts⟩ := id S
  have hl : lv_has ls 6 [(0, .int (nI d))] := hl
  refine lv_iload_n hx hb d_Dy_secondsBeforeDay_0 rfl (lv_at hl 0 rfl) ?_
  refine mk_r1 (W.runS (As := [.int (nI d)]) (rest := []) S (c_Dy_yearOf l dC dI cI d (by first | assumption | omega)) (gS 1 hts k_238 k_239 k_38 k_240 (by decide +kernel) ⟨Nat.le_of_ble_eq_true rfl, Nat.le_of_ble_eq_true rfl⟩) (mk_sR hP hK hT hS [] rfl) rfl rfl hl.1 rfl (lv_room (Nat.le_of_ble_eq_true rfl)) d_Dy_secondsBeforeDay_1 ⟨Nat.zero_le _, Nat.zero_le _⟩) ?_
  refine lv_istore_n (lv' := [(1, .int (nI (1980 + d / 512))), (0, .int (nI d))]) hx hb d_Dy_secondsBeforeDay_4 rfl hl (by decide) rfl (fun ls hl => ?_)
  refine lv_iload_n hx hb d_Dy_secondsBeforeDay_5 rfl (lv_at hl 1 rfl) ?_
  refine mk_r1 (W.runS (As := [.int (nI d)]) (rest := []) S (c_Dy_dayOf l dC dI cI d (by first | assumption | omega)) (gS 1 hts k_235 k_236 k_38 k_237 (by decide +kernel) ⟨Nat.le_of_ble_eq_true rfl, Nat.le_of_ble_eq_true rfl⟩) (mk_sR hP hK hT hS [] rfl) rfl rfl hl.1 rfl (lv_room (Nat.le_of_ble_eq_true rfl)) d_Dy_secondsBeforeDay_6 ⟨Nat.zero_le _, Nat.zero_le _⟩) ?_
  refine lv_iconst (v := nI 1) hx hb d_Dy_secondsBeforeDay_9 (by decide) ?_
  refine lv_isub hx hb d_Dy_secondsBeforeDay_10 ?_
  refine mk_ti (y := nI (d % 32 - 1)) (pk_sub (by omega)) ?_
  refine lv_i2l (v := lN (d % 32 - 1)) hx hb d_Dy_secondsBeforeDay_11 (nI_l (by omega)) ?_
  refine lv_lstore_n (lv' := [(2, .long (lN (d % 32 - 1))), (1, .int (nI (1980 + d / 512))), (0, .int (nI d))]) hx hb d_Dy_secondsBeforeDay_12 rfl hl (by decide) rfl (fun ls hl => ?_)
  refine lv_sipush (v := nI 1970) hx hb d_Dy_secondsBeforeDay_13 (by decide) ?_
  refine lv_istore (lv' := [(4, .int (nI 1970)), (2, .long (lN (d % 32 - 1))), (1, .int (nI (1980 + d / 512))), (0, .int (nI d))]) hx hb d_Dy_secondsBeforeDay_16 hl (by decide) rfl (fun ls hl => ?_)
  have lp18 : ∀ (k : Nat) (i : Nat) (ls : Array Slot), (1970 + i + k = (1980 + d / 512)) → lv_has ls 6 [(0, .int (nI d)), (1, .int (nI (1980 + d / 512))), (2, .long (lN (d % 32 - 1 + ydN i))), (4, .int (nI (1970 + i)))] → W p l e ({ frames := 2, cells := 0, slots := 0, locals := 41 } : Room) s m ([.int (nI d)] : List Value).toArray below meth c s.heap [] 0 0 Q (F0 m 18 ls []) := by
    intro k
    induction k with
    | zero =>
      intro i ls hi hl
      obtain rfl : i = (1980 + d / 512) - 1970 := by omega
      have hl : lv_has ls 6 [(0, .int (nI d)), (1, .int (nI (1980 + d / 512))), (2, .long (lN (d % 32 - 1 + ydN ((1980 + d / 512) - 1970)))), (4, .int (nI (1970 + ((1980 + d / 512) - 1970))))] := hl
      refine lv_iload hx hb d_Dy_secondsBeforeDay_18 (lv_at hl 3 rfl) ?_
      refine lv_iload_n hx hb d_Dy_secondsBeforeDay_20 rfl (lv_at hl 1 rfl) ?_
      refine lv_icmp_ge (tgt := 50) hx hb d_Dy_secondsBeforeDay_21 (by decide) (fun c_1 => ?_) (fun c_1 => ?_)
      · skip
        rw [nI_leI (by omega) (by omega)] at c_1
        refine lv_iload_n hx hb d_Dy_secondsBeforeDay_50 rfl (lv_at hl 0 rfl) ?_
        refine mk_r1 (W.runS (As := [.int (nI d)]) (rest := []) S (c_Dy_monthOf l dC dI cI d (by first | assumption | omega)) (gS 1 hts k_241 k_242 k_38 k_243 (by decide +kernel) ⟨Nat.le_of_ble_eq_true rfl, Nat.le_of_ble_eq_true rfl⟩) (mk_sR hP hK hT hS [] rfl) rfl rfl hl.1 rfl (lv_room (Nat.le_of_ble_eq_true rfl)) d_Dy_secondsBeforeDay_51 ⟨Nat.zero_le _, Nat.zero_le _⟩) ?_
        refine lv_istore (lv' := [(4, .int (nI (d / 32 % 16))), (0, .int (nI d)), (1, .int (nI (1980 + d / 512))), (2, .long (lN (d % 32 - 1 + ydN ((1980 + d / 512) - 1970))))]) hx hb d_Dy_secondsBeforeDay_54 hl (by decide) rfl (fun ls hl => ?_)
        refine lv_iconst (v := nI 1) hx hb d_Dy_secondsBeforeDay_56 (by decide) ?_
        refine lv_istore (lv' := [(5, .int (nI 1)), (4, .int (nI (d / 32 % 16))), (0, .int (nI d)), (1, .int (nI (1980 + d / 512))), (2, .long (lN (d % 32 - 1 + ydN ((1980 + d / 512) - 1970))))]) hx hb d_Dy_secondsBeforeDay_57 hl (by decide) rfl (fun ls hl => ?_)
        have lp59 : ∀ (k2 : Nat) (j : Nat) (ls : Array Slot), (j + 1 + k2 = d / 32 % 16) → lv_has ls 6 [(0, .int (nI d)), (1, .int (nI (1980 + d / 512))), (2, .long (lN (d % 32 - 1 + ydN ((1980 + d / 512) - 1970) + mdN (1980 + d / 512) j))), (4, .int (nI (d / 32 % 16))), (5, .int (nI (j + 1)))] → W p l e ({ frames := 2, cells := 0, slots := 0, locals := 41 } : Room) s m ([.int (nI d)] : List Value).toArray below meth c s.heap [] 0 0 Q (F0 m 59 ls []) := by
          intro k2
          induction k2 with
          | zero =>
            intro j ls hj hl
            refine lv_iload hx hb d_Dy_secondsBeforeDay_59 (lv_at hl 4 rfl) ?_
            refine lv_iload hx hb d_Dy_secondsBeforeDay_61 (lv_at hl 3 rfl) ?_
            refine lv_icmp_ge (tgt := 82) hx hb d_Dy_secondsBeforeDay_63 (by decide) (fun c_2 => ?_) (fun c_2 => ?_)
            · skip
              rw [nI_leI (by omega) (by omega)] at c_2
              refine lv_lload_n hx hb d_Dy_secondsBeforeDay_82 rfl (lv_at hl 2 rfl) ?_
              refine lv_ldc2 (v := lN 86400) hx hb hown (hts _ (List.mem_cons_of_mem _ k_270)) d_Dy_secondsBeforeDay_83 ?_
              refine lv_lmul hx hb d_Dy_secondsBeforeDay_86 ?_
              refine mk_tl (y := lN ((d % 32 - 1 + ydN ((1980 + d / 512) - 1970) + mdN (1980 + d / 512) j) * 86400)) (lN_mul (d % 32 - 1 + ydN ((1980 + d / 512) - 1970) + mdN (1980 + d / 512) j) 86400) ?_
              exact mk_tl (by rw [sdN, show j = d / 32 % 16 - 1 by omega]) (hret _ _ d_Dy_secondsBeforeDay_87)
            · skip
              rw [nI_leI (by omega) (by omega)] at c_2
              first | omega | contradiction
          | succ k2 ih59 =>
            intro j ls hj hl
            refine lv_iload hx hb d_Dy_secondsBeforeDay_59 (lv_at hl 4 rfl) ?_
            refine lv_iload hx hb d_Dy_secondsBeforeDay_61 (lv_at hl 3 rfl) ?_
            refine lv_icmp_ge (tgt := 82) hx hb d_Dy_secondsBeforeDay_63 (by decide) (fun c_3 => ?_) (fun c_3 => ?_)
            · skip
              rw [nI_leI (by omega) (by omega)] at c_3
              first | omega | contradiction
            · skip
              rw [nI_leI (by omega) (by omega)] at c_3
              refine lv_lload_n hx hb d_Dy_secondsBeforeDay_66 rfl (lv_at hl 2 rfl) ?_
              refine lv_iload_n hx hb d_Dy_secondsBeforeDay_67 rfl (lv_at hl 1 rfl) ?_
              refine lv_iload hx hb d_Dy_secondsBeforeDay_68 (lv_at hl 4 rfl) ?_
              refine mk_r1 (W.runS (As := [.int (nI (1980 + d / 512)), .int (nI (j + 1))]) (rest := [.long (lN (d % 32 - 1 + ydN ((1980 + d / 512) - 1970) + mdN (1980 + d / 512) j))]) S (c_Dy_ml l dC dI cI (1980 + d / 512) (j + 1) (by first | assumption | omega) (by first | assumption | omega)) (gS 2 hts k_244 k_245 k_38 k_246 (by decide +kernel) ⟨Nat.le_of_ble_eq_true rfl, Nat.le_of_ble_eq_true rfl⟩) (mk_sR hP hK hT hS [] rfl) rfl rfl hl.1 rfl (lv_room (Nat.le_of_ble_eq_true rfl)) d_Dy_secondsBeforeDay_70 ⟨Nat.zero_le _, Nat.zero_le _⟩) ?_
              have b_4 := mlenN_le (1980 + d / 512) (j + 1)
              refine lv_i2l (v := lN (mlenN (1980 + d / 512) (j + 1))) hx hb d_Dy_secondsBeforeDay_73 (nI_l (by omega)) ?_
              refine lv_ladd hx hb d_Dy_secondsBeforeDay_74 ?_
              refine mk_tl (y := lN (d % 32 - 1 + ydN ((1980 + d / 512) - 1970) + mdN (1980 + d / 512) j + mlenN (1980 + d / 512) (j + 1))) (lN_add (d % 32 - 1 + ydN ((1980 + d / 512) - 1970) + mdN (1980 + d / 512) j) (mlenN (1980 + d / 512) (j + 1))) ?_
              refine lv_lstore_n (lv' := [(2, .long (lN (d % 32 - 1 + ydN ((1980 + d / 512) - 1970) + mdN (1980 + d / 512) j + mlenN (1980 + d / 512) (j + 1)))), (0, .int (nI d)), (1, .int (nI (1980 + d / 512))), (4, .int (nI (d / 32 % 16))), (5, .int (nI (j + 1)))]) hx hb d_Dy_secondsBeforeDay_75 rfl hl (by decide) rfl (fun ls hl => ?_)
              refine lv_iinc (v := nI (j + 1 + 1)) (lv' := [(5, .int (nI (j + 1 + 1))), (2, .long (lN (d % 32 - 1 + ydN ((1980 + d / 512) - 1970) + mdN (1980 + d / 512) j + mlenN (1980 + d / 512) (j + 1)))), (0, .int (nI d)), (1, .int (nI (1980 + d / 512))), (4, .int (nI (d / 32 % 16)))]) hx hb d_Dy_secondsBeforeDay_76 hl (k := 4) rfl (mk_i1 (j + 1)) (by decide) rfl (fun ls hl => ?_)
              refine lv_goto (tgt := 59) hx hb d_Dy_secondsBeforeDay_79 (by decide) ?_
              have hl : lv_has ls 6 [(0, .int (nI d)), (1, .int (nI (1980 + d / 512))), (2, .long (lN (d % 32 - 1 + ydN ((1980 + d / 512) - 1970) + mdN (1980 + d / 512) j + mlenN (1980 + d / 512) (j + 1)))), (4, .int (nI (d / 32 % 16))), (5, .int (nI (j + 1 + 1)))] := lv_sub hl [2, 3, 1, 4, 0] rfl
              have hl9 : ([(0, .int (nI d)), (1, .int (nI (1980 + d / 512))), (2, .long (lN (d % 32 - 1 + ydN ((1980 + d / 512) - 1970) + mdN (1980 + d / 512) j + mlenN (1980 + d / 512) (j + 1)))), (4, .int (nI (d / 32 % 16))), (5, .int (nI (j + 1 + 1)))] : List (Nat × Value)) = [(0, .int (nI d)), (1, .int (nI (1980 + d / 512))), (2, .long (lN (d % 32 - 1 + ydN ((1980 + d / 512) - 1970) + mdN (1980 + d / 512) (j + 1)))), (4, .int (nI (d / 32 % 16))), (5, .int (nI ((j + 1) + 1)))] := by rw [mdN, ← Nat.add_assoc]
              rw [hl9] at hl
              exact ih59 (j + 1) _ (by omega) hl
        have hl : lv_has ls 6 [(0, .int (nI d)), (1, .int (nI (1980 + d / 512))), (2, .long (lN (d % 32 - 1 + ydN ((1980 + d / 512) - 1970)))), (4, .int (nI (d / 32 % 16))), (5, .int (nI 1))] := lv_sub hl [2, 3, 4, 1, 0] rfl
        have hl9 : ([(0, .int (nI d)), (1, .int (nI (1980 + d / 512))), (2, .long (lN (d % 32 - 1 + ydN ((1980 + d / 512) - 1970)))), (4, .int (nI (d / 32 % 16))), (5, .int (nI 1))] : List (Nat × Value)) = [(0, .int (nI d)), (1, .int (nI (1980 + d / 512))), (2, .long (lN (d % 32 - 1 + ydN ((1980 + d / 512) - 1970) + mdN (1980 + d / 512) 0))), (4, .int (nI (d / 32 % 16))), (5, .int (nI (0 + 1)))] := by rfl
        rw [hl9] at hl
        exact lp59 (d / 32 % 16 - 1) 0 _ (by omega) hl
      · skip
        rw [nI_leI (by omega) (by omega)] at c_1
        first | omega | contradiction
    | succ k ih18 =>
      intro i ls hi hl
      refine lv_iload hx hb d_Dy_secondsBeforeDay_18 (lv_at hl 3 rfl) ?_
      refine lv_iload_n hx hb d_Dy_secondsBeforeDay_20 rfl (lv_at hl 1 rfl) ?_
      refine lv_icmp_ge (tgt := 50) hx hb d_Dy_secondsBeforeDay_21 (by decide) (fun c_5 => ?_) (fun c_5 => ?_)
      · skip
        rw [nI_leI (by omega) (by omega)] at c_5
        first | omega | contradiction
      · skip
        rw [nI_leI (by omega) (by omega)] at c_5
        refine lv_lload_n hx hb d_Dy_secondsBeforeDay_24 rfl (lv_at hl 2 rfl) ?_
        refine lv_iload hx hb d_Dy_secondsBeforeDay_25 (lv_at hl 3 rfl) ?_
        refine mk_r1 (W.runS (As := [.int (nI (1970 + i))]) (rest := [.long (lN (d % 32 - 1 + ydN i))]) S (c_Dy_leap l dC dI cI (1970 + i) (by first | assumption | omega)) (gS 1 hts k_247 k_248 k_38 k_249 (by decide +kernel) ⟨Nat.le_of_ble_eq_true rfl, Nat.le_of_ble_eq_true rfl⟩) (mk_sR hP hK hT hS [] rfl) rfl rfl hl.1 rfl (lv_room (Nat.le_of_ble_eq_true rfl)) d_Dy_secondsBeforeDay_27 ⟨Nat.zero_le _, Nat.zero_le _⟩) ?_
        refine lv_if_eq (tgt := 39) hx hb d_Dy_secondsBeforeDay_30 (by decide) (fun c_6 => ?_) (fun c_6 => ?_)
        · skip
          have c_6 := bI_0 c_6
          refine lv_ldc2 (v := lN 365) hx hb hown (hts _ (List.mem_cons_of_mem _ k_269)) d_Dy_secondsBeforeDay_39 ?_
          refine lv_ladd hx hb d_Dy_secondsBeforeDay_42 ?_
          refine mk_tl (y := lN (d % 32 - 1 + ydN i + 365)) (lN_add (d % 32 - 1 + ydN i) 365) ?_
          refine lv_lstore_n (lv' := [(2, .long (lN (d % 32 - 1 + ydN i + 365))), (0, .int (nI d)), (1, .int (nI (1980 + d / 512))), (4, .int (nI (1970 + i)))]) hx hb d_Dy_secondsBeforeDay_43 rfl hl (by decide) rfl (fun ls hl => ?_)
          refine lv_iinc (v := nI (1970 + i + 1)) (lv' := [(4, .int (nI (1970 + i + 1))), (2, .long (lN (d % 32 - 1 + ydN i + 365))), (0, .int (nI d)), (1, .int (nI (1980 + d / 512)))]) hx hb d_Dy_secondsBeforeDay_44 hl (k := 3) rfl (mk_i1 (1970 + i)) (by decide) rfl (fun ls hl => ?_)
          refine lv_goto (tgt := 18) hx hb d_Dy_secondsBeforeDay_47 (by decide) ?_
          have hl : lv_has ls 6 [(0, .int (nI d)), (1, .int (nI (1980 + d / 512))), (2, .long (lN (d % 32 - 1 + ydN i + 365))), (4, .int (nI (1970 + i + 1)))] := lv_sub hl [2, 3, 1, 0] rfl
          have hl9 : ([(0, .int (nI d)), (1, .int (nI (1980 + d / 512))), (2, .long (lN (d % 32 - 1 + ydN i + 365))), (4, .int (nI (1970 + i + 1)))] : List (Nat × Value)) = [(0, .int (nI d)), (1, .int (nI (1980 + d / 512))), (2, .long (lN (d % 32 - 1 + ydN (i + 1)))), (4, .int (nI (1970 + (i + 1))))] := by rw [ydN]; first | rw [if_pos (by assumption), ← Nat.add_assoc]; rfl | rw [if_neg (by simp [c_6]), ← Nat.add_assoc]; rfl
          rw [hl9] at hl
          exact ih18 (i + 1) _ (by omega) hl
        · skip
          have c_6 := bI_1 c_6
          refine lv_ldc2 (v := lN 366) hx hb hown (hts _ (List.mem_cons_of_mem _ k_268)) d_Dy_secondsBeforeDay_33 ?_
          refine lv_goto (tgt := 42) hx hb d_Dy_secondsBeforeDay_36 (by decide) ?_
          refine lv_ladd hx hb d_Dy_secondsBeforeDay_42 ?_
          refine mk_tl (y := lN (d % 32 - 1 + ydN i + 366)) (lN_add (d % 32 - 1 + ydN i) 366) ?_
          refine lv_lstore_n (lv' := [(2, .long (lN (d % 32 - 1 + ydN i + 366))), (0, .int (nI d)), (1, .int (nI (1980 + d / 512))), (4, .int (nI (1970 + i)))]) hx hb d_Dy_secondsBeforeDay_43 rfl hl (by decide) rfl (fun ls hl => ?_)
          refine lv_iinc (v := nI (1970 + i + 1)) (lv' := [(4, .int (nI (1970 + i + 1))), (2, .long (lN (d % 32 - 1 + ydN i + 366))), (0, .int (nI d)), (1, .int (nI (1980 + d / 512)))]) hx hb d_Dy_secondsBeforeDay_44 hl (k := 3) rfl (mk_i1 (1970 + i)) (by decide) rfl (fun ls hl => ?_)
          refine lv_goto (tgt := 18) hx hb d_Dy_secondsBeforeDay_47 (by decide) ?_
          have hl : lv_has ls 6 [(0, .int (nI d)), (1, .int (nI (1980 + d / 512))), (2, .long (lN (d % 32 - 1 + ydN i + 366))), (4, .int (nI (1970 + i + 1)))] := lv_sub hl [2, 3, 1, 0] rfl
          have hl9 : ([(0, .int (nI d)), (1, .int (nI (1980 + d / 512))), (2, .long (lN (d % 32 - 1 + ydN i + 366))), (4, .int (nI (1970 + i + 1)))] : List (Nat × Value)) = [(0, .int (nI d)), (1, .int (nI (1980 + d / 512))), (2, .long (lN (d % 32 - 1 + ydN (i + 1)))), (4, .int (nI (1970 + (i + 1))))] := by rw [ydN]; first | rw [if_pos (by assumption), ← Nat.add_assoc]; rfl | rw [if_neg (by simp [c_6]), ← Nat.add_assoc]; rfl
          rw [hl9] at hl
          exact ih18 (i + 1) _ (by omega) hl
  have hl : lv_has ls 6 [(0, .int (nI d)), (1, .int (nI (1980 + d / 512))), (2, .long (lN (d % 32 - 1))), (4, .int (nI 1970))] := lv_sub hl [3, 2, 1, 0] rfl
  have hl9 : ([(0, .int (nI d)), (1, .int (nI (1980 + d / 512))), (2, .long (lN (d % 32 - 1))), (4, .int (nI 1970))] : List (Nat × Value)) = [(0, .int (nI d)), (1, .int (nI (1980 + d / 512))), (2, .long (lN (d % 32 - 1 + ydN 0))), (4, .int (nI (1970 + 0)))] := by rfl
  rw [hl9] at hl
  exact lp18 ((1980 + d / 512) - 1970) 0 _ (by omega) hl

set_option maxHeartbeats 4000000 in
set_option maxRecDepth 100000 in
theorem c_Dy_sot (l : Launch) (dC : Nat → ClassId) (dI : Nat → Nat → Nat) (cI : ClassId) (d : Nat) (hd : d < 65536) : mR l y_Dy_secondsOfTime w_Dy_secondsOfTime ({ frames := 1, cells := 0, slots := 0, locals := 20 } : Room) [.int (nI d)] (dC, dI) vwCl [(cI, .int)] [] (some (.long (lN (stmN d)))) := by
  refine mk_Rl (cc := b_Dy_secondsOfTime) (maxL := 1) (by decide) rfl (Nat.le_of_ble_eq_true rfl) ?_
  intro p e s m below meth c Q A ls S hP hK hT hS hl hret
  obtain ⟨hx, hb, hml, hown, hts⟩ := id S
  have hl : lv_has ls 1 [(0, .int (nI d))] := hl
  refine lv_ldc2 (v := lN 3600) hx hb hown (hts _ (List.mem_cons_of_mem _ k_274)) d_Dy_secondsOfTime_0 ?_
  refine lv_iload_n hx hb d_Dy_secondsOfTime_3 rfl (lv_at hl 0 rfl) ?_
  refine mk_r1 (W.runS (As := [.int (nI d)]) (rest := [.long (lN 3600)]) S (c_Dy_hourOf l dC dI cI d (by first | assumption | omega)) (gS 1 hts k_255 k_256 k_38 k_257 (by decide +kernel) ⟨Nat.le_of_ble_eq_true rfl, Nat.le_of_ble_eq_true rfl⟩) (mk_sR hP hK hT hS [] rfl) rfl rfl hl.1 rfl (lv_room (Nat.le_of_ble_eq_true rfl)) d_Dy_secondsOfTime_4 ⟨Nat.zero_le _, Nat.zero_le _⟩) ?_
  refine lv_i2l (v := lN (d / 2048)) hx hb d_Dy_secondsOfTime_7 (nI_l (by omega)) ?_
  refine lv_lmul hx hb d_Dy_secondsOfTime_8 ?_
  refine mk_tl (y := lN (3600 * (d / 2048))) (lN_mul 3600 (d / 2048)) ?_
  refine lv_ldc2 (v := lN 60) hx hb hown (hts _ (List.mem_cons_of_mem _ k_275)) d_Dy_secondsOfTime_9 ?_
  refine lv_iload_n hx hb d_Dy_secondsOfTime_12 rfl (lv_at hl 0 rfl) ?_
  refine mk_r1 (W.runS (As := [.int (nI d)]) (rest := [.long (lN 60), .long (lN (3600 * (d / 2048)))]) S (c_Dy_minuteOf l dC dI cI d (by first | assumption | omega)) (gS 1 hts k_258 k_259 k_38 k_260 (by decide +kernel) ⟨Nat.le_of_ble_eq_true rfl, Nat.le_of_ble_eq_true rfl⟩) (mk_sR hP hK hT hS [] rfl) rfl rfl hl.1 rfl (lv_room (Nat.le_of_ble_eq_true rfl)) d_Dy_secondsOfTime_13 ⟨Nat.zero_le _, Nat.zero_le _⟩) ?_
  refine lv_i2l (v := lN (d / 32 % 64)) hx hb d_Dy_secondsOfTime_16 (nI_l (by omega)) ?_
  refine lv_lmul hx hb d_Dy_secondsOfTime_17 ?_
  refine mk_tl (y := lN (60 * (d / 32 % 64))) (lN_mul 60 (d / 32 % 64)) ?_
  refine lv_ladd hx hb d_Dy_secondsOfTime_18 ?_
  refine mk_tl (y := lN (3600 * (d / 2048) + 60 * (d / 32 % 64))) (lN_add (3600 * (d / 2048)) (60 * (d / 32 % 64))) ?_
  refine lv_ldc2 (v := lN 2) hx hb hown (hts _ (List.mem_cons_of_mem _ k_276)) d_Dy_secondsOfTime_19 ?_
  refine lv_iload_n hx hb d_Dy_secondsOfTime_22 rfl (lv_at hl 0 rfl) ?_
  refine mk_r1 (W.runS (As := [.int (nI d)]) (rest := [.long (lN 2), .long (lN (3600 * (d / 2048) + 60 * (d / 32 % 64)))]) S (c_Dy_halfOf l dC dI cI d (by first | assumption | omega)) (gS 1 hts k_261 k_262 k_38 k_263 (by decide +kernel) ⟨Nat.le_of_ble_eq_true rfl, Nat.le_of_ble_eq_true rfl⟩) (mk_sR hP hK hT hS [] rfl) rfl rfl hl.1 rfl (lv_room (Nat.le_of_ble_eq_true rfl)) d_Dy_secondsOfTime_23 ⟨Nat.zero_le _, Nat.zero_le _⟩) ?_
  refine lv_i2l (v := lN (d % 32)) hx hb d_Dy_secondsOfTime_26 (nI_l (by omega)) ?_
  refine lv_lmul hx hb d_Dy_secondsOfTime_27 ?_
  refine mk_tl (y := lN (2 * (d % 32))) (lN_mul 2 (d % 32)) ?_
  refine lv_ladd hx hb d_Dy_secondsOfTime_28 ?_
  refine mk_tl (y := lN (3600 * (d / 2048) + 60 * (d / 32 % 64) + 2 * (d % 32))) (lN_add (3600 * (d / 2048) + 60 * (d / 32 % 64)) (2 * (d % 32))) ?_
  exact mk_tl (by rfl) (hret _ _ d_Dy_secondsOfTime_29)

