set_option maxHeartbeats 4000000 in
set_option maxRecDepth 100000 in
theorem c_Sn_show (l : Launch) (dC : Nat → ClassId) (dI : Nat → Nat → Nat) (cI : ClassId) (h a : Nat) (b : Nat → Nat) (hr ar : Nat) (v : Nat → Nat) (hb9 : ∀ j, b j < 65536) : mM l y_Sn_showIn w_Sn_showIn ({ frames := 2, cells := 0, slots := 0, locals := 45 } : Room) [.ref h, .ref hr] (dC, dI) vwCl [(cI, .int)] [(h, .inr (2, [.ref a])), (a, .inl (cI, 11, .inl (nf b))), (hr, .inr (1, [.ref ar, .int (nI 0)])), (ar, .inl (cI, 255, .inl (nf v)))] none [(h, .inr (2, [.ref a])), (a, .inl (cI, 11, .inl (nf b))), (hr, .inr (1, [.ref ar, .int (nI (siC b))])), (ar, .inl (cI, 255, .inl (nf (siV v b))))] := by
  refine mk_Mv (cc := b_Sn_showIn) (maxL := 2) (by decide) rfl (Nat.le_of_ble_eq_true rfl) ?_
  intro p e s m below meth c Q A ls S hP hK hT hS hl hD hA hret
  obtain ⟨hx, hb, hml, hown, hts⟩ := id S
  have hl : lv_has ls 2 [(0, .ref h), (1, .ref hr)] := hl
  refine lv_aload_n hx hb d_Sn_showIn_0 rfl (lv_at hl 0 rfl) ?_
  refine lv_aload_n hx hb d_Sn_showIn_1 rfl (lv_at hl 1 rfl) ?_
  refine lv_iconst (v := nI 0) hx hb d_Sn_showIn_2 (by decide) ?_
  refine lv_bipush (v := nI 8) hx hb d_Sn_showIn_3 (by decide) ?_
  refine mk_w0 (wr := []) (W.runV (As := [.ref hr, .int (nI 0), .int (nI 8)]) (rest := []) S ((c_Sn_showB l dC dI cI h a b hr ar 0 v 0 8 (by first | assumption | omega) (by first | assumption | omega) (by first | assumption | omega) (by first | assumption | omega)) _) (gV 3 hts k_494 k_496 k_10 k_26 k_497 (by decide +kernel) ⟨Nat.le_of_ble_eq_true rfl, Nat.le_of_ble_eq_true rfl⟩) (mk_vM hP hD hK hT hS hA [0, 1, 2, 3] rfl rfl (by decide) (q0 := 0) (ci := 2) rfl rfl) rfl rfl hl.1 rfl (lv_room (Nat.le_of_ble_eq_true rfl)) d_Sn_showIn_5 ⟨Nat.zero_le _, Nat.zero_le _⟩) hP hD hS hA [0, 1, 2, 3] [] rfl rfl (by decide) (by decide) (fun H locs hP hD hS => ?_)
  have hP : va_P (dC, dI) vwCl [(h, .inr (2, [.ref a])), (a, .inl (cI, 11, .inl (nf b))), (hr, .inr (1, [.ref ar, .int (nI (0 + cnN b (8 - 0) 0))])), (ar, .inl (cI, 255, .inl (nf (apN v b 0 0 (cnN b (8 - 0) 0)))))] H := hP.sub [0, 1, 2, 3] rfl
  have hD : va_D A [(h, .inr (2, [.ref a])), (a, .inl (cI, 11, .inl (nf b))), (hr, .inr (1, [.ref ar, .int (nI (0 + cnN b (8 - 0) 0))])), (ar, .inl (cI, 255, .inl (nf (apN v b 0 0 (cnN b (8 - 0) 0)))))] := hD.sub [0, 1, 2, 3] (by decide) rfl
  have b_1 := cnN_le b (8 - 0) 0
  refine lv_aload_n hx hb d_Sn_showIn_8 rfl (lv_at hl 0 rfl) ?_
  refine lv_bipush (v := nI 8) hx hb d_Sn_showIn_9 (by decide) ?_
  refine mk_r1 (W.runV (As := [.int (nI 8)]) (rest := []) S (c_Sn_get l dC dI cI h a b 8 (by first | assumption | omega) (by first | assumption | omega)) (gV 1 hts k_414 k_416 k_6 k_26 k_417 (by decide +kernel) ⟨Nat.le_of_ble_eq_true rfl, Nat.le_of_ble_eq_true rfl⟩) (mk_vR hP hK hT hS [0, 1] rfl (q0 := 0) (ci := 2) rfl rfl) rfl rfl hl.1 rfl (lv_room (Nat.le_of_ble_eq_true rfl)) d_Sn_showIn_11 ⟨Nat.zero_le _, Nat.zero_le _⟩) ?_
  have b_2 := (show ∀ j9, b j9 < 65536 by assumption) 8
  refine lv_bipush (v := nI 32) hx hb d_Sn_showIn_14 (by decide) ?_
  refine lv_icmp_eq (tgt := 35) hx hb d_Sn_showIn_16 (by decide) (fun c_3 => ?_) (fun c_3 => ?_)
  · skip
    rw [nI_eq (by omega) (by omega)] at c_3
    have hw9 : ([(h, .inr (2, [.ref a])), (a, .inl (cI, 11, .inl (nf b))), (hr, .inr (1, [.ref ar, .int (nI (0 + cnN b (8 - 0) 0))])), (ar, .inl (cI, 255, .inl (nf (apN v b 0 0 (cnN b (8 - 0) 0)))))] : va_W) = [(h, .inr (2, [.ref a])), (a, .inl (cI, 11, .inl (nf b))), (hr, .inr (1, [.ref ar, .int (nI (siC b))])), (ar, .inl (cI, 255, .inl (nf (siV v b))))] := by simp only [siC, siV, c_3, if_true, if_false, Nat.zero_add, Nat.sub_zero, Nat.reduceSub]
    rw [hw9] at hP hD
    exact hret _ _ _ _ d_Sn_showIn_35 hP hD hS
  · skip
    rw [nI_eq (by omega) (by omega)] at c_3
    refine lv_aload_n hx hb d_Sn_showIn_19 rfl (lv_at hl 1 rfl) ?_
    refine lv_bipush (v := nI 46) hx hb d_Sn_showIn_20 (by decide) ?_
    refine mk_w1 (wr := [(h, .inr (2, [.ref a])), (a, .inl (cI, 11, .inl (nf b)))]) (W.runV (As := [.int (nI 46)]) (rest := []) S ((c_Ro_app l dC dI cI hr ar (0 + cnN b (8 - 0) 0) (apN v b 0 0 (cnN b (8 - 0) 0)) 46 (by first | assumption | omega)) _) (gV 1 hts k_498 k_117 k_118 k_25 k_119 (by decide +kernel) ⟨Nat.le_of_ble_eq_true rfl, Nat.le_of_ble_eq_true rfl⟩) (mk_vM hP hD hK hT hS hA [2, 3] rfl rfl (by decide) (q0 := 2) (ci := 1) rfl rfl) rfl rfl hl.1 rfl (lv_room (Nat.le_of_ble_eq_true rfl)) d_Sn_showIn_22 ⟨Nat.zero_le _, Nat.zero_le _⟩) hP hD hS hA [2, 3] [0, 1] rfl rfl (by decide) (by decide) (fun H locs hP hD hS => ?_)
    have hP : va_P (dC, dI) vwCl [(h, .inr (2, [.ref a])), (a, .inl (cI, 11, .inl (nf b))), (hr, .inr (1, [.ref ar, .int (nI ((0 + cnN b (8 - 0) 0) + 1))])), (ar, .inl (cI, 255, .inl (nf (uN (apN v b 0 0 (cnN b (8 - 0) 0)) (0 + cnN b (8 - 0) 0) 46))))] H := hP.sub [0, 1, 2, 3] rfl
    have hD : va_D A [(h, .inr (2, [.ref a])), (a, .inl (cI, 11, .inl (nf b))), (hr, .inr (1, [.ref ar, .int (nI ((0 + cnN b (8 - 0) 0) + 1))])), (ar, .inl (cI, 255, .inl (nf (uN (apN v b 0 0 (cnN b (8 - 0) 0)) (0 + cnN b (8 - 0) 0) 46))))] := hD.sub [0, 1, 2, 3] (by decide) rfl
    refine lv_pop hx hb d_Sn_showIn_25 rfl ?_
    refine lv_aload_n hx hb d_Sn_showIn_26 rfl (lv_at hl 0 rfl) ?_
    refine lv_aload_n hx hb d_Sn_showIn_27 rfl (lv_at hl 1 rfl) ?_
    refine lv_bipush (v := nI 8) hx hb d_Sn_showIn_28 (by decide) ?_
    refine lv_bipush (v := nI 11) hx hb d_Sn_showIn_30 (by decide) ?_
    refine mk_w0 (wr := []) (W.runV (As := [.ref hr, .int (nI 8), .int (nI 11)]) (rest := []) S ((c_Sn_showB l dC dI cI h a b hr ar ((0 + cnN b (8 - 0) 0) + 1) (uN (apN v b 0 0 (cnN b (8 - 0) 0)) (0 + cnN b (8 - 0) 0) 46) 8 11 (by first | assumption | omega) (by first | assumption | omega) (by first | assumption | omega) (by first | assumption | omega)) _) (gV 3 hts k_494 k_496 k_10 k_26 k_497 (by decide +kernel) ⟨Nat.le_of_ble_eq_true rfl, Nat.le_of_ble_eq_true rfl⟩) (mk_vM hP hD hK hT hS hA [0, 1, 2, 3] rfl rfl (by decide) (q0 := 0) (ci := 2) rfl rfl) rfl rfl hl.1 rfl (lv_room (Nat.le_of_ble_eq_true rfl)) d_Sn_showIn_32 ⟨Nat.zero_le _, Nat.zero_le _⟩) hP hD hS hA [0, 1, 2, 3] [] rfl rfl (by decide) (by decide) (fun H locs hP hD hS => ?_)
    have hP : va_P (dC, dI) vwCl [(h, .inr (2, [.ref a])), (a, .inl (cI, 11, .inl (nf b))), (hr, .inr (1, [.ref ar, .int (nI (((0 + cnN b (8 - 0) 0) + 1) + cnN b (11 - 8) 8))])), (ar, .inl (cI, 255, .inl (nf (apN (uN (apN v b 0 0 (cnN b (8 - 0) 0)) (0 + cnN b (8 - 0) 0) 46) b ((0 + cnN b (8 - 0) 0) + 1) 8 (cnN b (11 - 8) 8)))))] H := hP.sub [0, 1, 2, 3] rfl
    have hD : va_D A [(h, .inr (2, [.ref a])), (a, .inl (cI, 11, .inl (nf b))), (hr, .inr (1, [.ref ar, .int (nI (((0 + cnN b (8 - 0) 0) + 1) + cnN b (11 - 8) 8))])), (ar, .inl (cI, 255, .inl (nf (apN (uN (apN v b 0 0 (cnN b (8 - 0) 0)) (0 + cnN b (8 - 0) 0) 46) b ((0 + cnN b (8 - 0) 0) + 1) 8 (cnN b (11 - 8) 8)))))] := hD.sub [0, 1, 2, 3] (by decide) rfl
    have b_4 := cnN_le b (11 - 8) 8
    have hw9 : ([(h, .inr (2, [.ref a])), (a, .inl (cI, 11, .inl (nf b))), (hr, .inr (1, [.ref ar, .int (nI (((0 + cnN b (8 - 0) 0) + 1) + cnN b (11 - 8) 8))])), (ar, .inl (cI, 255, .inl (nf (apN (uN (apN v b 0 0 (cnN b (8 - 0) 0)) (0 + cnN b (8 - 0) 0) 46) b ((0 + cnN b (8 - 0) 0) + 1) 8 (cnN b (11 - 8) 8)))))] : va_W) = [(h, .inr (2, [.ref a])), (a, .inl (cI, 11, .inl (nf b))), (hr, .inr (1, [.ref ar, .int (nI (siC b))])), (ar, .inl (cI, 255, .inl (nf (siV v b))))] := by simp only [siC, siV, c_3, if_true, if_false, Nat.zero_add, Nat.sub_zero, Nat.reduceSub]
    rw [hw9] at hP hD
    exact hret _ _ _ _ d_Sn_showIn_35 hP hD hS

