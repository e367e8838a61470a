set_option maxHeartbeats 4000000 in
set_option maxRecDepth 100000 in
theorem c_Pt_set (l : Launch) (dC : Nat → ClassId) (dI : Nat → Nat → Nat) (cI : ClassId) (h a : Nat) (b : Nat → Nat) (j x : Nat) (hj : j < 32) : mM l y_Pt_set w_Pt_set ({ frames := 0, cells := 0, slots := 0, locals := 0 } : Room) [.ref h, .int (nI j), .int (nI x)] (dC, dI) vwCl [(cI, .int)] [(h, .inr (3, [.ref a])), (a, .inl (cI, 32, .inl (nf b)))] none [(h, .inr (3, [.ref a])), (a, .inl (cI, 32, .inl (nf (uN b j x))))] := by
  refine mk_Mv (cc := b_Pt_set) (maxL := 3) (by decide) rfl (Nat.le_of_ble_eq_true rfl) ?_
  intro p e s m below meth c Q A ls S hP hK hT hS hl hD hA hret
  obtain ⟨hx, hb, hml, hown, hts⟩ := id S
  have hl : lv_has ls 3 [(0, .ref h), (1, .int (nI j)), (2, .int (nI x))] := hl
  refine lv_iload_n hx hb d_Pt_set_0 rfl (lv_at hl 1 rfl) ?_
  refine lv_if_lt (tgt := 17) hx hb d_Pt_set_1 (by decide) (fun c_1 => ?_) (fun c_1 => ?_)
  · skip
    rw [mk_clt (by omega)] at c_1
    first | omega | contradiction
  · skip
    rw [mk_clt (by omega)] at c_1
    refine lv_iload_n hx hb d_Pt_set_4 rfl (lv_at hl 1 rfl) ?_
    refine lv_bipush (v := nI 32) hx hb d_Pt_set_5 (by decide) ?_
    refine lv_icmp_ge (tgt := 17) hx hb d_Pt_set_7 (by decide) (fun c_2 => ?_) (fun c_2 => ?_)
    · skip
      rw [nI_leI (by omega) (by omega)] at c_2
      first | omega | contradiction
    · skip
      rw [nI_leI (by omega) (by omega)] at c_2
      refine lv_aload_n hx hb d_Pt_set_10 rfl (lv_at hl 0 rfl) ?_
      refine va_get (D := (dC, dI)) (ci := 3) (v := .ref a) (C := "LongNames$Part") (T := F_Pt) (N := 1) hx hb hts (iw_Pt _) hown hK hP 0 rfl rfl 0 (by decide) (hts _ (List.mem_cons_of_mem _ k_77)) (fun _ h9 => h9) rfl d_Pt_set_11 ?_
      refine lv_iload_n hx hb d_Pt_set_14 rfl (lv_at hl 1 rfl) ?_
      refine lv_iload_n hx hb d_Pt_set_15 rfl (lv_at hl 2 rfl) ?_
      refine va_iast hx hb hK hP hD hS 1 0 rfl rfl (vp_in_nI (N := 32) (show j < 32 by omega) (by decide)) d_Pt_set_16 (fun H locs hP hD hS => ?_)
      rw [nI_clamp (by omega), nf_up] at hP hD
      have hP : va_P (dC, dI) vwCl [(h, .inr (3, [.ref a])), (a, .inl (cI, 32, .inl (nf (uN b j x))))] H := hP
      have hD : va_D A [(h, .inr (3, [.ref a])), (a, .inl (cI, 32, .inl (nf (uN b j x))))] := hD
      exact hret _ _ _ _ d_Pt_set_17 hP hD hS

set_option maxHeartbeats 4000000 in
set_option maxRecDepth 100000 in
theorem c_Pt_get (l : Launch) (dC : Nat → ClassId) (dI : Nat → Nat → Nat) (cI : ClassId) (h a : Nat) (b : Nat → Nat) (j : Nat) (hb9 : ∀ j, b j < 65536) (hj : j < 32) : mR l y_Pt_get w_Pt_get ({ frames := 0, cells := 0, slots := 0, locals := 0 } : Room) [.ref h, .int (nI j)] (dC, dI) vwCl [(cI, .int)] [(h, .inr (3, [.ref a])), (a, .inl (cI, 32, .inl (nf b)))] (some (.int (nI (b j)))) := by
  refine mk_Ri (cc := b_Pt_get) (maxL := 2) (by decide) rfl (Nat.le_of_ble_eq_true rfl) rfl ?_
  intro p e s m below meth c Q A ls S hP hK hT hS hl hret
  obtain ⟨hx, hb, hml, hown, hts⟩ := id S
  have hl : lv_has ls 2 [(0, .ref h), (1, .int (nI j))] := hl
  refine lv_iload_n hx hb d_Pt_get_0 rfl (lv_at hl 1 rfl) ?_
  refine lv_if_lt (tgt := 19) hx hb d_Pt_get_1 (by decide) (fun c_1 => ?_) (fun c_1 => ?_)
  · skip
    rw [mk_clt (by omega)] at c_1
    first | omega | contradiction
  · skip
    rw [mk_clt (by omega)] at c_1
    refine lv_iload_n hx hb d_Pt_get_4 rfl (lv_at hl 1 rfl) ?_
    refine lv_bipush (v := nI 32) hx hb d_Pt_get_5 (by decide) ?_
    refine lv_icmp_ge (tgt := 19) hx hb d_Pt_get_7 (by decide) (fun c_2 => ?_) (fun c_2 => ?_)
    · skip
      rw [nI_leI (by omega) (by omega)] at c_2
      first | omega | contradiction
    · skip
      rw [nI_leI (by omega) (by omega)] at c_2
      refine lv_aload_n hx hb d_Pt_get_10 rfl (lv_at hl 0 rfl) ?_
      refine va_get (D := (dC, dI)) (ci := 3) (v := .ref a) (C := "LongNames$Part") (T := F_Pt) (N := 1) hx hb hts (iw_Pt _) hown hK hP 0 rfl rfl 0 (by decide) (hts _ (List.mem_cons_of_mem _ k_77)) (fun _ h9 => h9) rfl d_Pt_get_11 ?_
      refine lv_iload_n hx hb d_Pt_get_14 rfl (lv_at hl 1 rfl) ?_
      refine va_iald hx hb hK hP 1 0 rfl rfl (vp_in_nI (N := 32) (show j < 32 by omega) (by decide)) d_Pt_get_15 ?_
      refine mk_ti (y := nI (b j)) (by rw [nI_clamp (by omega)]; rfl) ?_
      have b_3 := hb9 j
      refine lv_goto (tgt := 20) hx hb d_Pt_get_16 (by decide) ?_
      exact hret _ _ d_Pt_get_20

set_option maxHeartbeats 4000000 in
set_option maxRecDepth 100000 in
theorem c_Pt_place (l : Launch) (dC : Nat → ClassId) (dI : Nat → Nat → Nat) (cI : ClassId) (j : Nat) (hj : j < 13) : mR l y_Pt_placeOf w_Pt_placeOf ({ frames := 0, cells := 0, slots := 0, locals := 0 } : Room) [.int (nI j)] (dC, dI) vwCl [(cI, .int)] [] (some (.int (nI (plN j)))) := by
  refine mk_Ri (cc := b_Pt_placeOf) (maxL := 1) (by decide) rfl (Nat.le_of_ble_eq_true rfl) rfl ?_
  intro p e s m below meth c Q A ls S hP hK hT hS hl hret
  obtain ⟨hx, hb, hml, hown, hts⟩ := id S
  have hl : lv_has ls 1 [(0, .int (nI j))] := hl
  refine lv_iload_n hx hb d_Pt_placeOf_0 rfl (lv_at hl 0 rfl) ?_
  refine lv_if_lt (tgt := 20) hx hb d_Pt_placeOf_1 (by decide) (fun c_1 => ?_) (fun c_1 => ?_)
  · skip
    rw [mk_clt (by omega)] at c_1
    first | omega | contradiction
  · skip
    rw [mk_clt (by omega)] at c_1
    refine lv_iload_n hx hb d_Pt_placeOf_4 rfl (lv_at hl 0 rfl) ?_
    obtain ⟨tP, tM, hZP, hTP, hZM, hTM⟩ := hT.tabs
    refine va_gets (v := .ref tP) hx hb hZP hS hown (hts _ (List.mem_cons_of_mem _ k_438)) (fun _ h9 => h9) d_Pt_placeOf_5 ?_
    refine va_tlen hx hb hTP hS (v := nI 13) rfl d_Pt_placeOf_8 ?_
    refine lv_icmp_ge (tgt := 20) hx hb d_Pt_placeOf_9 (by decide) (fun c_2 => ?_) (fun c_2 => ?_)
    · skip
      rw [nI_leI (by omega) (by omega)] at c_2
      first | omega | contradiction
    · skip
      rw [nI_leI (by omega) (by omega)] at c_2
      refine va_gets (v := .ref tP) hx hb hZP hS hown (hts _ (List.mem_cons_of_mem _ k_438)) (fun _ h9 => h9) d_Pt_placeOf_12 ?_
      refine lv_iload_n hx hb d_Pt_placeOf_15 rfl (lv_at hl 0 rfl) ?_
      refine va_ti hx hb hTP hS (vp_in_nI (N := 13) (show j < 13 by omega) (by decide)) (v := .int (nI (plN j))) (by simp only [nI_clamp (show j < 2 ^ 31 by omega)]) d_Pt_placeOf_16 ?_
      refine lv_goto (tgt := 21) hx hb d_Pt_placeOf_17 (by decide) ?_
      exact hret _ _ d_Pt_placeOf_21

set_option maxHeartbeats 4000000 in
set_option maxRecDepth 100000 in
theorem c_Pt_uf (l : Launch) (dC : Nat → ClassId) (dI : Nat → Nat → Nat) (cI : ClassId) (hr ar n : Nat) (v : Nat → Nat) (j : Nat) (hn : n ≤ 255) (hv : ∀ j, v j < 65536) (hj : j < 2 ^ 31) : mR l y_Pt_unitOrFill w_Pt_unitOrFill ({ frames := 1, cells := 0, slots := 0, locals := 21 } : Room) [.ref hr, .int (nI j)] (dC, dI) vwCl [(cI, .int)] [(hr, .inr (1, [.ref ar, .int (nI n)])), (ar, .inl (cI, 255, .inl (nf v)))] (some (.int (nI (ufN v n j)))) := by
  refine mk_Ri (cc := b_Pt_unitOrFill) (maxL := 2) (by decide) rfl (Nat.le_of_ble_eq_true rfl) rfl ?_
  intro p e s m below meth c Q A ls S hP hK hT hS hl hret
  obtain ⟨hx, hb, hml, hown, hts⟩ := id S
  have hl : lv_has ls 2 [(0, .ref hr), (1, .int (nI j))] := hl
  refine lv_iload_n hx hb d_Pt_unitOrFill_0 rfl (lv_at hl 1 rfl) ?_
  refine lv_aload_n hx hb d_Pt_unitOrFill_1 rfl (lv_at hl 0 rfl) ?_
  refine mk_r1 (W.runV (As := []) (rest := [.int (nI j)]) S (c_Ro_size l dC dI cI hr ar n v) (gV 0 hts k_432 k_125 k_126 k_25 k_127 (by decide +kernel) ⟨Nat.le_of_ble_eq_true rfl, Nat.le_of_ble_eq_true rfl⟩) (mk_vR hP hK hT hS [0, 1] rfl (q0 := 0) (ci := 1) rfl rfl) rfl rfl hl.1 rfl (lv_room (Nat.le_of_ble_eq_true rfl)) d_Pt_unitOrFill_2 ⟨Nat.zero_le _, Nat.zero_le _⟩) ?_
  refine lv_icmp_ge (tgt := 14) hx hb d_Pt_unitOrFill_5 (by decide) (fun c_1 => ?_) (fun c_1 => ?_)
  · skip
    rw [nI_leI (by omega) (by omega)] at c_1
    refine lv_iload_n hx hb d_Pt_unitOrFill_14 rfl (lv_at hl 1 rfl) ?_
    refine lv_aload_n hx hb d_Pt_unitOrFill_15 rfl (lv_at hl 0 rfl) ?_
    refine mk_r1 (W.runV (As := []) (rest := [.int (nI j)]) S (c_Ro_size l dC dI cI hr ar n v) (gV 0 hts k_432 k_125 k_126 k_25 k_127 (by decide +kernel) ⟨Nat.le_of_ble_eq_true rfl, Nat.le_of_ble_eq_true rfl⟩) (mk_vR hP hK hT hS [0, 1] rfl (q0 := 0) (ci := 1) rfl rfl) rfl rfl hl.1 rfl (lv_room (Nat.le_of_ble_eq_true rfl)) d_Pt_unitOrFill_16 ⟨Nat.zero_le _, Nat.zero_le _⟩) ?_
    refine lv_icmp_ne (tgt := 26) hx hb d_Pt_unitOrFill_19 (by decide) (fun c_2 => ?_) (fun c_2 => ?_)
    · skip
      rw [nI_eq (by omega) (by omega)] at c_2
      refine lv_ldc (v := nI 65535) hx hb hown (hts _ (List.mem_cons_of_mem _ k_434)) d_Pt_unitOrFill_26 ?_
      exact mk_ti (by congr 1; unfold ufN; (repeat' split) <;> first | rfl | omega) (hret _ _ d_Pt_unitOrFill_28)
    · skip
      rw [nI_eq (by omega) (by omega)] at c_2
      refine lv_iconst (v := nI 0) hx hb d_Pt_unitOrFill_22 (by decide) ?_
      refine lv_goto (tgt := 28) hx hb d_Pt_unitOrFill_23 (by decide) ?_
      exact mk_ti (by congr 1; unfold ufN; (repeat' split) <;> first | rfl | omega) (hret _ _ d_Pt_unitOrFill_28)
  · skip
    rw [nI_leI (by omega) (by omega)] at c_1
    refine lv_aload_n hx hb d_Pt_unitOrFill_8 rfl (lv_at hl 0 rfl) ?_
    refine lv_iload_n hx hb d_Pt_unitOrFill_9 rfl (lv_at hl 1 rfl) ?_
    refine mk_r1 (W.runV (As := [.int (nI j)]) (rest := []) S (c_Ro_get l dC dI cI hr ar n v j (by first | assumption | omega) (by first | assumption | omega) (by first | assumption | omega)) (gV 1 hts k_433 k_141 k_142 k_25 k_143 (by decide +kernel) ⟨Nat.le_of_ble_eq_true rfl, Nat.le_of_ble_eq_true rfl⟩) (mk_vR hP hK hT hS [0, 1] rfl (q0 := 0) (ci := 1) rfl rfl) rfl rfl hl.1 rfl (lv_room (Nat.le_of_ble_eq_true rfl)) d_Pt_unitOrFill_10 ⟨Nat.zero_le _, Nat.zero_le _⟩) ?_
    have b_3 := (show ∀ j9, v j9 < 65536 by assumption) j
    exact mk_ti (by congr 1; unfold ufN; (repeat' split) <;> first | rfl | omega) (hret _ _ d_Pt_unitOrFill_13)

set_option maxHeartbeats 4000000 in
set_option maxRecDepth 100000 in
theorem c_Pt_build (l : Launch) (dC : Nat → ClassId) (dI : Nat → Nat → Nat) (cI : ClassId) (h a : Nat) (b : Nat → Nat) (hr ar n : Nat) (v : Nat → Nat) (q su : Nat) (hn : n ≤ 255) (hv : ∀ j, v j < 65536) (hq : 1 ≤ q ∧ q < 100) (hs : su < 256) : mM l y_Pt_build w_Pt_build ({ frames := 2, cells := 0, slots := 0, locals := 42 } : Room) [.ref h, .ref hr, .int (nI q), .int (nI su)] (dC, dI) vwCl [(cI, .int)] [(h, .inr (3, [.ref a])), (a, .inl (cI, 32, .inl (nf b))), (hr, .inr (1, [.ref ar, .int (nI n)])), (ar, .inl (cI, 255, .inl (nf v)))] none [(h, .inr (3, [.ref a])), (a, .inl (cI, 32, .inl (nf (bdN v n q su b)))), (hr, .inr (1, [.ref ar, .int (nI n)])), (ar, .inl (cI, 255, .inl (nf v)))] := by
  refine mk_Mv (cc := b_Pt_build) (maxL := 6) (by decide) rfl (Nat.le_of_ble_eq_true rfl) ?_
  intro p e s m below meth c Q A ls S hP hK hT hS hl hD hA hret
  obtain ⟨hx, hb, hml, hown, hts⟩ := id S
  have hl : lv_has ls 6 [(0, .ref h), (1, .ref hr), (2, .int (nI q)), (3, .int (nI su))] := hl
  refine lv_aload_n hx hb d_Pt_build_0 rfl (lv_at hl 0 rfl) ?_
  refine va_get (D := (dC, dI)) (ci := 3) (v := .ref a) (C := "LongNames$Part") (T := F_Pt) (N := 1) hx hb hts (iw_Pt _) hown hK hP 0 rfl rfl 0 (by decide) (hts _ (List.mem_cons_of_mem _ k_77)) (fun _ h9 => h9) rfl d_Pt_build_1 ?_
  refine lv_iconst (v := nI 0) hx hb d_Pt_build_4 (by decide) ?_
  refine mk_w0 (wr := [(h, .inr (3, [.ref a])), (hr, .inr (1, [.ref ar, .int (nI n)])), (ar, .inl (cI, 255, .inl (nf v)))]) (W.runS (As := [.ref a, .int (nI 0)]) (rest := []) S ((c_Ar_fill32 l dC dI cI a b 0) _) (gS 2 hts k_423 k_377 k_36 k_378 (by decide +kernel) ⟨Nat.le_of_ble_eq_true rfl, Nat.le_of_ble_eq_true rfl⟩) (mk_sM hP hD hK hT hS hA [1] rfl rfl (by decide)) rfl rfl hl.1 rfl (lv_room (Nat.le_of_ble_eq_true rfl)) d_Pt_build_5 ⟨Nat.zero_le _, Nat.zero_le _⟩) hP hD hS hA [1] [0, 2, 3] rfl rfl (by decide) (by decide) (fun H locs hP hD hS => ?_)
  have hP : va_P (dC, dI) vwCl [(h, .inr (3, [.ref a])), (a, .inl (cI, 32, .inl (nf (fiN b 0 32)))), (hr, .inr (1, [.ref ar, .int (nI n)])), (ar, .inl (cI, 255, .inl (nf v)))] H := hP.sub [0, 3, 1, 2] rfl
  have hD : va_D A [(h, .inr (3, [.ref a])), (a, .inl (cI, 32, .inl (nf (fiN b 0 32)))), (hr, .inr (1, [.ref ar, .int (nI n)])), (ar, .inl (cI, 255, .inl (nf v)))] := hD.sub [0, 3, 1, 2] (by decide) rfl
  refine lv_aload_n hx hb d_Pt_build_8 rfl (lv_at hl 0 rfl) ?_
  refine lv_iconst (v := nI 0) hx hb d_Pt_build_9 (by decide) ?_
  refine lv_iload_n hx hb d_Pt_build_10 rfl (lv_at hl 2 rfl) ?_
  refine lv_aload_n hx hb d_Pt_build_11 rfl (lv_at hl 1 rfl) ?_
  refine mk_r1 (W.runV (As := []) (rest := [.int (nI q), .int (nI 0), .ref h]) S (c_Ro_parts l dC dI cI hr ar n v (by first | assumption | omega)) (gV 0 hts k_424 k_162 k_163 k_25 k_164 (by decide +kernel) ⟨Nat.le_of_ble_eq_true rfl, Nat.le_of_ble_eq_true rfl⟩) (mk_vR hP hK hT hS [2, 3] rfl (q0 := 2) (ci := 1) rfl rfl) rfl rfl hl.1 rfl (lv_room (Nat.le_of_ble_eq_true rfl)) d_Pt_build_12 ⟨Nat.zero_le _, Nat.zero_le _⟩) ?_
  have b_1 := pnN_le (show n ≤ 255 by omega)
  refine lv_icmp_ne (tgt := 25) hx hb d_Pt_build_15 (by decide) (fun c_2 => ?_) (fun c_2 => ?_)
  · skip
    rw [nI_eq (by omega) (by omega)] at c_2
    refine lv_iload_n hx hb d_Pt_build_25 rfl (lv_at hl 2 rfl) ?_
    refine mk_w0 (wr := [(hr, .inr (1, [.ref ar, .int (nI n)])), (ar, .inl (cI, 255, .inl (nf v)))]) (W.runV (As := [.int (nI 0), .int (nI q)]) (rest := []) S ((c_Pt_set l dC dI cI h a (fiN b 0 32) 0 q (by first | assumption | omega)) _) (gV 2 hts k_425 k_427 k_7 k_27 k_428 (by decide +kernel) ⟨Nat.le_of_ble_eq_true rfl, Nat.le_of_ble_eq_true rfl⟩) (mk_vM hP hD hK hT hS hA [0, 1] rfl rfl (by decide) (q0 := 0) (ci := 3) rfl rfl) rfl rfl hl.1 rfl (lv_room (Nat.le_of_ble_eq_true rfl)) d_Pt_build_26 ⟨Nat.zero_le _, Nat.zero_le _⟩) hP hD hS hA [0, 1] [2, 3] rfl rfl (by decide) (by decide) (fun H locs hP hD hS => ?_)
    have hP : va_P (dC, dI) vwCl [(h, .inr (3, [.ref a])), (a, .inl (cI, 32, .inl (nf (uN (fiN b 0 32) 0 q)))), (hr, .inr (1, [.ref ar, .int (nI n)])), (ar, .inl (cI, 255, .inl (nf v)))] H := hP.sub [2, 3, 0, 1] rfl
    have hD : va_D A [(h, .inr (3, [.ref a])), (a, .inl (cI, 32, .inl (nf (uN (fiN b 0 32) 0 q)))), (hr, .inr (1, [.ref ar, .int (nI n)])), (ar, .inl (cI, 255, .inl (nf v)))] := hD.sub [2, 3, 0, 1] (by decide) rfl
    refine lv_aload_n hx hb d_Pt_build_29 rfl (lv_at hl 0 rfl) ?_
    refine lv_bipush (v := nI 11) hx hb d_Pt_build_30 (by decide) ?_
    refine lv_bipush (v := nI 15) hx hb d_Pt_build_32 (by decide) ?_
    refine mk_w0 (wr := [(hr, .inr (1, [.ref ar, .int (nI n)])), (ar, .inl (cI, 255, .inl (nf v)))]) (W.runV (As := [.int (nI 11), .int (nI 15)]) (rest := []) S ((c_Pt_set l dC dI cI h a (uN (fiN b 0 32) 0 q) 11 15 (by first | assumption | omega)) _) (gV 2 hts k_425 k_427 k_7 k_27 k_428 (by decide +kernel) ⟨Nat.le_of_ble_eq_true rfl, Nat.le_of_ble_eq_true rfl⟩) (mk_vM hP hD hK hT hS hA [0, 1] rfl rfl (by decide) (q0 := 0) (ci := 3) rfl rfl) rfl rfl hl.1 rfl (lv_room (Nat.le_of_ble_eq_true rfl)) d_Pt_build_34 ⟨Nat.zero_le _, Nat.zero_le _⟩) hP hD hS hA [0, 1] [2, 3] rfl rfl (by decide) (by decide) (fun H locs hP hD hS => ?_)
    have hP : va_P (dC, dI) vwCl [(h, .inr (3, [.ref a])), (a, .inl (cI, 32, .inl (nf (uN (uN (fiN b 0 32) 0 q) 11 15)))), (hr, .inr (1, [.ref ar, .int (nI n)])), (ar, .inl (cI, 255, .inl (nf v)))] H := hP.sub [2, 3, 0, 1] rfl
    have hD : va_D A [(h, .inr (3, [.ref a])), (a, .inl (cI, 32, .inl (nf (uN (uN (fiN b 0 32) 0 q) 11 15)))), (hr, .inr (1, [.ref ar, .int (nI n)])), (ar, .inl (cI, 255, .inl (nf v)))] := hD.sub [2, 3, 0, 1] (by decide) rfl
    refine lv_aload_n hx hb d_Pt_build_37 rfl (lv_at hl 0 rfl) ?_
    refine lv_bipush (v := nI 13) hx hb d_Pt_build_38 (by decide) ?_
    refine lv_iload_n hx hb d_Pt_build_40 rfl (lv_at hl 3 rfl) ?_
    refine mk_w0 (wr := [(hr, .inr (1, [.ref ar, .int (nI n)])), (ar, .inl (cI, 255, .inl (nf v)))]) (W.runV (As := [.int (nI 13), .int (nI su)]) (rest := []) S ((c_Pt_set l dC dI cI h a (uN (uN (fiN b 0 32) 0 q) 11 15) 13 su (by first | assumption | omega)) _) (gV 2 hts k_425 k_427 k_7 k_27 k_428 (by decide +kernel) ⟨Nat.le_of_ble_eq_true rfl, Nat.le_of_ble_eq_true rfl⟩) (mk_vM hP hD hK hT hS hA [0, 1] rfl rfl (by decide) (q0 := 0) (ci := 3) rfl rfl) rfl rfl hl.1 rfl (lv_room (Nat.le_of_ble_eq_true rfl)) d_Pt_build_41 ⟨Nat.zero_le _, Nat.zero_le _⟩) hP hD hS hA [0, 1] [2, 3] rfl rfl (by decide) (by decide) (fun H locs hP hD hS => ?_)
    have hP : va_P (dC, dI) vwCl [(h, .inr (3, [.ref a])), (a, .inl (cI, 32, .inl (nf (uN (uN (uN (fiN b 0 32) 0 q) 11 15) 13 su)))), (hr, .inr (1, [.ref ar, .int (nI n)])), (ar, .inl (cI, 255, .inl (nf v)))] H := hP.sub [2, 3, 0, 1] rfl
    have hD : va_D A [(h, .inr (3, [.ref a])), (a, .inl (cI, 32, .inl (nf (uN (uN (uN (fiN b 0 32) 0 q) 11 15) 13 su)))), (hr, .inr (1, [.ref ar, .int (nI n)])), (ar, .inl (cI, 255, .inl (nf v)))] := hD.sub [2, 3, 0, 1] (by decide) rfl
    refine lv_iconst (v := nI 0) hx hb d_Pt_build_44 (by decide) ?_
    refine lv_istore (lv' := [(4, .int (nI 0)), (0, .ref h), (1, .ref hr), (2, .int (nI q)), (3, .int (nI su))]) hx hb d_Pt_build_45 hl (by decide) rfl (fun ls hl => ?_)
    have lp47 : ∀ (k : Nat) (i : Nat) (H : Heap) (locs : List Loc) (ls : Array Slot), (i + k = 13) → va_P (dC, dI) vwCl [(h, .inr (3, [.ref a])), (a, .inl (cI, 32, .inl (nf (bdL v n q (uN (uN (uN (fiN b 0 32) 0 (if q = pnN n then q + 64 else q)) 11 15) 13 su) i)))), (hr, .inr (1, [.ref ar, .int (nI n)])), (ar, .inl (cI, 255, .inl (nf v)))] H → va_D A [(h, .inr (3, [.ref a])), (a, .inl (cI, 32, .inl (nf (bdL v n q (uN (uN (uN (fiN b 0 32) 0 (if q = pnN n then q + 64 else q)) 11 15) 13 su) i)))), (hr, .inr (1, [.ref ar, .int (nI n)])), (ar, .inl (cI, 255, .inl (nf v)))] → va_S A s.heap H locs → lv_has ls 6 [(0, .ref h), (1, .ref hr), (2, .int (nI q)), (4, .int (nI i))] → W p l e ({ frames := 2, cells := 0, slots := 0, locals := 42 } : Room) s m ([.ref h, .ref hr, .int (nI q), .int (nI su)] : List Value).toArray below meth c H locs 0 0 Q (F0 m 47 ls []) := by
      intro k
      induction k with
      | zero =>
        intro i H locs ls hi hP hD hS hl
        refine lv_iload hx hb d_Pt_build_47 (lv_at hl 3 rfl) ?_
        refine lv_bipush (v := nI 13) hx hb d_Pt_build_49 (by decide) ?_
        refine lv_icmp_ge (tgt := 106) hx hb d_Pt_build_51 (by decide) (fun c_3 => ?_) (fun c_3 => ?_)
        · skip
          rw [nI_leI (by omega) (by omega)] at c_3
          have hw9 : ([(h, .inr (3, [.ref a])), (a, .inl (cI, 32, .inl (nf (bdL v n q (uN (uN (uN (fiN b 0 32) 0 (if q = pnN n then q + 64 else q)) 11 15) 13 su) i)))), (hr, .inr (1, [.ref ar, .int (nI n)])), (ar, .inl (cI, 255, .inl (nf v)))] : va_W) = [(h, .inr (3, [.ref a])), (a, .inl (cI, 32, .inl (nf (bdN v n q su b)))), (hr, .inr (1, [.ref ar, .int (nI n)])), (ar, .inl (cI, 255, .inl (nf v)))] := by rw [show i = 13 by omega]; rfl
          rw [hw9] at hP hD
          exact hret _ _ _ _ d_Pt_build_106 hP hD hS
        · skip
          rw [nI_leI (by omega) (by omega)] at c_3
          first | omega | contradiction
      | succ k ih47 =>
        intro i H locs ls hi hP hD hS hl
        refine lv_iload hx hb d_Pt_build_47 (lv_at hl 3 rfl) ?_
        refine lv_bipush (v := nI 13) hx hb d_Pt_build_49 (by decide) ?_
        refine lv_icmp_ge (tgt := 106) hx hb d_Pt_build_51 (by decide) (fun c_4 => ?_) (fun c_4 => ?_)
        · skip
          rw [nI_leI (by omega) (by omega)] at c_4
          first | omega | contradiction
        · skip
          rw [nI_leI (by omega) (by omega)] at c_4
          refine lv_aload_n hx hb d_Pt_build_54 rfl (lv_at hl 1 rfl) ?_
          refine lv_bipush (v := nI 13) hx hb d_Pt_build_55 (by decide) ?_
          refine lv_iload_n hx hb d_Pt_build_57 rfl (lv_at hl 2 rfl) ?_
          refine lv_iconst (v := nI 1) hx hb d_Pt_build_58 (by decide) ?_
          refine lv_isub hx hb d_Pt_build_59 ?_
          refine mk_ti (y := nI (q - 1)) (pk_sub (by omega)) ?_
          refine lv_imul hx hb d_Pt_build_60 ?_
          refine mk_ti (y := nI (13 * (q - 1))) (pk_mul 13 (q - 1)) ?_
          refine lv_iload hx hb d_Pt_build_61 (lv_at hl 3 rfl) ?_
          refine lv_iadd hx hb d_Pt_build_63 ?_
          refine mk_ti (y := nI (13 * (q - 1) + i)) (nI_add (13 * (q - 1)) i) ?_
          refine mk_r1 (W.runS (As := [.ref hr, .int (nI (13 * (q - 1) + i))]) (rest := []) S (c_Pt_uf l dC dI cI hr ar n v (13 * (q - 1) + i) (by first | assumption | omega) (by first | assumption | omega) (by first | assumption | omega)) (gS 2 hts k_429 k_430 k_27 k_431 (by decide +kernel) ⟨Nat.le_of_ble_eq_true rfl, Nat.le_of_ble_eq_true rfl⟩) (mk_sR hP hK hT hS [2, 3] rfl) rfl rfl hl.1 rfl (lv_room (Nat.le_of_ble_eq_true rfl)) d_Pt_build_64 ⟨Nat.zero_le _, Nat.zero_le _⟩) ?_
          have b_5 := ufN_lt n (13 * (q - 1) + i) (show ∀ j9, v j9 < 65536 by assumption)
          refine lv_istore (lv' := [(5, .int (nI (ufN v n (13 * (q - 1) + i)))), (0, .ref h), (1, .ref hr), (2, .int (nI q)), (4, .int (nI i))]) hx hb d_Pt_build_67 hl (by decide) rfl (fun ls hl => ?_)
          refine lv_aload_n hx hb d_Pt_build_69 rfl (lv_at hl 1 rfl) ?_
          refine lv_iload hx hb d_Pt_build_70 (lv_at hl 4 rfl) ?_
          refine mk_r1 (W.runS (As := [.int (nI i)]) (rest := [.ref h]) S (c_Pt_place l dC dI cI i (by first | assumption | omega)) (gS 1 hts k_435 k_436 k_27 k_437 (by decide +kernel) ⟨Nat.le_of_ble_eq_true rfl, Nat.le_of_ble_eq_true rfl⟩) (mk_sR hP hK hT hS [] rfl) rfl rfl hl.1 rfl (lv_room (Nat.le_of_ble_eq_true rfl)) d_Pt_build_72 ⟨Nat.zero_le _, Nat.zero_le _⟩) ?_
          have b_6 := plN_le (show i < 13 by omega)
          refine lv_iload hx hb d_Pt_build_75 (lv_at hl 0 rfl) ?_
          refine lv_sipush (v := nI 255) hx hb d_Pt_build_77 (by decide) ?_
          refine lv_iand hx hb d_Pt_build_80 ?_
          refine mk_ti (y := nI ((ufN v n (13 * (q - 1) + i)) % 2 ^ 8)) (pk_andN (by omega) 8 (by decide)) ?_
          refine mk_w0 (wr := [(hr, .inr (1, [.ref ar, .int (nI n)])), (ar, .inl (cI, 255, .inl (nf v)))]) (W.runV (As := [.int (nI (plN i)), .int (nI ((ufN v n (13 * (q - 1) + i)) % 2 ^ 8))]) (rest := []) S ((c_Pt_set l dC dI cI h a (bdL v n q (uN (uN (uN (fiN b 0 32) 0 (if q = pnN n then q + 64 else q)) 11 15) 13 su) i) (plN i) ((ufN v n (13 * (q - 1) + i)) % 2 ^ 8) (by first | assumption | omega)) _) (gV 2 hts k_425 k_427 k_7 k_27 k_428 (by decide +kernel) ⟨Nat.le_of_ble_eq_true rfl, Nat.le_of_ble_eq_true rfl⟩) (mk_vM hP hD hK hT hS hA [0, 1] rfl rfl (by decide) (q0 := 0) (ci := 3) rfl rfl) rfl rfl hl.1 rfl (lv_room (Nat.le_of_ble_eq_true rfl)) d_Pt_build_81 ⟨Nat.zero_le _, Nat.zero_le _⟩) hP hD hS hA [0, 1] [2, 3] rfl rfl (by decide) (by decide) (fun H locs hP hD hS => ?_)
          have hP : va_P (dC, dI) vwCl [(h, .inr (3, [.ref a])), (a, .inl (cI, 32, .inl (nf (uN (bdL v n q (uN (uN (uN (fiN b 0 32) 0 (if q = pnN n then q + 64 else q)) 11 15) 13 su) i) (plN i) ((ufN v n (13 * (q - 1) + i)) % 2 ^ 8))))), (hr, .inr (1, [.ref ar, .int (nI n)])), (ar, .inl (cI, 255, .inl (nf v)))] H := hP.sub [2, 3, 0, 1] rfl
          have hD : va_D A [(h, .inr (3, [.ref a])), (a, .inl (cI, 32, .inl (nf (uN (bdL v n q (uN (uN (uN (fiN b 0 32) 0 (if q = pnN n then q + 64 else q)) 11 15) 13 su) i) (plN i) ((ufN v n (13 * (q - 1) + i)) % 2 ^ 8))))), (hr, .inr (1, [.ref ar, .int (nI n)])), (ar, .inl (cI, 255, .inl (nf v)))] := hD.sub [2, 3, 0, 1] (by decide) rfl
          refine lv_aload_n hx hb d_Pt_build_84 rfl (lv_at hl 1 rfl) ?_
          refine lv_iload hx hb d_Pt_build_85 (lv_at hl 4 rfl) ?_
          refine mk_r1 (W.runS (As := [.int (nI i)]) (rest := [.ref h]) S (c_Pt_place l dC dI cI i (by first | assumption | omega)) (gS 1 hts k_435 k_436 k_27 k_437 (by decide +kernel) ⟨Nat.le_of_ble_eq_true rfl, Nat.le_of_ble_eq_true rfl⟩) (mk_sR hP hK hT hS [] rfl) rfl rfl hl.1 rfl (lv_room (Nat.le_of_ble_eq_true rfl)) d_Pt_build_87 ⟨Nat.zero_le _, Nat.zero_le _⟩) ?_
          have b_7 := plN_le (show i < 13 by omega)
          refine lv_iconst (v := nI 1) hx hb d_Pt_build_90 (by decide) ?_
          refine lv_iadd hx hb d_Pt_build_91 ?_
          refine mk_ti (y := nI (plN i + 1)) (nI_add (plN i) 1) ?_
          refine lv_iload hx hb d_Pt_build_92 (lv_at hl 0 rfl) ?_
          refine lv_bipush (v := nI 8) hx hb d_Pt_build_94 (by decide) ?_
          refine lv_ishr hx hb d_Pt_build_96 ?_
          refine mk_ti (y := nI ((ufN v n (13 * (q - 1) + i)) / 2 ^ 8)) (pk_shrN (by omega) _ 8 (by decide)) ?_
          refine mk_w0 (wr := [(hr, .inr (1, [.ref ar, .int (nI n)])), (ar, .inl (cI, 255, .inl (nf v)))]) (W.runV (As := [.int (nI (plN i + 1)), .int (nI ((ufN v n (13 * (q - 1) + i)) / 2 ^ 8))]) (rest := []) S ((c_Pt_set l dC dI cI h a (uN (bdL v n q (uN (uN (uN (fiN b 0 32) 0 (if q = pnN n then q + 64 else q)) 11 15) 13 su) i) (plN i) ((ufN v n (13 * (q - 1) + i)) % 2 ^ 8)) (plN i + 1) ((ufN v n (13 * (q - 1) + i)) / 2 ^ 8) (by first | assumption | omega)) _) (gV 2 hts k_425 k_427 k_7 k_27 k_428 (by decide +kernel) ⟨Nat.le_of_ble_eq_true rfl, Nat.le_of_ble_eq_true rfl⟩) (mk_vM hP hD hK hT hS hA [0, 1] rfl rfl (by decide) (q0 := 0) (ci := 3) rfl rfl) rfl rfl hl.1 rfl (lv_room (Nat.le_of_ble_eq_true rfl)) d_Pt_build_97 ⟨Nat.zero_le _, Nat.zero_le _⟩) hP hD hS hA [0, 1] [2, 3] rfl rfl (by decide) (by decide) (fun H locs hP hD hS => ?_)
          have hP : va_P (dC, dI) vwCl [(h, .inr (3, [.ref a])), (a, .inl (cI, 32, .inl (nf (uN (uN (bdL v n q (uN (uN (uN (fiN b 0 32) 0 (if q = pnN n then q + 64 else q)) 11 15) 13 su) i) (plN i) ((ufN v n (13 * (q - 1) + i)) % 2 ^ 8)) (plN i + 1) ((ufN v n (13 * (q - 1) + i)) / 2 ^ 8))))), (hr, .inr (1, [.ref ar, .int (nI n)])), (ar, .inl (cI, 255, .inl (nf v)))] H := hP.sub [2, 3, 0, 1] rfl
          have hD : va_D A [(h, .inr (3, [.ref a])), (a, .inl (cI, 32, .inl (nf (uN (uN (bdL v n q (uN (uN (uN (fiN b 0 32) 0 (if q = pnN n then q + 64 else q)) 11 15) 13 su) i) (plN i) ((ufN v n (13 * (q - 1) + i)) % 2 ^ 8)) (plN i + 1) ((ufN v n (13 * (q - 1) + i)) / 2 ^ 8))))), (hr, .inr (1, [.ref ar, .int (nI n)])), (ar, .inl (cI, 255, .inl (nf v)))] := hD.sub [2, 3, 0, 1] (by decide) rfl
          refine lv_iinc (v := nI (i + 1)) (lv' := [(4, .int (nI (i + 1))), (5, .int (nI (ufN v n (13 * (q - 1) + i)))), (0, .ref h), (1, .ref hr), (2, .int (nI q))]) hx hb d_Pt_build_100 hl (k := 4) rfl (mk_i1 i) (by decide) rfl (fun ls hl => ?_)
          refine lv_goto (tgt := 47) hx hb d_Pt_build_103 (by decide) ?_
          have hl : lv_has ls 6 [(0, .ref h), (1, .ref hr), (2, .int (nI q)), (4, .int (nI (i + 1)))] := lv_sub hl [2, 3, 4, 0] rfl
          have hw9 : ([(h, .inr (3, [.ref a])), (a, .inl (cI, 32, .inl (nf (uN (uN (bdL v n q (uN (uN (uN (fiN b 0 32) 0 (if q = pnN n then q + 64 else q)) 11 15) 13 su) i) (plN i) ((ufN v n (13 * (q - 1) + i)) % 2 ^ 8)) (plN i + 1) ((ufN v n (13 * (q - 1) + i)) / 2 ^ 8))))), (hr, .inr (1, [.ref ar, .int (nI n)])), (ar, .inl (cI, 255, .inl (nf v)))] : va_W) = [(h, .inr (3, [.ref a])), (a, .inl (cI, 32, .inl (nf (bdL v n q (uN (uN (uN (fiN b 0 32) 0 (if q = pnN n then q + 64 else q)) 11 15) 13 su) (i + 1))))), (hr, .inr (1, [.ref ar, .int (nI n)])), (ar, .inl (cI, 255, .inl (nf v)))] := by rfl
          rw [hw9] at hP hD
          exact ih47 (i + 1) _ _ _ (by omega) hP hD hS hl
    have hl : lv_has ls 6 [(0, .ref h), (1, .ref hr), (2, .int (nI q)), (4, .int (nI 0))] := lv_sub hl [1, 2, 3, 0] rfl
    have hw9 : ([(h, .inr (3, [.ref a])), (a, .inl (cI, 32, .inl (nf (uN (uN (uN (fiN b 0 32) 0 q) 11 15) 13 su)))), (hr, .inr (1, [.ref ar, .int (nI n)])), (ar, .inl (cI, 255, .inl (nf v)))] : va_W) = [(h, .inr (3, [.ref a])), (a, .inl (cI, 32, .inl (nf (bdL v n q (uN (uN (uN (fiN b 0 32) 0 (if q = pnN n then q + 64 else q)) 11 15) 13 su) 0)))), (hr, .inr (1, [.ref ar, .int (nI n)])), (ar, .inl (cI, 255, .inl (nf v)))] := by first | rw [bdL, if_pos (by assumption)] | rw [bdL, if_neg (by assumption)]
    rw [hw9] at hP hD
    exact lp47 13 0 _ _ _ rfl hP hD hS hl
  · skip
    rw [nI_eq (by omega) (by omega)] at c_2
    refine lv_iload_n hx hb d_Pt_build_18 rfl (lv_at hl 2 rfl) ?_
    refine lv_bipush (v := nI 64) hx hb d_Pt_build_19 (by decide) ?_
    refine lv_iadd hx hb d_Pt_build_21 ?_
    refine mk_ti (y := nI (q + 64)) (nI_add q 64) ?_
    refine lv_goto (tgt := 26) hx hb d_Pt_build_22 (by decide) ?_
    refine mk_w0 (wr := [(hr, .inr (1, [.ref ar, .int (nI n)])), (ar, .inl (cI, 255, .inl (nf v)))]) (W.runV (As := [.int (nI 0), .int (nI (q + 64))]) (rest := []) S ((c_Pt_set l dC dI cI h a (fiN b 0 32) 0 (q + 64) (by first | assumption | omega)) _) (gV 2 hts k_425 k_427 k_7 k_27 k_428 (by decide +kernel) ⟨Nat.le_of_ble_eq_true rfl, Nat.le_of_ble_eq_true rfl⟩) (mk_vM hP hD hK hT hS hA [0, 1] rfl rfl (by decide) (q0 := 0) (ci := 3) rfl rfl) rfl rfl hl.1 rfl (lv_room (Nat.le_of_ble_eq_true rfl)) d_Pt_build_26 ⟨Nat.zero_le _, Nat.zero_le _⟩) hP hD hS hA [0, 1] [2, 3] rfl rfl (by decide) (by decide) (fun H locs hP hD hS => ?_)
    have hP : va_P (dC, dI) vwCl [(h, .inr (3, [.ref a])), (a, .inl (cI, 32, .inl (nf (uN (fiN b 0 32) 0 (q + 64))))), (hr, .inr (1, [.ref ar, .int (nI n)])), (ar, .inl (cI, 255, .inl (nf v)))] H := hP.sub [2, 3, 0, 1] rfl
    have hD : va_D A [(h, .inr (3, [.ref a])), (a, .inl (cI, 32, .inl (nf (uN (fiN b 0 32) 0 (q + 64))))), (hr, .inr (1, [.ref ar, .int (nI n)])), (ar, .inl (cI, 255, .inl (nf v)))] := hD.sub [2, 3, 0, 1] (by decide) rfl
    refine lv_aload_n hx hb d_Pt_build_29 rfl (lv_at hl 0 rfl) ?_
    refine lv_bipush (v := nI 11) hx hb d_Pt_build_30 (by decide) ?_
    refine lv_bipush (v := nI 15) hx hb d_Pt_build_32 (by decide) ?_
    refine mk_w0 (wr := [(hr, .inr (1, [.ref ar, .int (nI n)])), (ar, .inl (cI, 255, .inl (nf v)))]) (W.runV (As := [.int (nI 11), .int (nI 15)]) (rest := []) S ((c_Pt_set l dC dI cI h a (uN (fiN b 0 32) 0 (q + 64)) 11 15 (by first | assumption | omega)) _) (gV 2 hts k_425 k_427 k_7 k_27 k_428 (by decide +kernel) ⟨Nat.le_of_ble_eq_true rfl, Nat.le_of_ble_eq_true rfl⟩) (mk_vM hP hD hK hT hS hA [0, 1] rfl rfl (by decide) (q0 := 0) (ci := 3) rfl rfl) rfl rfl hl.1 rfl (lv_room (Nat.le_of_ble_eq_true rfl)) d_Pt_build_34 ⟨Nat.zero_le _, Nat.zero_le _⟩) hP hD hS hA [0, 1] [2, 3] rfl rfl (by decide) (by decide) (fun H locs hP hD hS => ?_)
    have hP : va_P (dC, dI) vwCl [(h, .inr (3, [.ref a])), (a, .inl (cI, 32, .inl (nf (uN (uN (fiN b 0 32) 0 (q + 64)) 11 15)))), (hr, .inr (1, [.ref ar, .int (nI n)])), (ar, .inl (cI, 255, .inl (nf v)))] H := hP.sub [2, 3, 0, 1] rfl
    have hD : va_D A [(h, .inr (3, [.ref a])), (a, .inl (cI, 32, .inl (nf (uN (uN (fiN b 0 32) 0 (q + 64)) 11 15)))), (hr, .inr (1, [.ref ar, .int (nI n)])), (ar, .inl (cI, 255, .inl (nf v)))] := hD.sub [2, 3, 0, 1] (by decide) rfl
    refine lv_aload_n hx hb d_Pt_build_37 rfl (lv_at hl 0 rfl) ?_
    refine lv_bipush (v := nI 13) hx hb d_Pt_build_38 (by decide) ?_
    refine lv_iload_n hx hb d_Pt_build_40 rfl (lv_at hl 3 rfl) ?_
    refine mk_w0 (wr := [(hr, .inr (1, [.ref ar, .int (nI n)])), (ar, .inl (cI, 255, .inl (nf v)))]) (W.runV (As := [.int (nI 13), .int (nI su)]) (rest := []) S ((c_Pt_set l dC dI cI h a (uN (uN (fiN b 0 32) 0 (q + 64)) 11 15) 13 su (by first | assumption | omega)) _) (gV 2 hts k_425 k_427 k_7 k_27 k_428 (by decide +kernel) ⟨Nat.le_of_ble_eq_true rfl, Nat.le_of_ble_eq_true rfl⟩) (mk_vM hP hD hK hT hS hA [0, 1] rfl rfl (by decide) (q0 := 0) (ci := 3) rfl rfl) rfl rfl hl.1 rfl (lv_room (Nat.le_of_ble_eq_true rfl)) d_Pt_build_41 ⟨Nat.zero_le _, Nat.zero_le _⟩) hP hD hS hA [0, 1] [2, 3] rfl rfl (by decide) (by decide) (fun H locs hP hD hS => ?_)
    have hP : va_P (dC, dI) vwCl [(h, .inr (3, [.ref a])), (a, .inl (cI, 32, .inl (nf (uN (uN (uN (fiN b 0 32) 0 (q + 64)) 11 15) 13 su)))), (hr, .inr (1, [.ref ar, .int (nI n)])), (ar, .inl (cI, 255, .inl (nf v)))] H := hP.sub [2, 3, 0, 1] rfl
    have hD : va_D A [(h, .inr (3, [.ref a])), (a, .inl (cI, 32, .inl (nf (uN (uN (uN (fiN b 0 32) 0 (q + 64)) 11 15) 13 su)))), (hr, .inr (1, [.ref ar, .int (nI n)])), (ar, .inl (cI, 255, .inl (nf v)))] := hD.sub [2, 3, 0, 1] (by decide) rfl
    refine lv_iconst (v := nI 0) hx hb d_Pt_build_44 (by decide) ?_
    refine lv_istore (lv' := [(4, .int (nI 0)), (0, .ref h), (1, .ref hr), (2, .int (nI q)), (3, .int (nI su))]) hx hb d_Pt_build_45 hl (by decide) rfl (fun ls hl => ?_)
    have lp47 : ∀ (k : Nat) (i : Nat) (H : Heap) (locs : List Loc) (ls : Array Slot), (i + k = 13) → va_P (dC, dI) vwCl [(h, .inr (3, [.ref a])), (a, .inl (cI, 32, .inl (nf (bdL v n q (uN (uN (uN (fiN b 0 32) 0 (if q = pnN n then q + 64 else q)) 11 15) 13 su) i)))), (hr, .inr (1, [.ref ar, .int (nI n)])), (ar, .inl (cI, 255, .inl (nf v)))] H → va_D A [(h, .inr (3, [.ref a])), (a, .inl (cI, 32, .inl (nf (bdL v n q (uN (uN (uN (fiN b 0 32) 0 (if q = pnN n then q + 64 else q)) 11 15) 13 su) i)))), (hr, .inr (1, [.ref ar, .int (nI n)])), (ar, .inl (cI, 255, .inl (nf v)))] → va_S A s.heap H locs → lv_has ls 6 [(0, .ref h), (1, .ref hr), (2, .int (nI q)), (4, .int (nI i))] → W p l e ({ frames := 2, cells := 0, slots := 0, locals := 42 } : Room) s m ([.ref h, .ref hr, .int (nI q), .int (nI su)] : List Value).toArray below meth c H locs 0 0 Q (F0 m 47 ls []) := by
      intro k
      induction k with
      | zero =>
        intro i H locs ls hi hP hD hS hl
        refine lv_iload hx hb d_Pt_build_47 (lv_at hl 3 rfl) ?_
        refine lv_bipush (v := nI 13) hx hb d_Pt_build_49 (by decide) ?_
        refine lv_icmp_ge (tgt := 106) hx hb d_Pt_build_51 (by decide) (fun c_8 => ?_) (fun c_8 => ?_)
        · skip
          rw [nI_leI (by omega) (by omega)] at c_8
          have hw9 : ([(h, .inr (3, [.ref a])), (a, .inl (cI, 32, .inl (nf (bdL v n q (uN (uN (uN (fiN b 0 32) 0 (if q = pnN n then q + 64 else q)) 11 15) 13 su) i)))), (hr, .inr (1, [.ref ar, .int (nI n)])), (ar, .inl (cI, 255, .inl (nf v)))] : va_W) = [(h, .inr (3, [.ref a])), (a, .inl (cI, 32, .inl (nf (bdN v n q su b)))), (hr, .inr (1, [.ref ar, .int (nI n)])), (ar, .inl (cI, 255, .inl (nf v)))] := by rw [show i = 13 by omega]; rfl
          rw [hw9] at hP hD
          exact hret _ _ _ _ d_Pt_build_106 hP hD hS
        · skip
          rw [nI_leI (by omega) (by omega)] at c_8
          first | omega | contradiction
      | succ k ih47 =>
        intro i H locs ls hi hP hD hS hl
        refine lv_iload hx hb d_Pt_build_47 (lv_at hl 3 rfl) ?_
        refine lv_bipush (v := nI 13) hx hb d_Pt_build_49 (by decide) ?_
        refine lv_icmp_ge (tgt := 106) hx hb d_Pt_build_51 (by decide) (fun c_9 => ?_) (fun c_9 => ?_)
        · skip
          rw [nI_leI (by omega) (by omega)] at c_9
          first | omega | contradiction
        · skip
          rw [nI_leI (by omega) (by omega)] at c_9
          refine lv_aload_n hx hb d_Pt_build_54 rfl (lv_at hl 1 rfl) ?_
          refine lv_bipush (v := nI 13) hx hb d_Pt_build_55 (by decide) ?_
          refine lv_iload_n hx hb d_Pt_build_57 rfl (lv_at hl 2 rfl) ?_
          refine lv_iconst (v := nI 1) hx hb d_Pt_build_58 (by decide) ?_
          refine lv_isub hx hb d_Pt_build_59 ?_
          refine mk_ti (y := nI (q - 1)) (pk_sub (by omega)) ?_
          refine lv_imul hx hb d_Pt_build_60 ?_
          refine mk_ti (y := nI (13 * (q - 1))) (pk_mul 13 (q - 1)) ?_
          refine lv_iload hx hb d_Pt_build_61 (lv_at hl 3 rfl) ?_
          refine lv_iadd hx hb d_Pt_build_63 ?_
          refine mk_ti (y := nI (13 * (q - 1) + i)) (nI_add (13 * (q - 1)) i) ?_
          refine mk_r1 (W.runS (As := [.ref hr, .int (nI (13 * (q - 1) + i))]) (rest := []) S (c_Pt_uf l dC dI cI hr ar n v (13 * (q - 1) + i) (by first | assumption | omega) (by first | assumption | omega) (by first | assumption | omega)) (gS 2 hts k_429 k_430 k_27 k_431 (by decide +kernel) ⟨Nat.le_of_ble_eq_true rfl, Nat.le_of_ble_eq_true rfl⟩) (mk_sR hP hK hT hS [2, 3] rfl) rfl rfl hl.1 rfl (lv_room (Nat.le_of_ble_eq_true rfl)) d_Pt_build_64 ⟨Nat.zero_le _, Nat.zero_le _⟩) ?_
          have b_10 := ufN_lt n (13 * (q - 1) + i) (show ∀ j9, v j9 < 65536 by assumption)
          refine lv_istore (lv' := [(5, .int (nI (ufN v n (13 * (q - 1) + i)))), (0, .ref h), (1, .ref hr), (2, .int (nI q)), (4, .int (nI i))]) hx hb d_Pt_build_67 hl (by decide) rfl (fun ls hl => ?_)
          refine lv_aload_n hx hb d_Pt_build_69 rfl (lv_at hl 1 rfl) ?_
          refine lv_iload hx hb d_Pt_build_70 (lv_at hl 4 rfl) ?_
          refine mk_r1 (W.runS (As := [.int (nI i)]) (rest := [.ref h]) S (c_Pt_place l dC dI cI i (by first | assumption | omega)) (gS 1 hts k_435 k_436 k_27 k_437 (by decide +kernel) ⟨Nat.le_of_ble_eq_true rfl, Nat.le_of_ble_eq_true rfl⟩) (mk_sR hP hK hT hS [] rfl) rfl rfl hl.1 rfl (lv_room (Nat.le_of_ble_eq_true rfl)) d_Pt_build_72 ⟨Nat.zero_le _, Nat.zero_le _⟩) ?_
          have b_11 := plN_le (show i < 13 by omega)
          refine lv_iload hx hb d_Pt_build_75 (lv_at hl 0 rfl) ?_
          refine lv_sipush (v := nI 255) hx hb d_Pt_build_77 (by decide) ?_
          refine lv_iand hx hb d_Pt_build_80 ?_
          refine mk_ti (y := nI ((ufN v n (13 * (q - 1) + i)) % 2 ^ 8)) (pk_andN (by omega) 8 (by decide)) ?_
          refine mk_w0 (wr := [(hr, .inr (1, [.ref ar, .int (nI n)])), (ar, .inl (cI, 255, .inl (nf v)))]) (W.runV (As := [.int (nI (plN i)), .int (nI ((ufN v n (13 * (q - 1) + i)) % 2 ^ 8))]) (rest := []) S ((c_Pt_set l dC dI cI h a (bdL v n q (uN (uN (uN (fiN b 0 32) 0 (if q = pnN n then q + 64 else q)) 11 15) 13 su) i) (plN i) ((ufN v n (13 * (q - 1) + i)) % 2 ^ 8) (by first | assumption | omega)) _) (gV 2 hts k_425 k_427 k_7 k_27 k_428 (by decide +kernel) ⟨Nat.le_of_ble_eq_true rfl, Nat.le_of_ble_eq_true rfl⟩) (mk_vM hP hD hK hT hS hA [0, 1] rfl rfl (by decide) (q0 := 0) (ci := 3) rfl rfl) rfl rfl hl.1 rfl (lv_room (Nat.le_of_ble_eq_true rfl)) d_Pt_build_81 ⟨Nat.zero_le _, Nat.zero_le _⟩) hP hD hS hA [0, 1] [2, 3] rfl rfl (by decide) (by decide) (fun H locs hP hD hS => ?_)
          have hP : va_P (dC, dI) vwCl [(h, .inr (3, [.ref a])), (a, .inl (cI, 32, .inl (nf (uN (bdL v n q (uN (uN (uN (fiN b 0 32) 0 (if q = pnN n then q + 64 else q)) 11 15) 13 su) i) (plN i) ((ufN v n (13 * (q - 1) + i)) % 2 ^ 8))))), (hr, .inr (1, [.ref ar, .int (nI n)])), (ar, .inl (cI, 255, .inl (nf v)))] H := hP.sub [2, 3, 0, 1] rfl
          have hD : va_D A [(h, .inr (3, [.ref a])), (a, .inl (cI, 32, .inl (nf (uN (bdL v n q (uN (uN (uN (fiN b 0 32) 0 (if q = pnN n then q + 64 else q)) 11 15) 13 su) i) (plN i) ((ufN v n (13 * (q - 1) + i)) % 2 ^ 8))))), (hr, .inr (1, [.ref ar, .int (nI n)])), (ar, .inl (cI, 255, .inl (nf v)))] := hD.sub [2, 3, 0, 1] (by decide) rfl
          refine lv_aload_n hx hb d_Pt_build_84 rfl (lv_at hl 1 rfl) ?_
          refine lv_iload hx hb d_Pt_build_85 (lv_at hl 4 rfl) ?_
          refine mk_r1 (W.runS (As := [.int (nI i)]) (rest := [.ref h]) S (c_Pt_place l dC dI cI i (by first | assumption | omega)) (gS 1 hts k_435 k_436 k_27 k_437 (by decide +kernel) ⟨Nat.le_of_ble_eq_true rfl, Nat.le_of_ble_eq_true rfl⟩) (mk_sR hP hK hT hS [] rfl) rfl rfl hl.1 rfl (lv_room (Nat.le_of_ble_eq_true rfl)) d_Pt_build_87 ⟨Nat.zero_le _, Nat.zero_le _⟩) ?_
          have b_12 := plN_le (show i < 13 by omega)
          refine lv_iconst (v := nI 1) hx hb d_Pt_build_90 (by decide) ?_
          refine lv_iadd hx hb d_Pt_build_91 ?_
          refine mk_ti (y := nI (plN i + 1)) (nI_add (plN i) 1) ?_
          refine lv_iload hx hb d_Pt_build_92 (lv_at hl 0 rfl) ?_
          refine lv_bipush (v := nI 8) hx hb d_Pt_build_94 (by decide) ?_
          refine lv_ishr hx hb d_Pt_build_96 ?_
          refine mk_ti (y := nI ((ufN v n (13 * (q - 1) + i)) / 2 ^ 8)) (pk_shrN (by omega) _ 8 (by decide)) ?_
          refine mk_w0 (wr := [(hr, .inr (1, [.ref ar, .int (nI n)])), (ar, .inl (cI, 255, .inl (nf v)))]) (W.runV (As := [.int (nI (plN i + 1)), .int (nI ((ufN v n (13 * (q - 1) + i)) / 2 ^ 8))]) (rest := []) S ((c_Pt_set l dC dI cI h a (uN (bdL v n q (uN (uN (uN (fiN b 0 32) 0 (if q = pnN n then q + 64 else q)) 11 15) 13 su) i) (plN i) ((ufN v n (13 * (q - 1) + i)) % 2 ^ 8)) (plN i + 1) ((ufN v n (13 * (q - 1) + i)) / 2 ^ 8) (by first | assumption | omega)) _) (gV 2 hts k_425 k_427 k_7 k_27 k_428 (by decide +kernel) ⟨Nat.le_of_ble_eq_true rfl, Nat.le_of_ble_eq_true rfl⟩) (mk_vM hP hD hK hT hS hA [0, 1] rfl rfl (by decide) (q0 := 0) (ci := 3) rfl rfl) rfl rfl hl.1 rfl (lv_room (Nat.le_of_ble_eq_true rfl)) d_Pt_build_97 ⟨Nat.zero_le _, Nat.zero_le _⟩) hP hD hS hA [0, 1] [2, 3] rfl rfl (by decide) (by decide) (fun H locs hP hD hS => ?_)
          have hP : va_P (dC, dI) vwCl [(h, .inr (3, [.ref a])), (a, .inl (cI, 32, .inl (nf (uN (uN (bdL v n q (uN (uN (uN (fiN b 0 32) 0 (if q = pnN n then q + 64 else q)) 11 15) 13 su) i) (plN i) ((ufN v n (13 * (q - 1) + i)) % 2 ^ 8)) (plN i + 1) ((ufN v n (13 * (q - 1) + i)) / 2 ^ 8))))), (hr, .inr (1, [.ref ar, .int (nI n)])), (ar, .inl (cI, 255, .inl (nf v)))] H := hP.sub [2, 3, 0, 1] rfl
          have hD : va_D A [(h, .inr (3, [.ref a])), (a, .inl (cI, 32, .inl (nf (uN (uN (bdL v n q (uN (uN (uN (fiN b 0 32) 0 (if q = pnN n then q + 64 else q)) 11 15) 13 su) i) (plN i) ((ufN v n (13 * (q - 1) + i)) % 2 ^ 8)) (plN i + 1) ((ufN v n (13 * (q - 1) + i)) / 2 ^ 8))))), (hr, .inr (1, [.ref ar, .int (nI n)])), (ar, .inl (cI, 255, .inl (nf v)))] := hD.sub [2, 3, 0, 1] (by decide) rfl
          refine lv_iinc (v := nI (i + 1)) (lv' := [(4, .int (nI (i + 1))), (5, .int (nI (ufN v n (13 * (q - 1) + i)))), (0, .ref h), (1, .ref hr), (2, .int (nI q))]) hx hb d_Pt_build_100 hl (k := 4) rfl (mk_i1 i) (by decide) rfl (fun ls hl => ?_)
          refine lv_goto (tgt := 47) hx hb d_Pt_build_103 (by decide) ?_
          have hl : lv_has ls 6 [(0, .ref h), (1, .ref hr), (2, .int (nI q)), (4, .int (nI (i + 1)))] := lv_sub hl [2, 3, 4, 0] rfl
          have hw9 : ([(h, .inr (3, [.ref a])), (a, .inl (cI, 32, .inl (nf (uN (uN (bdL v n q (uN (uN (uN (fiN b 0 32) 0 (if q = pnN n then q + 64 else q)) 11 15) 13 su) i) (plN i) ((ufN v n (13 * (q - 1) + i)) % 2 ^ 8)) (plN i + 1) ((ufN v n (13 * (q - 1) + i)) / 2 ^ 8))))), (hr, .inr (1, [.ref ar, .int (nI n)])), (ar, .inl (cI, 255, .inl (nf v)))] : va_W) = [(h, .inr (3, [.ref a])), (a, .inl (cI, 32, .inl (nf (bdL v n q (uN (uN (uN (fiN b 0 32) 0 (if q = pnN n then q + 64 else q)) 11 15) 13 su) (i + 1))))), (hr, .inr (1, [.ref ar, .int (nI n)])), (ar, .inl (cI, 255, .inl (nf v)))] := by rfl
          rw [hw9] at hP hD
          exact ih47 (i + 1) _ _ _ (by omega) hP hD hS hl
    have hl : lv_has ls 6 [(0, .ref h), (1, .ref hr), (2, .int (nI q)), (4, .int (nI 0))] := lv_sub hl [1, 2, 3, 0] rfl
    have hw9 : ([(h, .inr (3, [.ref a])), (a, .inl (cI, 32, .inl (nf (uN (uN (uN (fiN b 0 32) 0 (q + 64)) 11 15) 13 su)))), (hr, .inr (1, [.ref ar, .int (nI n)])), (ar, .inl (cI, 255, .inl (nf v)))] : va_W) = [(h, .inr (3, [.ref a])), (a, .inl (cI, 32, .inl (nf (bdL v n q (uN (uN (uN (fiN b 0 32) 0 (if q = pnN n then q + 64 else q)) 11 15) 13 su) 0)))), (hr, .inr (1, [.ref ar, .int (nI n)])), (ar, .inl (cI, 255, .inl (nf v)))] := by first | rw [bdL, if_pos (by assumption)] | rw [bdL, if_neg (by assumption)]
    rw [hw9] at hP hD
    exact lp47 13 0 _ _ _ rfl hP hD hS hl

set_option maxHeartbeats 4000000 in
set_option maxRecDepth 100000 in
theorem c_Pt_store (l : Launch) (dC : Nat → ClassId) (dI : Nat → Nat → Nat) (cI : ClassId) (h a : Nat) (b : Nat → Nat) (hs as : Nat) (B : Nat → Nat) (q : Nat) (hb9 : ∀ j, b j < 65536) (hq : q < 32) : mM l y_Pt_storeIn w_Pt_storeIn ({ frames := 3, cells := 0, slots := 0, locals := 64 } : Room) [.ref h, .ref hs, .int (nI q)] (dC, dI) vwCl [(cI, .int)] [(h, .inr (3, [.ref a])), (a, .inl (cI, 32, .inl (nf b))), (hs, .inr (4, [.ref as])), (as, .inl (cI, 1024, .inl (nf B)))] none [(h, .inr (3, [.ref a])), (a, .inl (cI, 32, .inl (nf b))), (hs, .inr (4, [.ref as])), (as, .inl (cI, 1024, .inl (nf (stN B (moN b) (q * 32) 32))))] := by
  refine mk_Mv (cc := b_Pt_storeIn) (maxL := 4) (by decide) rfl (Nat.le_of_ble_eq_true rfl) ?_
  intro p e s m below meth c Q A ls S hP hK hT hS hl hD hA hret
  obtain ⟨hx, hb, hml, hown, hts⟩ := id S
  have hl : lv_has ls 4 [(0, .ref h), (1, .ref hs), (2, .int (nI q))] := hl
  refine lv_iconst (v := nI 0) hx hb d_Pt_storeIn_0 (by decide) ?_
  refine lv_istore_n (lv' := [(3, .int (nI 0)), (0, .ref h), (1, .ref hs), (2, .int (nI q))]) hx hb d_Pt_storeIn_1 rfl hl (by decide) rfl (fun ls hl => ?_)
  have lp2 : ∀ (k : Nat) (i : Nat) (H : Heap) (locs : List Loc) (ls : Array Slot), (i + k = 32) → va_P (dC, dI) vwCl [(h, .inr (3, [.ref a])), (a, .inl (cI, 32, .inl (nf b))), (hs, .inr (4, [.ref as])), (as, .inl (cI, 1024, .inl (nf (stN B (moN b) (q * 32) i))))] H → va_D A [(h, .inr (3, [.ref a])), (a, .inl (cI, 32, .inl (nf b))), (hs, .inr (4, [.ref as])), (as, .inl (cI, 1024, .inl (nf (stN B (moN b) (q * 32) i))))] → va_S A s.heap H locs → lv_has ls 4 [(0, .ref h), (1, .ref hs), (2, .int (nI q)), (3, .int (nI i))] → W p l e ({ frames := 3, cells := 0, slots := 0, locals := 64 } : Room) s m ([.ref h, .ref hs, .int (nI q)] : List Value).toArray below meth c H locs 0 0 Q (F0 m 2 ls []) := by
    intro k
    induction k with
    | zero =>
      intro i H locs ls hi hP hD hS hl
      refine lv_iload_n hx hb d_Pt_storeIn_2 rfl (lv_at hl 3 rfl) ?_
      refine lv_bipush (v := nI 32) hx hb d_Pt_storeIn_3 (by decide) ?_
      refine lv_icmp_ge (tgt := 26) hx hb d_Pt_storeIn_5 (by decide) (fun c_1 => ?_) (fun c_1 => ?_)
      · skip
        rw [nI_leI (by omega) (by omega)] at c_1
        have hw9 : ([(h, .inr (3, [.ref a])), (a, .inl (cI, 32, .inl (nf b))), (hs, .inr (4, [.ref as])), (as, .inl (cI, 1024, .inl (nf (stN B (moN b) (q * 32) i))))] : va_W) = [(h, .inr (3, [.ref a])), (a, .inl (cI, 32, .inl (nf b))), (hs, .inr (4, [.ref as])), (as, .inl (cI, 1024, .inl (nf (stN B (moN b) (q * 32) 32))))] := by rw [show i = 32 by omega]
        rw [hw9] at hP hD
        exact hret _ _ _ _ d_Pt_storeIn_26 hP hD hS
      · skip
        rw [nI_leI (by omega) (by omega)] at c_1
        first | omega | contradiction
    | succ k ih2 =>
      intro i H locs ls hi hP hD hS hl
      refine lv_iload_n hx hb d_Pt_storeIn_2 rfl (lv_at hl 3 rfl) ?_
      refine lv_bipush (v := nI 32) hx hb d_Pt_storeIn_3 (by decide) ?_
      refine lv_icmp_ge (tgt := 26) hx hb d_Pt_storeIn_5 (by decide) (fun c_2 => ?_) (fun c_2 => ?_)
      · skip
        rw [nI_leI (by omega) (by omega)] at c_2
        first | omega | contradiction
      · skip
        rw [nI_leI (by omega) (by omega)] at c_2
        refine lv_aload_n hx hb d_Pt_storeIn_8 rfl (lv_at hl 1 rfl) ?_
        refine lv_iload_n hx hb d_Pt_storeIn_9 rfl (lv_at hl 2 rfl) ?_
        refine lv_iload_n hx hb d_Pt_storeIn_10 rfl (lv_at hl 3 rfl) ?_
        refine lv_aload_n hx hb d_Pt_storeIn_11 rfl (lv_at hl 0 rfl) ?_
        refine lv_iload_n hx hb d_Pt_storeIn_12 rfl (lv_at hl 3 rfl) ?_
        refine mk_r1 (W.runV (As := [.int (nI i)]) (rest := [.int (nI i), .int (nI q), .ref hs]) S (c_Pt_get l dC dI cI h a b i (by first | assumption | omega) (by first | assumption | omega)) (gV 1 hts k_444 k_446 k_8 k_27 k_447 (by decide +kernel) ⟨Nat.le_of_ble_eq_true rfl, Nat.le_of_ble_eq_true rfl⟩) (mk_vR hP hK hT hS [0, 1] rfl (q0 := 0) (ci := 3) rfl rfl) rfl rfl hl.1 rfl (lv_room (Nat.le_of_ble_eq_true rfl)) d_Pt_storeIn_13 ⟨Nat.zero_le _, Nat.zero_le _⟩) ?_
        have b_3 := (show ∀ j9, b j9 < 65536 by assumption) i
        refine mk_w1 (wr := [(h, .inr (3, [.ref a])), (a, .inl (cI, 32, .inl (nf b)))]) (W.runV (As := [.int (nI q), .int (nI i), .int (nI (b i))]) (rest := []) S ((c_Sl_putN l dC dI cI hs as (stN B (moN b) (q * 32) i) q i (b i) (by first | assumption | omega) (by first | assumption | omega) (by first | assumption | omega)) _) (gV 3 hts k_448 k_200 k_201 k_28 k_202 (by decide +kernel) ⟨Nat.le_of_ble_eq_true rfl, Nat.le_of_ble_eq_true rfl⟩) (mk_vM hP hD hK hT hS hA [2, 3] rfl rfl (by decide) (q0 := 2) (ci := 4) rfl rfl) rfl rfl hl.1 rfl (lv_room (Nat.le_of_ble_eq_true rfl)) d_Pt_storeIn_16 ⟨Nat.zero_le _, Nat.zero_le _⟩) hP hD hS hA [2, 3] [0, 1] rfl rfl (by decide) (by decide) (fun H locs hP hD hS => ?_)
        have hP : va_P (dC, dI) vwCl [(h, .inr (3, [.ref a])), (a, .inl (cI, 32, .inl (nf b))), (hs, .inr (4, [.ref as])), (as, .inl (cI, 1024, .inl (nf (uN (stN B (moN b) (q * 32) i) (q * 32 + i) ((b i) % 2 ^ 8)))))] H := hP.sub [0, 1, 2, 3] rfl
        have hD : va_D A [(h, .inr (3, [.ref a])), (a, .inl (cI, 32, .inl (nf b))), (hs, .inr (4, [.ref as])), (as, .inl (cI, 1024, .inl (nf (uN (stN B (moN b) (q * 32) i) (q * 32 + i) ((b i) % 2 ^ 8)))))] := hD.sub [0, 1, 2, 3] (by decide) rfl
        refine lv_pop hx hb d_Pt_storeIn_19 rfl ?_
        refine lv_iinc (v := nI (i + 1)) (lv' := [(3, .int (nI (i + 1))), (0, .ref h), (1, .ref hs), (2, .int (nI q))]) hx hb d_Pt_storeIn_20 hl (k := 3) rfl (mk_i1 i) (by decide) rfl (fun ls hl => ?_)
        refine lv_goto (tgt := 2) hx hb d_Pt_storeIn_23 (by decide) ?_
        have hl : lv_has ls 4 [(0, .ref h), (1, .ref hs), (2, .int (nI q)), (3, .int (nI (i + 1)))] := lv_sub hl [1, 2, 3, 0] rfl
        have hw9 : ([(h, .inr (3, [.ref a])), (a, .inl (cI, 32, .inl (nf b))), (hs, .inr (4, [.ref as])), (as, .inl (cI, 1024, .inl (nf (uN (stN B (moN b) (q * 32) i) (q * 32 + i) ((b i) % 2 ^ 8)))))] : va_W) = [(h, .inr (3, [.ref a])), (a, .inl (cI, 32, .inl (nf b))), (hs, .inr (4, [.ref as])), (as, .inl (cI, 1024, .inl (nf (stN B (moN b) (q * 32) (i + 1)))))] := by rw [stN_s (by rfl)]
        rw [hw9] at hP hD
        exact ih2 (i + 1) _ _ _ (by omega) hP hD hS hl
  have hl : lv_has ls 4 [(0, .ref h), (1, .ref hs), (2, .int (nI q)), (3, .int (nI 0))] := lv_sub hl [1, 2, 3, 0] rfl
  have hw9 : ([(h, .inr (3, [.ref a])), (a, .inl (cI, 32, .inl (nf b))), (hs, .inr (4, [.ref as])), (as, .inl (cI, 1024, .inl (nf B)))] : va_W) = [(h, .inr (3, [.ref a])), (a, .inl (cI, 32, .inl (nf b))), (hs, .inr (4, [.ref as])), (as, .inl (cI, 1024, .inl (nf (stN B (moN b) (q * 32) 0))))] := by rw [stN_0]
  rw [hw9] at hP hD
  exact lp2 32 0 _ _ _ rfl hP hD hS hl

set_option maxHeartbeats 4000000 in
set_option maxRecDepth 100000 in
theorem c_Pt_in (l : Launch) (dC : Nat → ClassId) (dI : Nat → Nat → Nat) (cI : ClassId) (h a : Nat) (b : Nat → Nat) (hs as : Nat) (B : Nat → Nat) (q : Nat) (hb9 : ∀ j, b j < 65536) (hB : ∀ j, B j < 256) (hq : q < 32) : mR l y_Pt_isIn w_Pt_isIn ({ frames := 3, cells := 0, slots := 0, locals := 63 } : Room) [.ref h, .ref hs, .int (nI q)] (dC, dI) vwCl [(cI, .int)] [(h, .inr (3, [.ref a])), (a, .inl (cI, 32, .inl (nf b))), (hs, .inr (4, [.ref as])), (as, .inl (cI, 1024, .inl (nf B)))] (some (.int (bI (inN b B (q * 32))))) := by
  refine mk_Ri (cc := b_Pt_isIn) (maxL := 4) (by decide) rfl (Nat.le_of_ble_eq_true rfl) (mk_nz _) ?_
  intro p e s m below meth c Q A ls S hP hK hT hS hl hret
  obtain ⟨hx, hb, hml, hown, hts⟩ := id S
  have hl : lv_has ls 4 [(0, .ref h), (1, .ref hs), (2, .int (nI q))] := hl
  refine lv_iconst (v := nI 0) hx hb d_Pt_isIn_0 (by decide) ?_
  refine lv_istore_n (lv' := [(3, .int (nI 0)), (0, .ref h), (1, .ref hs), (2, .int (nI q))]) hx hb d_Pt_isIn_1 rfl hl (by decide) rfl (fun ls hl => ?_)
  have lp2 : ∀ (k : Nat) (i : Nat) (ls : Array Slot), (i + k = 32) → (∀ j, j < i → B (q * 32 + j) = b j) → lv_has ls 4 [(0, .ref h), (1, .ref hs), (2, .int (nI q)), (3, .int (nI i))] → W p l e ({ frames := 3, cells := 0, slots := 0, locals := 63 } : Room) s m ([.ref h, .ref hs, .int (nI q)] : List Value).toArray below meth c s.heap [] 0 0 Q (F0 m 2 ls []) := by
    intro k
    induction k with
    | zero =>
      intro i ls hi hq9 hl
      refine lv_iload_n hx hb d_Pt_isIn_2 rfl (lv_at hl 3 rfl) ?_
      refine lv_bipush (v := nI 32) hx hb d_Pt_isIn_3 (by decide) ?_
      refine lv_icmp_ge (tgt := 30) hx hb d_Pt_isIn_5 (by decide) (fun c_1 => ?_) (fun c_1 => ?_)
      · skip
        rw [nI_leI (by omega) (by omega)] at c_1
        refine lv_iconst (v := nI 1) hx hb d_Pt_isIn_30 (by decide) ?_
        exact mk_ti (by exact mk_bt (by simp only [inN, inK, decide_eq_true_eq]; exact fun j hj => hq9 j (by omega))) (hret _ _ d_Pt_isIn_31)
      · skip
        rw [nI_leI (by omega) (by omega)] at c_1
        first | omega | contradiction
    | succ k ih2 =>
      intro i ls hi hq9 hl
      refine lv_iload_n hx hb d_Pt_isIn_2 rfl (lv_at hl 3 rfl) ?_
      refine lv_bipush (v := nI 32) hx hb d_Pt_isIn_3 (by decide) ?_
      refine lv_icmp_ge (tgt := 30) hx hb d_Pt_isIn_5 (by decide) (fun c_2 => ?_) (fun c_2 => ?_)
      · skip
        rw [nI_leI (by omega) (by omega)] at c_2
        first | omega | contradiction
      · skip
        rw [nI_leI (by omega) (by omega)] at c_2
        refine lv_aload_n hx hb d_Pt_isIn_8 rfl (lv_at hl 1 rfl) ?_
        refine lv_iload_n hx hb d_Pt_isIn_9 rfl (lv_at hl 2 rfl) ?_
        refine lv_iload_n hx hb d_Pt_isIn_10 rfl (lv_at hl 3 rfl) ?_
        refine mk_r1 (W.runV (As := [.int (nI q), .int (nI i)]) (rest := []) S (c_Sl_getN l dC dI cI hs as B q i (by first | assumption | omega) (by first | assumption | omega) (by first | assumption | omega)) (gV 2 hts k_510 k_214 k_215 k_28 k_216 (by decide +kernel) ⟨Nat.le_of_ble_eq_true rfl, Nat.le_of_ble_eq_true rfl⟩) (mk_vR hP hK hT hS [2, 3] rfl (q0 := 2) (ci := 4) rfl rfl) rfl rfl hl.1 rfl (lv_room (Nat.le_of_ble_eq_true rfl)) d_Pt_isIn_11 ⟨Nat.zero_le _, Nat.zero_le _⟩) ?_
        have b_3 := (show ∀ j9, B j9 < 256 by assumption) (q * 32 + i)
        refine lv_aload_n hx hb d_Pt_isIn_14 rfl (lv_at hl 0 rfl) ?_
        refine lv_iload_n hx hb d_Pt_isIn_15 rfl (lv_at hl 3 rfl) ?_
        refine mk_r1 (W.runV (As := [.int (nI i)]) (rest := [.int (nI (B (q * 32 + i)))]) S (c_Pt_get l dC dI cI h a b i (by first | assumption | omega) (by first | assumption | omega)) (gV 1 hts k_444 k_446 k_8 k_27 k_447 (by decide +kernel) ⟨Nat.le_of_ble_eq_true rfl, Nat.le_of_ble_eq_true rfl⟩) (mk_vR hP hK hT hS [0, 1] rfl (q0 := 0) (ci := 3) rfl rfl) rfl rfl hl.1 rfl (lv_room (Nat.le_of_ble_eq_true rfl)) d_Pt_isIn_16 ⟨Nat.zero_le _, Nat.zero_le _⟩) ?_
        have b_4 := (show ∀ j9, b j9 < 65536 by assumption) i
        refine lv_icmp_eq (tgt := 24) hx hb d_Pt_isIn_19 (by decide) (fun c_5 => ?_) (fun c_5 => ?_)
        · skip
          rw [nI_eq (by omega) (by omega)] at c_5
          refine lv_iinc (v := nI (i + 1)) (lv' := [(3, .int (nI (i + 1))), (0, .ref h), (1, .ref hs), (2, .int (nI q))]) hx hb d_Pt_isIn_24 hl (k := 3) rfl (mk_i1 i) (by decide) rfl (fun ls hl => ?_)
          refine lv_goto (tgt := 2) hx hb d_Pt_isIn_27 (by decide) ?_
          have hl : lv_has ls 4 [(0, .ref h), (1, .ref hs), (2, .int (nI q)), (3, .int (nI (i + 1)))] := lv_sub hl [1, 2, 3, 0] rfl
          exact ih2 (i + 1) _ (by omega) (lt_s hq9 (by assumption)) hl
        · skip
          rw [nI_eq (by omega) (by omega)] at c_5
          refine lv_iconst (v := nI 0) hx hb d_Pt_isIn_22 (by decide) ?_
          exact mk_ti (by exact mk_bf (by simp only [inN, inK, decide_eq_false_iff_not]; intro h9; exact c_5 (h9 i (by omega)))) (hret _ _ d_Pt_isIn_23)
  have hl : lv_has ls 4 [(0, .ref h), (1, .ref hs), (2, .int (nI q)), (3, .int (nI 0))] := lv_sub hl [1, 2, 3, 0] rfl
  exact lp2 32 0 _ rfl (fun j hj => absurd hj (Nat.not_lt_zero j)) hl

set_option maxHeartbeats 4000000 in
set_option maxRecDepth 100000 in
theorem c_Pt_unit (l : Launch) (dC : Nat → ClassId) (dI : Nat → Nat → Nat) (cI : ClassId) (hs as : Nat) (B : Nat → Nat) (q i : Nat) (hB : ∀ j, B j < 256) (hq : q < 32) (hi : i < 13) : mR l y_Pt_unitIn w_Pt_unitIn ({ frames := 3, cells := 0, slots := 0, locals := 63 } : Room) [.ref hs, .int (nI q), .int (nI i)] (dC, dI) vwCl [(cI, .int)] [(hs, .inr (4, [.ref as])), (as, .inl (cI, 1024, .inl (nf B)))] (some (.int (nI (uiN B q i)))) := by
  refine mk_Ri (cc := b_Pt_unitIn) (maxL := 4) (by decide) rfl (Nat.le_of_ble_eq_true rfl) rfl ?_
  intro p e s m below meth c Q A ls S hP hK hT hS hl hret
  obtain ⟨hx, hb, hml, hown, hts⟩ := id S
  have hl : lv_has ls 4 [(0, .ref hs), (1, .int (nI q)), (2, .int (nI i))] := hl
  refine lv_iload_n hx hb d_Pt_unitIn_0 rfl (lv_at hl 2 rfl) ?_
  refine mk_r1 (W.runS (As := [.int (nI i)]) (rest := []) S (c_Pt_place l dC dI cI i (by first | assumption | omega)) (gS 1 hts k_435 k_436 k_27 k_437 (by decide +kernel) ⟨Nat.le_of_ble_eq_true rfl, Nat.le_of_ble_eq_true rfl⟩) (mk_sR hP hK hT hS [] rfl) rfl rfl hl.1 rfl (lv_room (Nat.le_of_ble_eq_true rfl)) d_Pt_unitIn_1 ⟨Nat.zero_le _, Nat.zero_le _⟩) ?_
  have b_1 := plN_le (show i < 13 by omega)
  refine lv_istore_n (lv' := [(3, .int (nI (plN i))), (0, .ref hs), (1, .int (nI q)), (2, .int (nI i))]) hx hb d_Pt_unitIn_4 rfl hl (by decide) rfl (fun ls hl => ?_)
  refine lv_aload_n hx hb d_Pt_unitIn_5 rfl (lv_at hl 1 rfl) ?_
  refine lv_iload_n hx hb d_Pt_unitIn_6 rfl (lv_at hl 2 rfl) ?_
  refine lv_iload_n hx hb d_Pt_unitIn_7 rfl (lv_at hl 0 rfl) ?_
  refine mk_r1 (W.runV (As := [.int (nI q), .int (nI (plN i))]) (rest := []) S (c_Sl_getN l dC dI cI hs as B q (plN i) (by first | assumption | omega) (by first | assumption | omega) (by first | assumption | omega)) (gV 2 hts k_510 k_214 k_215 k_28 k_216 (by decide +kernel) ⟨Nat.le_of_ble_eq_true rfl, Nat.le_of_ble_eq_true rfl⟩) (mk_vR hP hK hT hS [0, 1] rfl (q0 := 0) (ci := 4) rfl rfl) rfl rfl hl.1 rfl (lv_room (Nat.le_of_ble_eq_true rfl)) d_Pt_unitIn_8 ⟨Nat.zero_le _, Nat.zero_le _⟩) ?_
  have b_2 := (show ∀ j9, B j9 < 256 by assumption) (q * 32 + (plN i))
  refine lv_sipush (v := nI 256) hx hb d_Pt_unitIn_11 (by decide) ?_
  refine lv_aload_n hx hb d_Pt_unitIn_14 rfl (lv_at hl 1 rfl) ?_
  refine lv_iload_n hx hb d_Pt_unitIn_15 rfl (lv_at hl 2 rfl) ?_
  refine lv_iload_n hx hb d_Pt_unitIn_16 rfl (lv_at hl 0 rfl) ?_
  refine lv_iconst (v := nI 1) hx hb d_Pt_unitIn_17 (by decide) ?_
  refine lv_iadd hx hb d_Pt_unitIn_18 ?_
  refine mk_ti (y := nI (plN i + 1)) (nI_add (plN i) 1) ?_
  refine mk_r1 (W.runV (As := [.int (nI q), .int (nI (plN i + 1))]) (rest := [.int (nI 256), .int (nI (B (q * 32 + (plN i))))]) S (c_Sl_getN l dC dI cI hs as B q (plN i + 1) (by first | assumption | omega) (by first | assumption | omega) (by first | assumption | omega)) (gV 2 hts k_510 k_214 k_215 k_28 k_216 (by decide +kernel) ⟨Nat.le_of_ble_eq_true rfl, Nat.le_of_ble_eq_true rfl⟩) (mk_vR hP hK hT hS [0, 1] rfl (q0 := 0) (ci := 4) rfl rfl) rfl rfl hl.1 rfl (lv_room (Nat.le_of_ble_eq_true rfl)) d_Pt_unitIn_19 ⟨Nat.zero_le _, Nat.zero_le _⟩) ?_
  have b_3 := (show ∀ j9, B j9 < 256 by assumption) (q * 32 + (plN i + 1))
  refine lv_imul hx hb d_Pt_unitIn_22 ?_
  refine mk_ti (y := nI (256 * (B (q * 32 + (plN i + 1))))) (pk_mul 256 (B (q * 32 + (plN i + 1)))) ?_
  refine lv_iadd hx hb d_Pt_unitIn_23 ?_
  refine mk_ti (y := nI (B (q * 32 + (plN i)) + 256 * (B (q * 32 + (plN i + 1))))) (nI_add (B (q * 32 + (plN i))) (256 * (B (q * 32 + (plN i + 1))))) ?_
  exact mk_ti (by rfl) (hret _ _ d_Pt_unitIn_24)

