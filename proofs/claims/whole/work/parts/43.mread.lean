set_option maxHeartbeats 1000000 in
set_option maxRecDepth 100000 in
theorem c_Mo_rx (l : Launch) (dC : Nat → ClassId) (dI : Nat → Nat → Nat) (cI : ClassId) (m0 : Nat) (th : Int32) (mu mz mb mr : Nat) (U Z B b : Nat → Nat) (r y9 z9 : Int32) (hU : ∀ j, U j < 65536) (hZ : ∀ j, Z j ≤ 255) (hB : ∀ j, B j < 65536) (hb9 : ∀ j, b j < 65536) (hr0 : ¬ r = 0) (hr1 : ¬ r = nI 1)  : mM l y_Mo_read w_Mo_read ({ frames := 1, cells := 0, slots := 0, locals := 20 } : Room) [.ref m0, .int r, .int y9, .int z9] (dC, dI) vwCl [(cI, .int)] [(m0, .inr (5, [.int th, .ref mu, .ref mz, .ref mb, .ref mr])), (mu, .inl (cI, 510, .inl (nf U))), (mz, .inl (cI, 2, .inl (nf Z))), (mb, .inl (cI, 1024, .inl (nf B))), (mr, .inl (cI, 11, .inl (nf b)))] (some (.int (nI 0))) [(m0, .inr (5, [.int (nI 1), .ref mu, .ref mz, .ref mb, .ref mr])), (mu, .inl (cI, 510, .inl (nf U))), (mz, .inl (cI, 2, .inl (nf Z))), (mb, .inl (cI, 1024, .inl (nf B))), (mr, .inl (cI, 11, .inl (nf b)))] := by
  refine mk_Mi (cc := b_Mo_read) (maxL := 6) (by decide) rfl (Nat.le_of_ble_eq_true rfl) rfl ?_
  intro p e s m below meth c Q A ls S hP hK hT hS hl hD hA hret
  obtain ⟨hx, hb, hml, hown, hts⟩ := id S
  have hl : lv_has ls 6 [(0, .ref m0), (1, .int r), (2, .int y9), (3, .int z9)] := hl
  refine lv_iload_n hx hb d_Mo_read_0 rfl (lv_at hl 1 rfl) ?_
  refine mk_r1 (W.runS (As := [.int r]) (rest := []) S (c_Mo_rowX l dC dI cI r (by first | assumption | omega) (by first | assumption | omega)) (gS 1 hts k_546 k_547 k_29 k_548 (by decide +kernel) ⟨Nat.le_of_ble_eq_true rfl, Nat.le_of_ble_eq_true rfl⟩) (mk_sR hP hK hT hS [] rfl) rfl rfl hl.1 rfl (lv_room (Nat.le_of_ble_eq_true rfl)) d_Mo_read_1 ⟨Nat.zero_le _, Nat.zero_le _⟩) ?_
  refine lv_if_eq (tgt := 14) hx hb d_Mo_read_4 (by decide) (fun c_1 => ?_) (fun c_1 => ?_)
  · skip
    rw [mk_ceq (by omega)] at c_1
    refine lv_aload_n hx hb d_Mo_read_14 rfl (lv_at hl 0 rfl) ?_
    refine lv_iload_n hx hb d_Mo_read_15 rfl (lv_at hl 1 rfl) ?_
    refine mk_r1 (W.runS (As := [.int r]) (rest := [.ref m0]) S (c_Mo_rowX l dC dI cI r (by first | assumption | omega) (by first | assumption | omega)) (gS 1 hts k_546 k_547 k_29 k_548 (by decide +kernel) ⟨Nat.le_of_ble_eq_true rfl, Nat.le_of_ble_eq_true rfl⟩) (mk_sR hP hK hT hS [] rfl) rfl rfl hl.1 rfl (lv_room (Nat.le_of_ble_eq_true rfl)) d_Mo_read_16 ⟨Nat.zero_le _, Nat.zero_le _⟩) ?_
    refine lv_if_eq (tgt := 32) hx hb d_Mo_read_19 (by decide) (fun c_2 => ?_) (fun c_2 => ?_)
    · skip
      rw [mk_ceq (by omega)] at c_2
      refine lv_iconst (v := nI 1) hx hb d_Mo_read_32 (by decide) ?_
      refine lv_goto (tgt := 56) hx hb d_Mo_read_33 (by decide) ?_
      refine va_put (D := (dC, dI)) (ci := 5) (v := .int (nI 1)) (ty := .int) (C := "LongNamesModel") (T := F_Mo) (N := 5) hx hb hts (iw_Mo _) t_Mo t_Mo_ok n_Mo hown hK hP hD hS 0 rfl rfl 0 (by decide) (hts _ (List.mem_cons_of_mem _ k_522)) (fun _ h9 => h9) rfl (by decide +kernel) rfl rfl (Nat.le_of_ble_eq_true rfl) d_Mo_read_56 (fun H locs hP hD hS => ?_)
      have hP : va_P (dC, dI) vwCl [(m0, .inr (5, [.int (nI 1), .ref mu, .ref mz, .ref mb, .ref mr])), (mu, .inl (cI, 510, .inl (nf U))), (mz, .inl (cI, 2, .inl (nf Z))), (mb, .inl (cI, 1024, .inl (nf B))), (mr, .inl (cI, 11, .inl (nf b)))] H := hP
      have hD : va_D A [(m0, .inr (5, [.int (nI 1), .ref mu, .ref mz, .ref mb, .ref mr])), (mu, .inl (cI, 510, .inl (nf U))), (mz, .inl (cI, 2, .inl (nf Z))), (mb, .inl (cI, 1024, .inl (nf B))), (mr, .inl (cI, 11, .inl (nf b)))] := hD
      refine lv_aload_n hx hb d_Mo_read_59 rfl (lv_at hl 0 rfl) ?_
      refine va_get (D := (dC, dI)) (ci := 5) (v := .int (nI 1)) (C := "LongNamesModel") (T := F_Mo) (N := 5) hx hb hts (iw_Mo _) hown hK hP 0 rfl rfl 0 (by decide) (hts _ (List.mem_cons_of_mem _ k_522)) (fun _ h9 => h9) rfl d_Mo_read_60 ?_
      refine lv_if_le (tgt := 68) hx hb d_Mo_read_63 (by decide) (fun c_3 => ?_) (fun c_3 => ?_)
      · skip
        rw [mk_cle (by omega)] at c_3
        first | omega | contradiction
      · skip
        rw [mk_cle (by omega)] at c_3
        refine lv_iconst (v := nI 0) hx hb d_Mo_read_66 (by decide) ?_
        exact hret _ _ _ _ d_Mo_read_67 hP hD hS
    · skip
      rw [mk_ceq (by omega)] at c_2
      first | omega | contradiction
  · skip
    rw [mk_ceq (by omega)] at c_1
    first | omega | contradiction

set_option maxHeartbeats 1000000 in
set_option maxRecDepth 100000 in
theorem c_Mo_rP (l : Launch) (dC : Nat → ClassId) (dI : Nat → Nat → Nat) (cI : ClassId) (m0 : Nat) (th : Int32) (mu mz mb mr : Nat) (U Z B b : Nat → Nat) (r : Nat) (y9 z9 : Int32) (hU : ∀ j, U j < 65536) (hZ : ∀ j, Z j ≤ 255) (hB : ∀ j, B j < 65536) (hb9 : ∀ j, b j < 65536) (hr : r < 2) (ht : z9 < 0 ∨ ¬ z9 ≤ nI 20) : mM l y_Mo_read w_Mo_read ({ frames := 1, cells := 0, slots := 0, locals := 20 } : Room) [.ref m0, .int (nI r), .int y9, .int z9] (dC, dI) vwCl [(cI, .int)] [(m0, .inr (5, [.int th, .ref mu, .ref mz, .ref mb, .ref mr])), (mu, .inl (cI, 510, .inl (nf U))), (mz, .inl (cI, 2, .inl (nf Z))), (mb, .inl (cI, 1024, .inl (nf B))), (mr, .inl (cI, 11, .inl (nf b)))] (some (.int (nI 0))) [(m0, .inr (5, [.int (nI 1), .ref mu, .ref mz, .ref mb, .ref mr])), (mu, .inl (cI, 510, .inl (nf U))), (mz, .inl (cI, 2, .inl (nf (uN Z r 0)))), (mb, .inl (cI, 1024, .inl (nf B))), (mr, .inl (cI, 11, .inl (nf b)))] := by
  have hZr := hZ r
  refine mk_Mi (cc := b_Mo_read) (maxL := 6) (by decide) rfl (Nat.le_of_ble_eq_true rfl) rfl ?_
  intro p e s m below meth c Q A ls S hP hK hT hS hl hD hA hret
  obtain ⟨hx, hb, hml, hown, hts⟩ := id S
  have hl : lv_has ls 6 [(0, .ref m0), (1, .int (nI r)), (2, .int y9), (3, .int z9)] := hl
  refine lv_iload_n hx hb d_Mo_read_0 rfl (lv_at hl 1 rfl) ?_
  refine mk_r1 (W.runS (As := [.int (nI r)]) (rest := []) S (c_Mo_rowN l dC dI cI r (by first | assumption | omega)) (gS 1 hts k_546 k_547 k_29 k_548 (by decide +kernel) ⟨Nat.le_of_ble_eq_true rfl, Nat.le_of_ble_eq_true rfl⟩) (mk_sR hP hK hT hS [] rfl) rfl rfl hl.1 rfl (lv_room (Nat.le_of_ble_eq_true rfl)) d_Mo_read_1 ⟨Nat.zero_le _, Nat.zero_le _⟩) ?_
  refine lv_if_eq (tgt := 14) hx hb d_Mo_read_4 (by decide) (fun c_1 => ?_) (fun c_1 => ?_)
  · skip
    rw [mk_ceq (by omega)] at c_1
    first | omega | contradiction
  · skip
    rw [mk_ceq (by omega)] at c_1
    refine lv_aload_n hx hb d_Mo_read_7 rfl (lv_at hl 0 rfl) ?_
    refine va_get (D := (dC, dI)) (ci := 5) (v := .ref mz) (C := "LongNamesModel") (T := F_Mo) (N := 5) hx hb hts (iw_Mo _) hown hK hP 0 rfl rfl 2 (by decide) (hts _ (List.mem_cons_of_mem _ k_524)) (fun _ h9 => h9) rfl d_Mo_read_8 ?_
    refine lv_iload_n hx hb d_Mo_read_11 rfl (lv_at hl 1 rfl) ?_
    refine lv_iconst (v := nI 0) hx hb d_Mo_read_12 (by decide) ?_
    refine va_iast hx hb hK hP hD hS 2 0 rfl rfl (vp_in_nI (N := 2) (show r < 2 by omega) (by decide)) d_Mo_read_13 (fun H locs hP hD hS => ?_)
    rw [nI_clamp (by omega), nf_up] at hP hD
    have hP : va_P (dC, dI) vwCl [(m0, .inr (5, [.int th, .ref mu, .ref mz, .ref mb, .ref mr])), (mu, .inl (cI, 510, .inl (nf U))), (mz, .inl (cI, 2, .inl (nf (uN Z r 0)))), (mb, .inl (cI, 1024, .inl (nf B))), (mr, .inl (cI, 11, .inl (nf b)))] H := hP
    have hD : va_D A [(m0, .inr (5, [.int th, .ref mu, .ref mz, .ref mb, .ref mr])), (mu, .inl (cI, 510, .inl (nf U))), (mz, .inl (cI, 2, .inl (nf (uN Z r 0)))), (mb, .inl (cI, 1024, .inl (nf B))), (mr, .inl (cI, 11, .inl (nf b)))] := hD
    refine lv_aload_n hx hb d_Mo_read_14 rfl (lv_at hl 0 rfl) ?_
    refine lv_iload_n hx hb d_Mo_read_15 rfl (lv_at hl 1 rfl) ?_
    refine mk_r1 (W.runS (As := [.int (nI r)]) (rest := [.ref m0]) S (c_Mo_rowN l dC dI cI r (by first | assumption | omega)) (gS 1 hts k_546 k_547 k_29 k_548 (by decide +kernel) ⟨Nat.le_of_ble_eq_true rfl, Nat.le_of_ble_eq_true rfl⟩) (mk_sR hP hK hT hS [] rfl) rfl rfl hl.1 rfl (lv_room (Nat.le_of_ble_eq_true rfl)) d_Mo_read_16 ⟨Nat.zero_le _, Nat.zero_le _⟩) ?_
    refine lv_if_eq (tgt := 32) hx hb d_Mo_read_19 (by decide) (fun c_2 => ?_) (fun c_2 => ?_)
    · skip
      rw [mk_ceq (by omega)] at c_2
      first | omega | contradiction
    · skip
      rw [mk_ceq (by omega)] at c_2
      refine lv_iload_n hx hb d_Mo_read_22 rfl (lv_at hl 3 rfl) ?_
      refine lv_if_lt (tgt := 32) hx hb d_Mo_read_23 (by decide) (fun c_3 => ?_) (fun c_3 => ?_)
      · skip
        refine lv_iconst (v := nI 1) hx hb d_Mo_read_32 (by decide) ?_
        refine lv_goto (tgt := 56) hx hb d_Mo_read_33 (by decide) ?_
        refine va_put (D := (dC, dI)) (ci := 5) (v := .int (nI 1)) (ty := .int) (C := "LongNamesModel") (T := F_Mo) (N := 5) hx hb hts (iw_Mo _) t_Mo t_Mo_ok n_Mo hown hK hP hD hS 0 rfl rfl 0 (by decide) (hts _ (List.mem_cons_of_mem _ k_522)) (fun _ h9 => h9) rfl (by decide +kernel) rfl rfl (Nat.le_of_ble_eq_true rfl) d_Mo_read_56 (fun H locs hP hD hS => ?_)
        have hP : va_P (dC, dI) vwCl [(m0, .inr (5, [.int (nI 1), .ref mu, .ref mz, .ref mb, .ref mr])), (mu, .inl (cI, 510, .inl (nf U))), (mz, .inl (cI, 2, .inl (nf (uN Z r 0)))), (mb, .inl (cI, 1024, .inl (nf B))), (mr, .inl (cI, 11, .inl (nf b)))] H := hP
        have hD : va_D A [(m0, .inr (5, [.int (nI 1), .ref mu, .ref mz, .ref mb, .ref mr])), (mu, .inl (cI, 510, .inl (nf U))), (mz, .inl (cI, 2, .inl (nf (uN Z r 0)))), (mb, .inl (cI, 1024, .inl (nf B))), (mr, .inl (cI, 11, .inl (nf b)))] := hD
        refine lv_aload_n hx hb d_Mo_read_59 rfl (lv_at hl 0 rfl) ?_
        refine va_get (D := (dC, dI)) (ci := 5) (v := .int (nI 1)) (C := "LongNamesModel") (T := F_Mo) (N := 5) hx hb hts (iw_Mo _) hown hK hP 0 rfl rfl 0 (by decide) (hts _ (List.mem_cons_of_mem _ k_522)) (fun _ h9 => h9) rfl d_Mo_read_60 ?_
        refine lv_if_le (tgt := 68) hx hb d_Mo_read_63 (by decide) (fun c_4 => ?_) (fun c_4 => ?_)
        · skip
          rw [mk_cle (by omega)] at c_4
          first | omega | contradiction
        · skip
          rw [mk_cle (by omega)] at c_4
          refine lv_iconst (v := nI 0) hx hb d_Mo_read_66 (by decide) ?_
          exact hret _ _ _ _ d_Mo_read_67 hP hD hS
      · skip
        refine lv_iload_n hx hb d_Mo_read_26 rfl (lv_at hl 3 rfl) ?_
        refine lv_bipush (v := nI 20) hx hb d_Mo_read_27 (by decide) ?_
        refine lv_icmp_le (tgt := 36) hx hb d_Mo_read_29 (by decide) (fun c_5 => ?_) (fun c_5 => ?_)
        · skip
          rcases ht with h9 | h9 <;> contradiction
        · skip
          refine lv_iconst (v := nI 1) hx hb d_Mo_read_32 (by decide) ?_
          refine lv_goto (tgt := 56) hx hb d_Mo_read_33 (by decide) ?_
          refine va_put (D := (dC, dI)) (ci := 5) (v := .int (nI 1)) (ty := .int) (C := "LongNamesModel") (T := F_Mo) (N := 5) hx hb hts (iw_Mo _) t_Mo t_Mo_ok n_Mo hown hK hP hD hS 0 rfl rfl 0 (by decide) (hts _ (List.mem_cons_of_mem _ k_522)) (fun _ h9 => h9) rfl (by decide +kernel) rfl rfl (Nat.le_of_ble_eq_true rfl) d_Mo_read_56 (fun H locs hP hD hS => ?_)
          have hP : va_P (dC, dI) vwCl [(m0, .inr (5, [.int (nI 1), .ref mu, .ref mz, .ref mb, .ref mr])), (mu, .inl (cI, 510, .inl (nf U))), (mz, .inl (cI, 2, .inl (nf (uN Z r 0)))), (mb, .inl (cI, 1024, .inl (nf B))), (mr, .inl (cI, 11, .inl (nf b)))] H := hP
          have hD : va_D A [(m0, .inr (5, [.int (nI 1), .ref mu, .ref mz, .ref mb, .ref mr])), (mu, .inl (cI, 510, .inl (nf U))), (mz, .inl (cI, 2, .inl (nf (uN Z r 0)))), (mb, .inl (cI, 1024, .inl (nf B))), (mr, .inl (cI, 11, .inl (nf b)))] := hD
          refine lv_aload_n hx hb d_Mo_read_59 rfl (lv_at hl 0 rfl) ?_
          refine va_get (D := (dC, dI)) (ci := 5) (v := .int (nI 1)) (C := "LongNamesModel") (T := F_Mo) (N := 5) hx hb hts (iw_Mo _) hown hK hP 0 rfl rfl 0 (by decide) (hts _ (List.mem_cons_of_mem _ k_522)) (fun _ h9 => h9) rfl d_Mo_read_60 ?_
          refine lv_if_le (tgt := 68) hx hb d_Mo_read_63 (by decide) (fun c_6 => ?_) (fun c_6 => ?_)
          · skip
            rw [mk_cle (by omega)] at c_6
            first | omega | contradiction
          · skip
            rw [mk_cle (by omega)] at c_6
            refine lv_iconst (v := nI 0) hx hb d_Mo_read_66 (by decide) ?_
            exact hret _ _ _ _ d_Mo_read_67 hP hD hS

set_option maxHeartbeats 1000000 in
set_option maxRecDepth 100000 in
theorem c_Mo_rI (l : Launch) (dC : Nat → ClassId) (dI : Nat → Nat → Nat) (cI : ClassId) (m0 : Nat) (th : Int32) (mu mz mb mr : Nat) (U Z B b : Nat → Nat) (r : Nat) (y9 : Int32) (p9 : Nat) (hU : ∀ j, U j < 65536) (hZ : ∀ j, Z j ≤ 255) (hB : ∀ j, B j < 65536) (hb9 : ∀ j, b j < 65536) (hr : r < 2) (hp7 : p9 ≤ 20) (hy : y9 < 0 ∨ ¬ y9 ≤ nI 31) : mM l y_Mo_read w_Mo_read ({ frames := 1, cells := 0, slots := 0, locals := 20 } : Room) [.ref m0, .int (nI r), .int y9, .int (nI p9)] (dC, dI) vwCl [(cI, .int)] [(m0, .inr (5, [.int th, .ref mu, .ref mz, .ref mb, .ref mr])), (mu, .inl (cI, 510, .inl (nf U))), (mz, .inl (cI, 2, .inl (nf Z))), (mb, .inl (cI, 1024, .inl (nf B))), (mr, .inl (cI, 11, .inl (nf b)))] (some (.int (nI 0))) [(m0, .inr (5, [.int (nI 2), .ref mu, .ref mz, .ref mb, .ref mr])), (mu, .inl (cI, 510, .inl (nf U))), (mz, .inl (cI, 2, .inl (nf (uN Z r 0)))), (mb, .inl (cI, 1024, .inl (nf B))), (mr, .inl (cI, 11, .inl (nf b)))] := by
  have hZr := hZ r
  refine mk_Mi (cc := b_Mo_read) (maxL := 6) (by decide) rfl (Nat.le_of_ble_eq_true rfl) rfl ?_
  intro p e s m below meth c Q A ls S hP hK hT hS hl hD hA hret
  obtain ⟨hx, hb, hml, hown, hts⟩ := id S
  have hl : lv_has ls 6 [(0, .ref m0), (1, .int (nI r)), (2, .int y9), (3, .int (nI p9))] := hl
  refine lv_iload_n hx hb d_Mo_read_0 rfl (lv_at hl 1 rfl) ?_
  refine mk_r1 (W.runS (As := [.int (nI r)]) (rest := []) S (c_Mo_rowN l dC dI cI r (by first | assumption | omega)) (gS 1 hts k_546 k_547 k_29 k_548 (by decide +kernel) ⟨Nat.le_of_ble_eq_true rfl, Nat.le_of_ble_eq_true rfl⟩) (mk_sR hP hK hT hS [] rfl) rfl rfl hl.1 rfl (lv_room (Nat.le_of_ble_eq_true rfl)) d_Mo_read_1 ⟨Nat.zero_le _, Nat.zero_le _⟩) ?_
  refine lv_if_eq (tgt := 14) hx hb d_Mo_read_4 (by decide) (fun c_1 => ?_) (fun c_1 => ?_)
  · skip
    rw [mk_ceq (by omega)] at c_1
    first | omega | contradiction
  · skip
    rw [mk_ceq (by omega)] at c_1
    refine lv_aload_n hx hb d_Mo_read_7 rfl (lv_at hl 0 rfl) ?_
    refine va_get (D := (dC, dI)) (ci := 5) (v := .ref mz) (C := "LongNamesModel") (T := F_Mo) (N := 5) hx hb hts (iw_Mo _) hown hK hP 0 rfl rfl 2 (by decide) (hts _ (List.mem_cons_of_mem _ k_524)) (fun _ h9 => h9) rfl d_Mo_read_8 ?_
    refine lv_iload_n hx hb d_Mo_read_11 rfl (lv_at hl 1 rfl) ?_
    refine lv_iconst (v := nI 0) hx hb d_Mo_read_12 (by decide) ?_
    refine va_iast hx hb hK hP hD hS 2 0 rfl rfl (vp_in_nI (N := 2) (show r < 2 by omega) (by decide)) d_Mo_read_13 (fun H locs hP hD hS => ?_)
    rw [nI_clamp (by omega), nf_up] at hP hD
    have hP : va_P (dC, dI) vwCl [(m0, .inr (5, [.int th, .ref mu, .ref mz, .ref mb, .ref mr])), (mu, .inl (cI, 510, .inl (nf U))), (mz, .inl (cI, 2, .inl (nf (uN Z r 0)))), (mb, .inl (cI, 1024, .inl (nf B))), (mr, .inl (cI, 11, .inl (nf b)))] H := hP
    have hD : va_D A [(m0, .inr (5, [.int th, .ref mu, .ref mz, .ref mb, .ref mr])), (mu, .inl (cI, 510, .inl (nf U))), (mz, .inl (cI, 2, .inl (nf (uN Z r 0)))), (mb, .inl (cI, 1024, .inl (nf B))), (mr, .inl (cI, 11, .inl (nf b)))] := hD
    refine lv_aload_n hx hb d_Mo_read_14 rfl (lv_at hl 0 rfl) ?_
    refine lv_iload_n hx hb d_Mo_read_15 rfl (lv_at hl 1 rfl) ?_
    refine mk_r1 (W.runS (As := [.int (nI r)]) (rest := [.ref m0]) S (c_Mo_rowN l dC dI cI r (by first | assumption | omega)) (gS 1 hts k_546 k_547 k_29 k_548 (by decide +kernel) ⟨Nat.le_of_ble_eq_true rfl, Nat.le_of_ble_eq_true rfl⟩) (mk_sR hP hK hT hS [] rfl) rfl rfl hl.1 rfl (lv_room (Nat.le_of_ble_eq_true rfl)) d_Mo_read_16 ⟨Nat.zero_le _, Nat.zero_le _⟩) ?_
    refine lv_if_eq (tgt := 32) hx hb d_Mo_read_19 (by decide) (fun c_2 => ?_) (fun c_2 => ?_)
    · skip
      rw [mk_ceq (by omega)] at c_2
      first | omega | contradiction
    · skip
      rw [mk_ceq (by omega)] at c_2
      refine lv_iload_n hx hb d_Mo_read_22 rfl (lv_at hl 3 rfl) ?_
      refine lv_if_lt (tgt := 32) hx hb d_Mo_read_23 (by decide) (fun c_3 => ?_) (fun c_3 => ?_)
      · skip
        rw [mk_clt (by omega)] at c_3
        first | omega | contradiction
      · skip
        rw [mk_clt (by omega)] at c_3
        refine lv_iload_n hx hb d_Mo_read_26 rfl (lv_at hl 3 rfl) ?_
        refine lv_bipush (v := nI 20) hx hb d_Mo_read_27 (by decide) ?_
        refine lv_icmp_le (tgt := 36) hx hb d_Mo_read_29 (by decide) (fun c_4 => ?_) (fun c_4 => ?_)
        · skip
          rw [nI_leI (by omega) (by omega)] at c_4
          refine lv_iload_n hx hb d_Mo_read_36 rfl (lv_at hl 2 rfl) ?_
          refine lv_if_lt (tgt := 51) hx hb d_Mo_read_37 (by decide) (fun c_5 => ?_) (fun c_5 => ?_)
          · skip
            refine lv_iconst (v := nI 2) hx hb d_Mo_read_51 (by decide) ?_
            refine lv_goto (tgt := 56) hx hb d_Mo_read_52 (by decide) ?_
            refine va_put (D := (dC, dI)) (ci := 5) (v := .int (nI 2)) (ty := .int) (C := "LongNamesModel") (T := F_Mo) (N := 5) hx hb hts (iw_Mo _) t_Mo t_Mo_ok n_Mo hown hK hP hD hS 0 rfl rfl 0 (by decide) (hts _ (List.mem_cons_of_mem _ k_522)) (fun _ h9 => h9) rfl (by decide +kernel) rfl rfl (Nat.le_of_ble_eq_true rfl) d_Mo_read_56 (fun H locs hP hD hS => ?_)
            have hP : va_P (dC, dI) vwCl [(m0, .inr (5, [.int (nI 2), .ref mu, .ref mz, .ref mb, .ref mr])), (mu, .inl (cI, 510, .inl (nf U))), (mz, .inl (cI, 2, .inl (nf (uN Z r 0)))), (mb, .inl (cI, 1024, .inl (nf B))), (mr, .inl (cI, 11, .inl (nf b)))] H := hP
            have hD : va_D A [(m0, .inr (5, [.int (nI 2), .ref mu, .ref mz, .ref mb, .ref mr])), (mu, .inl (cI, 510, .inl (nf U))), (mz, .inl (cI, 2, .inl (nf (uN Z r 0)))), (mb, .inl (cI, 1024, .inl (nf B))), (mr, .inl (cI, 11, .inl (nf b)))] := hD
            refine lv_aload_n hx hb d_Mo_read_59 rfl (lv_at hl 0 rfl) ?_
            refine va_get (D := (dC, dI)) (ci := 5) (v := .int (nI 2)) (C := "LongNamesModel") (T := F_Mo) (N := 5) hx hb hts (iw_Mo _) hown hK hP 0 rfl rfl 0 (by decide) (hts _ (List.mem_cons_of_mem _ k_522)) (fun _ h9 => h9) rfl d_Mo_read_60 ?_
            refine lv_if_le (tgt := 68) hx hb d_Mo_read_63 (by decide) (fun c_6 => ?_) (fun c_6 => ?_)
            · skip
              rw [mk_cle (by omega)] at c_6
              first | omega | contradiction
            · skip
              rw [mk_cle (by omega)] at c_6
              refine lv_iconst (v := nI 0) hx hb d_Mo_read_66 (by decide) ?_
              exact hret _ _ _ _ d_Mo_read_67 hP hD hS
          · skip
            refine lv_iload_n hx hb d_Mo_read_40 rfl (lv_at hl 2 rfl) ?_
            refine lv_bipush (v := nI 31) hx hb d_Mo_read_41 (by decide) ?_
            refine lv_icmp_gt (tgt := 51) hx hb d_Mo_read_43 (by decide) (fun c_7 => ?_) (fun c_7 => ?_)
            · skip
              refine lv_iconst (v := nI 2) hx hb d_Mo_read_51 (by decide) ?_
              refine lv_goto (tgt := 56) hx hb d_Mo_read_52 (by decide) ?_
              refine va_put (D := (dC, dI)) (ci := 5) (v := .int (nI 2)) (ty := .int) (C := "LongNamesModel") (T := F_Mo) (N := 5) hx hb hts (iw_Mo _) t_Mo t_Mo_ok n_Mo hown hK hP hD hS 0 rfl rfl 0 (by decide) (hts _ (List.mem_cons_of_mem _ k_522)) (fun _ h9 => h9) rfl (by decide +kernel) rfl rfl (Nat.le_of_ble_eq_true rfl) d_Mo_read_56 (fun H locs hP hD hS => ?_)
              have hP : va_P (dC, dI) vwCl [(m0, .inr (5, [.int (nI 2), .ref mu, .ref mz, .ref mb, .ref mr])), (mu, .inl (cI, 510, .inl (nf U))), (mz, .inl (cI, 2, .inl (nf (uN Z r 0)))), (mb, .inl (cI, 1024, .inl (nf B))), (mr, .inl (cI, 11, .inl (nf b)))] H := hP
              have hD : va_D A [(m0, .inr (5, [.int (nI 2), .ref mu, .ref mz, .ref mb, .ref mr])), (mu, .inl (cI, 510, .inl (nf U))), (mz, .inl (cI, 2, .inl (nf (uN Z r 0)))), (mb, .inl (cI, 1024, .inl (nf B))), (mr, .inl (cI, 11, .inl (nf b)))] := hD
              refine lv_aload_n hx hb d_Mo_read_59 rfl (lv_at hl 0 rfl) ?_
              refine va_get (D := (dC, dI)) (ci := 5) (v := .int (nI 2)) (C := "LongNamesModel") (T := F_Mo) (N := 5) hx hb hts (iw_Mo _) hown hK hP 0 rfl rfl 0 (by decide) (hts _ (List.mem_cons_of_mem _ k_522)) (fun _ h9 => h9) rfl d_Mo_read_60 ?_
              refine lv_if_le (tgt := 68) hx hb d_Mo_read_63 (by decide) (fun c_8 => ?_) (fun c_8 => ?_)
              · skip
                rw [mk_cle (by omega)] at c_8
                first | omega | contradiction
              · skip
                rw [mk_cle (by omega)] at c_8
                refine lv_iconst (v := nI 0) hx hb d_Mo_read_66 (by decide) ?_
                exact hret _ _ _ _ d_Mo_read_67 hP hD hS
            · skip
              rcases hy with h9 | h9 <;> first | contradiction | exact absurd (Int32.not_lt.mp c_7) h9
        · skip
          rw [nI_leI (by omega) (by omega)] at c_4
          first | omega | contradiction

set_option maxHeartbeats 1000000 in
set_option maxRecDepth 100000 in
theorem c_Mo_rJ (l : Launch) (dC : Nat → ClassId) (dI : Nat → Nat → Nat) (cI : ClassId) (m0 : Nat) (th : Int32) (mu mz mb mr : Nat) (U Z B b : Nat → Nat) (r q p9 : Nat) (hU : ∀ j, U j < 65536) (hZ : ∀ j, Z j ≤ 255) (hB : ∀ j, B j < 65536) (hb9 : ∀ j, b j < 65536) (hr : r < 2) (hp7 : p9 ≤ 20) (hq : q < 32) (hy : q < p9) : mM l y_Mo_read w_Mo_read ({ frames := 1, cells := 0, slots := 0, locals := 20 } : Room) [.ref m0, .int (nI r), .int (nI q), .int (nI p9)] (dC, dI) vwCl [(cI, .int)] [(m0, .inr (5, [.int th, .ref mu, .ref mz, .ref mb, .ref mr])), (mu, .inl (cI, 510, .inl (nf U))), (mz, .inl (cI, 2, .inl (nf Z))), (mb, .inl (cI, 1024, .inl (nf B))), (mr, .inl (cI, 11, .inl (nf b)))] (some (.int (nI 0))) [(m0, .inr (5, [.int (nI 2), .ref mu, .ref mz, .ref mb, .ref mr])), (mu, .inl (cI, 510, .inl (nf U))), (mz, .inl (cI, 2, .inl (nf (uN Z r 0)))), (mb, .inl (cI, 1024, .inl (nf B))), (mr, .inl (cI, 11, .inl (nf b)))] := by
  have hZr := hZ r
  refine mk_Mi (cc := b_Mo_read) (maxL := 6) (by decide) rfl (Nat.le_of_ble_eq_true rfl) rfl ?_
  intro p e s m below meth c Q A ls S hP hK hT hS hl hD hA hret
  obtain ⟨hx, hb, hml, hown, hts⟩ := id S
  have hl : lv_has ls 6 [(0, .ref m0), (1, .int (nI r)), (2, .int (nI q)), (3, .int (nI p9))] := hl
  refine lv_iload_n hx hb d_Mo_read_0 rfl (lv_at hl 1 rfl) ?_
  refine mk_r1 (W.runS (As := [.int (nI r)]) (rest := []) S (c_Mo_rowN l dC dI cI r (by first | assumption | omega)) (gS 1 hts k_546 k_547 k_29 k_548 (by decide +kernel) ⟨Nat.le_of_ble_eq_true rfl, Nat.le_of_ble_eq_true rfl⟩) (mk_sR hP hK hT hS [] rfl) rfl rfl hl.1 rfl (lv_room (Nat.le_of_ble_eq_true rfl)) d_Mo_read_1 ⟨Nat.zero_le _, Nat.zero_le _⟩) ?_
  refine lv_if_eq (tgt := 14) hx hb d_Mo_read_4 (by decide) (fun c_1 => ?_) (fun c_1 => ?_)
  · skip
    rw [mk_ceq (by omega)] at c_1
    first | omega | contradiction
  · skip
    rw [mk_ceq (by omega)] at c_1
    refine lv_aload_n hx hb d_Mo_read_7 rfl (lv_at hl 0 rfl) ?_
    refine va_get (D := (dC, dI)) (ci := 5) (v := .ref mz) (C := "LongNamesModel") (T := F_Mo) (N := 5) hx hb hts (iw_Mo _) hown hK hP 0 rfl rfl 2 (by decide) (hts _ (List.mem_cons_of_mem _ k_524)) (fun _ h9 => h9) rfl d_Mo_read_8 ?_
    refine lv_iload_n hx hb d_Mo_read_11 rfl (lv_at hl 1 rfl) ?_
    refine lv_iconst (v := nI 0) hx hb d_Mo_read_12 (by decide) ?_
    refine va_iast hx hb hK hP hD hS 2 0 rfl rfl (vp_in_nI (N := 2) (show r < 2 by omega) (by decide)) d_Mo_read_13 (fun H locs hP hD hS => ?_)
    rw [nI_clamp (by omega), nf_up] at hP hD
    have hP : va_P (dC, dI) vwCl [(m0, .inr (5, [.int th, .ref mu, .ref mz, .ref mb, .ref mr])), (mu, .inl (cI, 510, .inl (nf U))), (mz, .inl (cI, 2, .inl (nf (uN Z r 0)))), (mb, .inl (cI, 1024, .inl (nf B))), (mr, .inl (cI, 11, .inl (nf b)))] H := hP
    have hD : va_D A [(m0, .inr (5, [.int th, .ref mu, .ref mz, .ref mb, .ref mr])), (mu, .inl (cI, 510, .inl (nf U))), (mz, .inl (cI, 2, .inl (nf (uN Z r 0)))), (mb, .inl (cI, 1024, .inl (nf B))), (mr, .inl (cI, 11, .inl (nf b)))] := hD
    refine lv_aload_n hx hb d_Mo_read_14 rfl (lv_at hl 0 rfl) ?_
    refine lv_iload_n hx hb d_Mo_read_15 rfl (lv_at hl 1 rfl) ?_
    refine mk_r1 (W.runS (As := [.int (nI r)]) (rest := [.ref m0]) S (c_Mo_rowN l dC dI cI r (by first | assumption | omega)) (gS 1 hts k_546 k_547 k_29 k_548 (by decide +kernel) ⟨Nat.le_of_ble_eq_true rfl, Nat.le_of_ble_eq_true rfl⟩) (mk_sR hP hK hT hS [] rfl) rfl rfl hl.1 rfl (lv_room (Nat.le_of_ble_eq_true rfl)) d_Mo_read_16 ⟨Nat.zero_le _, Nat.zero_le _⟩) ?_
    refine lv_if_eq (tgt := 32) hx hb d_Mo_read_19 (by decide) (fun c_2 => ?_) (fun c_2 => ?_)
    · skip
      rw [mk_ceq (by omega)] at c_2
      first | omega | contradiction
    · skip
      rw [mk_ceq (by omega)] at c_2
      refine lv_iload_n hx hb d_Mo_read_22 rfl (lv_at hl 3 rfl) ?_
      refine lv_if_lt (tgt := 32) hx hb d_Mo_read_23 (by decide) (fun c_3 => ?_) (fun c_3 => ?_)
      · skip
        rw [mk_clt (by omega)] at c_3
        first | omega | contradiction
      · skip
        rw [mk_clt (by omega)] at c_3
        refine lv_iload_n hx hb d_Mo_read_26 rfl (lv_at hl 3 rfl) ?_
        refine lv_bipush (v := nI 20) hx hb d_Mo_read_27 (by decide) ?_
        refine lv_icmp_le (tgt := 36) hx hb d_Mo_read_29 (by decide) (fun c_4 => ?_) (fun c_4 => ?_)
        · skip
          rw [nI_leI (by omega) (by omega)] at c_4
          refine lv_iload_n hx hb d_Mo_read_36 rfl (lv_at hl 2 rfl) ?_
          refine lv_if_lt (tgt := 51) hx hb d_Mo_read_37 (by decide) (fun c_5 => ?_) (fun c_5 => ?_)
          · skip
            rw [mk_clt (by omega)] at c_5
            first | omega | contradiction
          · skip
            rw [mk_clt (by omega)] at c_5
            refine lv_iload_n hx hb d_Mo_read_40 rfl (lv_at hl 2 rfl) ?_
            refine lv_bipush (v := nI 31) hx hb d_Mo_read_41 (by decide) ?_
            refine lv_icmp_gt (tgt := 51) hx hb d_Mo_read_43 (by decide) (fun c_6 => ?_) (fun c_6 => ?_)
            · skip
              rw [nI_ltI (by omega) (by omega)] at c_6
              first | omega | contradiction
            · skip
              rw [nI_ltI (by omega) (by omega)] at c_6
              refine lv_iload_n hx hb d_Mo_read_46 rfl (lv_at hl 2 rfl) ?_
              refine lv_iload_n hx hb d_Mo_read_47 rfl (lv_at hl 3 rfl) ?_
              refine lv_icmp_ge (tgt := 55) hx hb d_Mo_read_48 (by decide) (fun c_7 => ?_) (fun c_7 => ?_)
              · skip
                rw [nI_leI (by omega) (by omega)] at c_7
                first | omega | contradiction
              · skip
                rw [nI_leI (by omega) (by omega)] at c_7
                refine lv_iconst (v := nI 2) hx hb d_Mo_read_51 (by decide) ?_
                refine lv_goto (tgt := 56) hx hb d_Mo_read_52 (by decide) ?_
                refine va_put (D := (dC, dI)) (ci := 5) (v := .int (nI 2)) (ty := .int) (C := "LongNamesModel") (T := F_Mo) (N := 5) hx hb hts (iw_Mo _) t_Mo t_Mo_ok n_Mo hown hK hP hD hS 0 rfl rfl 0 (by decide) (hts _ (List.mem_cons_of_mem _ k_522)) (fun _ h9 => h9) rfl (by decide +kernel) rfl rfl (Nat.le_of_ble_eq_true rfl) d_Mo_read_56 (fun H locs hP hD hS => ?_)
                have hP : va_P (dC, dI) vwCl [(m0, .inr (5, [.int (nI 2), .ref mu, .ref mz, .ref mb, .ref mr])), (mu, .inl (cI, 510, .inl (nf U))), (mz, .inl (cI, 2, .inl (nf (uN Z r 0)))), (mb, .inl (cI, 1024, .inl (nf B))), (mr, .inl (cI, 11, .inl (nf b)))] H := hP
                have hD : va_D A [(m0, .inr (5, [.int (nI 2), .ref mu, .ref mz, .ref mb, .ref mr])), (mu, .inl (cI, 510, .inl (nf U))), (mz, .inl (cI, 2, .inl (nf (uN Z r 0)))), (mb, .inl (cI, 1024, .inl (nf B))), (mr, .inl (cI, 11, .inl (nf b)))] := hD
                refine lv_aload_n hx hb d_Mo_read_59 rfl (lv_at hl 0 rfl) ?_
                refine va_get (D := (dC, dI)) (ci := 5) (v := .int (nI 2)) (C := "LongNamesModel") (T := F_Mo) (N := 5) hx hb hts (iw_Mo _) hown hK hP 0 rfl rfl 0 (by decide) (hts _ (List.mem_cons_of_mem _ k_522)) (fun _ h9 => h9) rfl d_Mo_read_60 ?_
                refine lv_if_le (tgt := 68) hx hb d_Mo_read_63 (by decide) (fun c_8 => ?_) (fun c_8 => ?_)
                · skip
                  rw [mk_cle (by omega)] at c_8
                  first | omega | contradiction
                · skip
                  rw [mk_cle (by omega)] at c_8
                  refine lv_iconst (v := nI 0) hx hb d_Mo_read_66 (by decide) ?_
                  exact hret _ _ _ _ d_Mo_read_67 hP hD hS
        · skip
          rw [nI_leI (by omega) (by omega)] at c_4
          first | omega | contradiction

set_option maxHeartbeats 1000000 in
set_option maxRecDepth 100000 in
theorem c_Mo_rV (l : Launch) (dC : Nat → ClassId) (dI : Nat → Nat → Nat) (cI : ClassId) (m0 : Nat) (th : Int32) (mu mz mb mr : Nat) (U Z B b : Nat → Nat) (r q p9 : Nat) (hU : ∀ j, U j < 65536) (hZ : ∀ j, Z j ≤ 255) (hB : ∀ j, B j < 65536) (hb9 : ∀ j, b j < 65536) (hr : r < 2) (h1 : isF B (32 * q) = false) (hq : q < 32) (hp7 : p9 ≤ 20 ∧ p9 ≤ q) : mM l y_Mo_read w_Mo_read ({ frames := 2, cells := 0, slots := 0, locals := 43 } : Room) [.ref m0, .int (nI r), .int (nI q), .int (nI p9)] (dC, dI) vwCl [(cI, .int)] [(m0, .inr (5, [.int th, .ref mu, .ref mz, .ref mb, .ref mr])), (mu, .inl (cI, 510, .inl (nf U))), (mz, .inl (cI, 2, .inl (nf Z))), (mb, .inl (cI, 1024, .inl (nf B))), (mr, .inl (cI, 11, .inl (nf b)))] (some (.int (nI 0))) [(m0, .inr (5, [.int (nI 3), .ref mu, .ref mz, .ref mb, .ref mr])), (mu, .inl (cI, 510, .inl (nf U))), (mz, .inl (cI, 2, .inl (nf (uN Z r 0)))), (mb, .inl (cI, 1024, .inl (nf B))), (mr, .inl (cI, 11, .inl (nf b)))] := by
  have hZr := hZ r
  refine mk_Mi (cc := b_Mo_read) (maxL := 6) (by decide) rfl (Nat.le_of_ble_eq_true rfl) rfl ?_
  intro p e s m below meth c Q A ls S hP hK hT hS hl hD hA hret
  obtain ⟨hx, hb, hml, hown, hts⟩ := id S
  have hl : lv_has ls 6 [(0, .ref m0), (1, .int (nI r)), (2, .int (nI q)), (3, .int (nI p9))] := hl
  refine lv_iload_n hx hb d_Mo_read_0 rfl (lv_at hl 1 rfl) ?_
  refine mk_r1 (W.runS (As := [.int (nI r)]) (rest := []) S (c_Mo_rowN l dC dI cI r (by first | assumption | omega)) (gS 1 hts k_546 k_547 k_29 k_548 (by decide +kernel) ⟨Nat.le_of_ble_eq_true rfl, Nat.le_of_ble_eq_true rfl⟩) (mk_sR hP hK hT hS [] rfl) rfl rfl hl.1 rfl (lv_room (Nat.le_of_ble_eq_true rfl)) d_Mo_read_1 ⟨Nat.zero_le _, Nat.zero_le _⟩) ?_
  refine lv_if_eq (tgt := 14) hx hb d_Mo_read_4 (by decide) (fun c_1 => ?_) (fun c_1 => ?_)
  · skip
    rw [mk_ceq (by omega)] at c_1
    first | omega | contradiction
  · skip
    rw [mk_ceq (by omega)] at c_1
    refine lv_aload_n hx hb d_Mo_read_7 rfl (lv_at hl 0 rfl) ?_
    refine va_get (D := (dC, dI)) (ci := 5) (v := .ref mz) (C := "LongNamesModel") (T := F_Mo) (N := 5) hx hb hts (iw_Mo _) hown hK hP 0 rfl rfl 2 (by decide) (hts _ (List.mem_cons_of_mem _ k_524)) (fun _ h9 => h9) rfl d_Mo_read_8 ?_
    refine lv_iload_n hx hb d_Mo_read_11 rfl (lv_at hl 1 rfl) ?_
    refine lv_iconst (v := nI 0) hx hb d_Mo_read_12 (by decide) ?_
    refine va_iast hx hb hK hP hD hS 2 0 rfl rfl (vp_in_nI (N := 2) (show r < 2 by omega) (by decide)) d_Mo_read_13 (fun H locs hP hD hS => ?_)
    rw [nI_clamp (by omega), nf_up] at hP hD
    have hP : va_P (dC, dI) vwCl [(m0, .inr (5, [.int th, .ref mu, .ref mz, .ref mb, .ref mr])), (mu, .inl (cI, 510, .inl (nf U))), (mz, .inl (cI, 2, .inl (nf (uN Z r 0)))), (mb, .inl (cI, 1024, .inl (nf B))), (mr, .inl (cI, 11, .inl (nf b)))] H := hP
    have hD : va_D A [(m0, .inr (5, [.int th, .ref mu, .ref mz, .ref mb, .ref mr])), (mu, .inl (cI, 510, .inl (nf U))), (mz, .inl (cI, 2, .inl (nf (uN Z r 0)))), (mb, .inl (cI, 1024, .inl (nf B))), (mr, .inl (cI, 11, .inl (nf b)))] := hD
    refine lv_aload_n hx hb d_Mo_read_14 rfl (lv_at hl 0 rfl) ?_
    refine lv_iload_n hx hb d_Mo_read_15 rfl (lv_at hl 1 rfl) ?_
    refine mk_r1 (W.runS (As := [.int (nI r)]) (rest := [.ref m0]) S (c_Mo_rowN l dC dI cI r (by first | assumption | omega)) (gS 1 hts k_546 k_547 k_29 k_548 (by decide +kernel) ⟨Nat.le_of_ble_eq_true rfl, Nat.le_of_ble_eq_true rfl⟩) (mk_sR hP hK hT hS [] rfl) rfl rfl hl.1 rfl (lv_room (Nat.le_of_ble_eq_true rfl)) d_Mo_read_16 ⟨Nat.zero_le _, Nat.zero_le _⟩) ?_
    refine lv_if_eq (tgt := 32) hx hb d_Mo_read_19 (by decide) (fun c_2 => ?_) (fun c_2 => ?_)
    · skip
      rw [mk_ceq (by omega)] at c_2
      first | omega | contradiction
    · skip
      rw [mk_ceq (by omega)] at c_2
      refine lv_iload_n hx hb d_Mo_read_22 rfl (lv_at hl 3 rfl) ?_
      refine lv_if_lt (tgt := 32) hx hb d_Mo_read_23 (by decide) (fun c_3 => ?_) (fun c_3 => ?_)
      · skip
        rw [mk_clt (by omega)] at c_3
        first | omega | contradiction
      · skip
        rw [mk_clt (by omega)] at c_3
        refine lv_iload_n hx hb d_Mo_read_26 rfl (lv_at hl 3 rfl) ?_
        refine lv_bipush (v := nI 20) hx hb d_Mo_read_27 (by decide) ?_
        refine lv_icmp_le (tgt := 36) hx hb d_Mo_read_29 (by decide) (fun c_4 => ?_) (fun c_4 => ?_)
        · skip
          rw [nI_leI (by omega) (by omega)] at c_4
          refine lv_iload_n hx hb d_Mo_read_36 rfl (lv_at hl 2 rfl) ?_
          refine lv_if_lt (tgt := 51) hx hb d_Mo_read_37 (by decide) (fun c_5 => ?_) (fun c_5 => ?_)
          · skip
            rw [mk_clt (by omega)] at c_5
            first | omega | contradiction
          · skip
            rw [mk_clt (by omega)] at c_5
            refine lv_iload_n hx hb d_Mo_read_40 rfl (lv_at hl 2 rfl) ?_
            refine lv_bipush (v := nI 31) hx hb d_Mo_read_41 (by decide) ?_
            refine lv_icmp_gt (tgt := 51) hx hb d_Mo_read_43 (by decide) (fun c_6 => ?_) (fun c_6 => ?_)
            · skip
              rw [nI_ltI (by omega) (by omega)] at c_6
              first | omega | contradiction
            · skip
              rw [nI_ltI (by omega) (by omega)] at c_6
              refine lv_iload_n hx hb d_Mo_read_46 rfl (lv_at hl 2 rfl) ?_
              refine lv_iload_n hx hb d_Mo_read_47 rfl (lv_at hl 3 rfl) ?_
              refine lv_icmp_ge (tgt := 55) hx hb d_Mo_read_48 (by decide) (fun c_7 => ?_) (fun c_7 => ?_)
              · skip
                rw [nI_leI (by omega) (by omega)] at c_7
                refine lv_iconst (v := nI 0) hx hb d_Mo_read_55 (by decide) ?_
                refine va_put (D := (dC, dI)) (ci := 5) (v := .int (nI 0)) (ty := .int) (C := "LongNamesModel") (T := F_Mo) (N := 5) hx hb hts (iw_Mo _) t_Mo t_Mo_ok n_Mo hown hK hP hD hS 0 rfl rfl 0 (by decide) (hts _ (List.mem_cons_of_mem _ k_522)) (fun _ h9 => h9) rfl (by decide +kernel) rfl rfl (Nat.le_of_ble_eq_true rfl) d_Mo_read_56 (fun H locs hP hD hS => ?_)
                have hP : va_P (dC, dI) vwCl [(m0, .inr (5, [.int (nI 0), .ref mu, .ref mz, .ref mb, .ref mr])), (mu, .inl (cI, 510, .inl (nf U))), (mz, .inl (cI, 2, .inl (nf (uN Z r 0)))), (mb, .inl (cI, 1024, .inl (nf B))), (mr, .inl (cI, 11, .inl (nf b)))] H := hP
                have hD : va_D A [(m0, .inr (5, [.int (nI 0), .ref mu, .ref mz, .ref mb, .ref mr])), (mu, .inl (cI, 510, .inl (nf U))), (mz, .inl (cI, 2, .inl (nf (uN Z r 0)))), (mb, .inl (cI, 1024, .inl (nf B))), (mr, .inl (cI, 11, .inl (nf b)))] := hD
                refine lv_aload_n hx hb d_Mo_read_59 rfl (lv_at hl 0 rfl) ?_
                refine va_get (D := (dC, dI)) (ci := 5) (v := .int (nI 0)) (C := "LongNamesModel") (T := F_Mo) (N := 5) hx hb hts (iw_Mo _) hown hK hP 0 rfl rfl 0 (by decide) (hts _ (List.mem_cons_of_mem _ k_522)) (fun _ h9 => h9) rfl d_Mo_read_60 ?_
                refine lv_if_le (tgt := 68) hx hb d_Mo_read_63 (by decide) (fun c_8 => ?_) (fun c_8 => ?_)
                · skip
                  rw [mk_cle (by omega)] at c_8
                  refine lv_bipush (v := nI 32) hx hb d_Mo_read_68 (by decide) ?_
                  refine lv_iload_n hx hb d_Mo_read_70 rfl (lv_at hl 2 rfl) ?_
                  refine lv_imul hx hb d_Mo_read_71 ?_
                  refine mk_ti (y := nI (32 * q)) (pk_mul 32 q) ?_
                  refine lv_istore (lv' := [(4, .int (nI (32 * q))), (0, .ref m0), (1, .int (nI r)), (2, .int (nI q)), (3, .int (nI p9))]) hx hb d_Mo_read_72 hl (by decide) rfl (fun ls hl => ?_)
                  refine lv_aload_n hx hb d_Mo_read_74 rfl (lv_at hl 1 rfl) ?_
                  refine lv_iload hx hb d_Mo_read_75 (lv_at hl 0 rfl) ?_
                  refine mk_r1 (W.runV (As := [.int (nI (32 * q))]) (rest := []) S (c_Mo_isS l dC dI cI m0 (nI 0) mu mz mb mr B (32 * q) (by first | assumption | omega) (by first | assumption | omega)) (gV 1 hts k_625 k_627 k_19 k_29 k_628 (by decide +kernel) ⟨Nat.le_of_ble_eq_true rfl, Nat.le_of_ble_eq_true rfl⟩) (mk_vR hP hK hT hS [0, 3] rfl (q0 := 0) (ci := 5) rfl rfl) rfl rfl hl.1 rfl (lv_room (Nat.le_of_ble_eq_true rfl)) d_Mo_read_77 ⟨Nat.zero_le _, Nat.zero_le _⟩) ?_
                  refine lv_istore (lv' := [(5, .int (bI (isF B (32 * q)))), (4, .int (nI (32 * q))), (0, .ref m0), (1, .int (nI r)), (2, .int (nI q)), (3, .int (nI p9))]) hx hb d_Mo_read_80 hl (by decide) rfl (fun ls hl => ?_)
                  refine lv_iload hx hb d_Mo_read_82 (lv_at hl 0 rfl) ?_
                  refine lv_if_eq (tgt := 98) hx hb d_Mo_read_84 (by decide) (fun c_9 => ?_) (fun c_9 => ?_)
                  · skip
                    have c_9 := bI_0 c_9
                    refine lv_iload hx hb d_Mo_read_98 (lv_at hl 0 rfl) ?_
                    refine lv_if_eq (tgt := 117) hx hb d_Mo_read_100 (by decide) (fun c_10 => ?_) (fun c_10 => ?_)
                    · skip
                      have c_10 := bI_0 c_10
                      refine lv_iload hx hb d_Mo_read_117 (lv_at hl 0 rfl) ?_
                      refine lv_if_ne (tgt := 136) hx hb d_Mo_read_119 (by decide) (fun c_11 => ?_) (fun c_11 => ?_)
                      · skip
                        have c_11 := bI_1 c_11
                        rw [h1] at c_11; exact absurd c_11 (by decide)
                      · skip
                        have c_11 := bI_0 c_11
                        refine lv_aload_n hx hb d_Mo_read_122 rfl (lv_at hl 2 rfl) ?_
                        refine va_get (D := (dC, dI)) (ci := 5) (v := .ref mz) (C := "LongNamesModel") (T := F_Mo) (N := 5) hx hb hts (iw_Mo _) hown hK hP 0 rfl rfl 2 (by decide) (hts _ (List.mem_cons_of_mem _ k_524)) (fun _ h9 => h9) rfl d_Mo_read_123 ?_
                        refine lv_iload_n hx hb d_Mo_read_126 rfl (lv_at hl 3 rfl) ?_
                        refine lv_iconst (v := nI 0) hx hb d_Mo_read_127 (by decide) ?_
                        refine va_iast hx hb hK hP hD hS 2 0 rfl rfl (vp_in_nI (N := 2) (show r < 2 by omega) (by decide)) d_Mo_read_128 (fun H locs hP hD hS => ?_)
                        rw [nI_clamp (by omega), nf_up, mk_uu] at hP hD
                        have hP : va_P (dC, dI) vwCl [(m0, .inr (5, [.int (nI 0), .ref mu, .ref mz, .ref mb, .ref mr])), (mu, .inl (cI, 510, .inl (nf U))), (mz, .inl (cI, 2, .inl (nf (uN Z r 0)))), (mb, .inl (cI, 1024, .inl (nf B))), (mr, .inl (cI, 11, .inl (nf b)))] H := hP
                        have hD : va_D A [(m0, .inr (5, [.int (nI 0), .ref mu, .ref mz, .ref mb, .ref mr])), (mu, .inl (cI, 510, .inl (nf U))), (mz, .inl (cI, 2, .inl (nf (uN Z r 0)))), (mb, .inl (cI, 1024, .inl (nf B))), (mr, .inl (cI, 11, .inl (nf b)))] := hD
                        refine lv_aload_n hx hb d_Mo_read_129 rfl (lv_at hl 2 rfl) ?_
                        refine lv_iconst (v := nI 3) hx hb d_Mo_read_130 (by decide) ?_
                        refine va_put (D := (dC, dI)) (ci := 5) (v := .int (nI 3)) (ty := .int) (C := "LongNamesModel") (T := F_Mo) (N := 5) hx hb hts (iw_Mo _) t_Mo t_Mo_ok n_Mo hown hK hP hD hS 0 rfl rfl 0 (by decide) (hts _ (List.mem_cons_of_mem _ k_522)) (fun _ h9 => h9) rfl (by decide +kernel) rfl rfl (Nat.le_of_ble_eq_true rfl) d_Mo_read_131 (fun H locs hP hD hS => ?_)
                        have hP : va_P (dC, dI) vwCl [(m0, .inr (5, [.int (nI 3), .ref mu, .ref mz, .ref mb, .ref mr])), (mu, .inl (cI, 510, .inl (nf U))), (mz, .inl (cI, 2, .inl (nf (uN Z r 0)))), (mb, .inl (cI, 1024, .inl (nf B))), (mr, .inl (cI, 11, .inl (nf b)))] H := hP
                        have hD : va_D A [(m0, .inr (5, [.int (nI 3), .ref mu, .ref mz, .ref mb, .ref mr])), (mu, .inl (cI, 510, .inl (nf U))), (mz, .inl (cI, 2, .inl (nf (uN Z r 0)))), (mb, .inl (cI, 1024, .inl (nf B))), (mr, .inl (cI, 11, .inl (nf b)))] := hD
                        refine lv_iconst (v := nI 0) hx hb d_Mo_read_134 (by decide) ?_
                        exact hret _ _ _ _ d_Mo_read_135 hP hD hS
                    · skip
                      have c_10 := bI_1 c_10
                      rw [h1] at c_10; exact absurd c_10 (by decide)
                  · skip
                    have c_9 := bI_1 c_9
                    rw [h1] at c_9; exact absurd c_9 (by decide)
                · skip
                  rw [mk_cle (by omega)] at c_8
                  first | omega | contradiction
              · skip
                rw [nI_leI (by omega) (by omega)] at c_7
                first | omega | contradiction
        · skip
          rw [nI_leI (by omega) (by omega)] at c_4
          first | omega | contradiction

set_option maxHeartbeats 1000000 in
set_option maxRecDepth 100000 in
theorem c_Mo_rE (l : Launch) (dC : Nat → ClassId) (dI : Nat → Nat → Nat) (cI : ClassId) (m0 : Nat) (th : Int32) (mu mz mb mr : Nat) (U Z B b : Nat → Nat) (r q : Nat) (hU : ∀ j, U j < 65536) (hZ : ∀ j, Z j ≤ 255) (hB : ∀ j, B j < 65536) (hb9 : ∀ j, b j < 65536) (hr : r < 2) (h1 : isF B (32 * q) = true) (hq : q < 32) : mM l y_Mo_read w_Mo_read ({ frames := 2, cells := 0, slots := 0, locals := 45 } : Room) [.ref m0, .int (nI r), .int (nI q), .int (nI 0)] (dC, dI) vwCl [(cI, .int)] [(m0, .inr (5, [.int th, .ref mu, .ref mz, .ref mb, .ref mr])), (mu, .inl (cI, 510, .inl (nf U))), (mz, .inl (cI, 2, .inl (nf Z))), (mb, .inl (cI, 1024, .inl (nf B))), (mr, .inl (cI, 11, .inl (nf b)))] (some (.int (nI (rsC B (32 * q) 11 0 0)))) [(m0, .inr (5, [.int (nI 0), .ref mu, .ref mz, .ref mb, .ref mr])), (mu, .inl (cI, 510, .inl (nf (rsU B (32 * q) r 11 0 0 U)))), (mz, .inl (cI, 2, .inl (nf (uN Z r (rsC B (32 * q) 11 0 0))))), (mb, .inl (cI, 1024, .inl (nf B))), (mr, .inl (cI, 11, .inl (nf b)))] := by
  have hZr := hZ r
  refine mk_Mi (cc := b_Mo_read) (maxL := 6) (by decide) rfl (Nat.le_of_ble_eq_true rfl) rfl ?_
  intro p e s m below meth c Q A ls S hP hK hT hS hl hD hA hret
  obtain ⟨hx, hb, hml, hown, hts⟩ := id S
  have hl : lv_has ls 6 [(0, .ref m0), (1, .int (nI r)), (2, .int (nI q)), (3, .int (nI 0))] := hl
  refine lv_iload_n hx hb d_Mo_read_0 rfl (lv_at hl 1 rfl) ?_
  refine mk_r1 (W.runS (As := [.int (nI r)]) (rest := []) S (c_Mo_rowN l dC dI cI r (by first | assumption | omega)) (gS 1 hts k_546 k_547 k_29 k_548 (by decide +kernel) ⟨Nat.le_of_ble_eq_true rfl, Nat.le_of_ble_eq_true rfl⟩) (mk_sR hP hK hT hS [] rfl) rfl rfl hl.1 rfl (lv_room (Nat.le_of_ble_eq_true rfl)) d_Mo_read_1 ⟨Nat.zero_le _, Nat.zero_le _⟩) ?_
  refine lv_if_eq (tgt := 14) hx hb d_Mo_read_4 (by decide) (fun c_1 => ?_) (fun c_1 => ?_)
  · skip
    rw [mk_ceq (by omega)] at c_1
    first | omega | contradiction
  · skip
    rw [mk_ceq (by omega)] at c_1
    refine lv_aload_n hx hb d_Mo_read_7 rfl (lv_at hl 0 rfl) ?_
    refine va_get (D := (dC, dI)) (ci := 5) (v := .ref mz) (C := "LongNamesModel") (T := F_Mo) (N := 5) hx hb hts (iw_Mo _) hown hK hP 0 rfl rfl 2 (by decide) (hts _ (List.mem_cons_of_mem _ k_524)) (fun _ h9 => h9) rfl d_Mo_read_8 ?_
    refine lv_iload_n hx hb d_Mo_read_11 rfl (lv_at hl 1 rfl) ?_
    refine lv_iconst (v := nI 0) hx hb d_Mo_read_12 (by decide) ?_
    refine va_iast hx hb hK hP hD hS 2 0 rfl rfl (vp_in_nI (N := 2) (show r < 2 by omega) (by decide)) d_Mo_read_13 (fun H locs hP hD hS => ?_)
    rw [nI_clamp (by omega), nf_up] at hP hD
    have hP : va_P (dC, dI) vwCl [(m0, .inr (5, [.int th, .ref mu, .ref mz, .ref mb, .ref mr])), (mu, .inl (cI, 510, .inl (nf U))), (mz, .inl (cI, 2, .inl (nf (uN Z r 0)))), (mb, .inl (cI, 1024, .inl (nf B))), (mr, .inl (cI, 11, .inl (nf b)))] H := hP
    have hD : va_D A [(m0, .inr (5, [.int th, .ref mu, .ref mz, .ref mb, .ref mr])), (mu, .inl (cI, 510, .inl (nf U))), (mz, .inl (cI, 2, .inl (nf (uN Z r 0)))), (mb, .inl (cI, 1024, .inl (nf B))), (mr, .inl (cI, 11, .inl (nf b)))] := hD
    refine lv_aload_n hx hb d_Mo_read_14 rfl (lv_at hl 0 rfl) ?_
    refine lv_iload_n hx hb d_Mo_read_15 rfl (lv_at hl 1 rfl) ?_
    refine mk_r1 (W.runS (As := [.int (nI r)]) (rest := [.ref m0]) S (c_Mo_rowN l dC dI cI r (by first | assumption | omega)) (gS 1 hts k_546 k_547 k_29 k_548 (by decide +kernel) ⟨Nat.le_of_ble_eq_true rfl, Nat.le_of_ble_eq_true rfl⟩) (mk_sR hP hK hT hS [] rfl) rfl rfl hl.1 rfl (lv_room (Nat.le_of_ble_eq_true rfl)) d_Mo_read_16 ⟨Nat.zero_le _, Nat.zero_le _⟩) ?_
    refine lv_if_eq (tgt := 32) hx hb d_Mo_read_19 (by decide) (fun c_2 => ?_) (fun c_2 => ?_)
    · skip
      rw [mk_ceq (by omega)] at c_2
      first | omega | contradiction
    · skip
      rw [mk_ceq (by omega)] at c_2
      refine lv_iload_n hx hb d_Mo_read_22 rfl (lv_at hl 3 rfl) ?_
      refine lv_if_lt (tgt := 32) hx hb d_Mo_read_23 (by decide) (fun c_3 => ?_) (fun c_3 => ?_)
      · skip
        rw [mk_clt (by omega)] at c_3
        first | omega | contradiction
      · skip
        rw [mk_clt (by omega)] at c_3
        refine lv_iload_n hx hb d_Mo_read_26 rfl (lv_at hl 3 rfl) ?_
        refine lv_bipush (v := nI 20) hx hb d_Mo_read_27 (by decide) ?_
        refine lv_icmp_le (tgt := 36) hx hb d_Mo_read_29 (by decide) (fun c_4 => ?_) (fun c_4 => ?_)
        · skip
          rw [nI_leI (by omega) (by omega)] at c_4
          refine lv_iload_n hx hb d_Mo_read_36 rfl (lv_at hl 2 rfl) ?_
          refine lv_if_lt (tgt := 51) hx hb d_Mo_read_37 (by decide) (fun c_5 => ?_) (fun c_5 => ?_)
          · skip
            rw [mk_clt (by omega)] at c_5
            first | omega | contradiction
          · skip
            rw [mk_clt (by omega)] at c_5
            refine lv_iload_n hx hb d_Mo_read_40 rfl (lv_at hl 2 rfl) ?_
            refine lv_bipush (v := nI 31) hx hb d_Mo_read_41 (by decide) ?_
            refine lv_icmp_gt (tgt := 51) hx hb d_Mo_read_43 (by decide) (fun c_6 => ?_) (fun c_6 => ?_)
            · skip
              rw [nI_ltI (by omega) (by omega)] at c_6
              first | omega | contradiction
            · skip
              rw [nI_ltI (by omega) (by omega)] at c_6
              refine lv_iload_n hx hb d_Mo_read_46 rfl (lv_at hl 2 rfl) ?_
              refine lv_iload_n hx hb d_Mo_read_47 rfl (lv_at hl 3 rfl) ?_
              refine lv_icmp_ge (tgt := 55) hx hb d_Mo_read_48 (by decide) (fun c_7 => ?_) (fun c_7 => ?_)
              · skip
                rw [nI_leI (by omega) (by omega)] at c_7
                refine lv_iconst (v := nI 0) hx hb d_Mo_read_55 (by decide) ?_
                refine va_put (D := (dC, dI)) (ci := 5) (v := .int (nI 0)) (ty := .int) (C := "LongNamesModel") (T := F_Mo) (N := 5) hx hb hts (iw_Mo _) t_Mo t_Mo_ok n_Mo hown hK hP hD hS 0 rfl rfl 0 (by decide) (hts _ (List.mem_cons_of_mem _ k_522)) (fun _ h9 => h9) rfl (by decide +kernel) rfl rfl (Nat.le_of_ble_eq_true rfl) d_Mo_read_56 (fun H locs hP hD hS => ?_)
                have hP : va_P (dC, dI) vwCl [(m0, .inr (5, [.int (nI 0), .ref mu, .ref mz, .ref mb, .ref mr])), (mu, .inl (cI, 510, .inl (nf U))), (mz, .inl (cI, 2, .inl (nf (uN Z r 0)))), (mb, .inl (cI, 1024, .inl (nf B))), (mr, .inl (cI, 11, .inl (nf b)))] H := hP
                have hD : va_D A [(m0, .inr (5, [.int (nI 0), .ref mu, .ref mz, .ref mb, .ref mr])), (mu, .inl (cI, 510, .inl (nf U))), (mz, .inl (cI, 2, .inl (nf (uN Z r 0)))), (mb, .inl (cI, 1024, .inl (nf B))), (mr, .inl (cI, 11, .inl (nf b)))] := hD
                refine lv_aload_n hx hb d_Mo_read_59 rfl (lv_at hl 0 rfl) ?_
                refine va_get (D := (dC, dI)) (ci := 5) (v := .int (nI 0)) (C := "LongNamesModel") (T := F_Mo) (N := 5) hx hb hts (iw_Mo _) hown hK hP 0 rfl rfl 0 (by decide) (hts _ (List.mem_cons_of_mem _ k_522)) (fun _ h9 => h9) rfl d_Mo_read_60 ?_
                refine lv_if_le (tgt := 68) hx hb d_Mo_read_63 (by decide) (fun c_8 => ?_) (fun c_8 => ?_)
                · skip
                  rw [mk_cle (by omega)] at c_8
                  refine lv_bipush (v := nI 32) hx hb d_Mo_read_68 (by decide) ?_
                  refine lv_iload_n hx hb d_Mo_read_70 rfl (lv_at hl 2 rfl) ?_
                  refine lv_imul hx hb d_Mo_read_71 ?_
                  refine mk_ti (y := nI (32 * q)) (pk_mul 32 q) ?_
                  refine lv_istore (lv' := [(4, .int (nI (32 * q))), (0, .ref m0), (1, .int (nI r)), (2, .int (nI q)), (3, .int (nI 0))]) hx hb d_Mo_read_72 hl (by decide) rfl (fun ls hl => ?_)
                  refine lv_aload_n hx hb d_Mo_read_74 rfl (lv_at hl 1 rfl) ?_
                  refine lv_iload hx hb d_Mo_read_75 (lv_at hl 0 rfl) ?_
                  refine mk_r1 (W.runV (As := [.int (nI (32 * q))]) (rest := []) S (c_Mo_isS l dC dI cI m0 (nI 0) mu mz mb mr B (32 * q) (by first | assumption | omega) (by first | assumption | omega)) (gV 1 hts k_625 k_627 k_19 k_29 k_628 (by decide +kernel) ⟨Nat.le_of_ble_eq_true rfl, Nat.le_of_ble_eq_true rfl⟩) (mk_vR hP hK hT hS [0, 3] rfl (q0 := 0) (ci := 5) rfl rfl) rfl rfl hl.1 rfl (lv_room (Nat.le_of_ble_eq_true rfl)) d_Mo_read_77 ⟨Nat.zero_le _, Nat.zero_le _⟩) ?_
                  refine lv_istore (lv' := [(5, .int (bI (isF B (32 * q)))), (4, .int (nI (32 * q))), (0, .ref m0), (1, .int (nI r)), (2, .int (nI q)), (3, .int (nI 0))]) hx hb d_Mo_read_80 hl (by decide) rfl (fun ls hl => ?_)
                  refine lv_iload hx hb d_Mo_read_82 (lv_at hl 0 rfl) ?_
                  refine lv_if_eq (tgt := 98) hx hb d_Mo_read_84 (by decide) (fun c_9 => ?_) (fun c_9 => ?_)
                  · skip
                    have c_9 := bI_0 c_9
                    rw [h1] at c_9; exact absurd c_9 (by decide)
                  · skip
                    have c_9 := bI_1 c_9
                    refine lv_iload_n hx hb d_Mo_read_87 rfl (lv_at hl 5 rfl) ?_
                    refine lv_if_ne (tgt := 98) hx hb d_Mo_read_88 (by decide) (fun c_10 => ?_) (fun c_10 => ?_)
                    · skip
                      rw [mk_ceq (by omega)] at c_10
                      first | omega | contradiction
                    · skip
                      rw [mk_ceq (by omega)] at c_10
                      refine lv_aload_n hx hb d_Mo_read_91 rfl (lv_at hl 2 rfl) ?_
                      refine lv_iload_n hx hb d_Mo_read_92 rfl (lv_at hl 3 rfl) ?_
                      refine lv_iload hx hb d_Mo_read_93 (lv_at hl 1 rfl) ?_
                      refine mk_w0 (wr := [(mr, .inl (cI, 11, .inl (nf b)))]) (W.runV (As := [.int (nI r), .int (nI (32 * q))]) (rest := []) S ((c_Mo_rs l dC dI cI m0 (nI 0) mu mz mb mr U Z B r (32 * q) (by first | assumption | omega) (by first | assumption | omega) (by first | assumption | omega)) _) (gV 2 hts k_629 k_631 k_20 k_29 k_632 (by decide +kernel) ⟨Nat.le_of_ble_eq_true rfl, Nat.le_of_ble_eq_true rfl⟩) (mk_vM hP hD hK hT hS hA [0, 1, 2, 3] rfl rfl (by decide) (q0 := 0) (ci := 5) rfl rfl) rfl rfl hl.1 rfl (lv_room (Nat.le_of_ble_eq_true rfl)) d_Mo_read_95 ⟨Nat.zero_le _, Nat.zero_le _⟩) hP hD hS hA [0, 1, 2, 3] [4] rfl rfl (by decide) (by decide) (fun H locs hP hD hS => ?_)
                      have hP : va_P (dC, dI) vwCl [(m0, .inr (5, [.int (nI 0), .ref mu, .ref mz, .ref mb, .ref mr])), (mu, .inl (cI, 510, .inl (nf (rsU B (32 * q) r 11 0 0 U)))), (mz, .inl (cI, 2, .inl (nf (uN Z r (rsC B (32 * q) 11 0 0))))), (mb, .inl (cI, 1024, .inl (nf B))), (mr, .inl (cI, 11, .inl (nf b)))] H := hP.sub [1, 2, 3, 4, 0] rfl
                      have hD : va_D A [(m0, .inr (5, [.int (nI 0), .ref mu, .ref mz, .ref mb, .ref mr])), (mu, .inl (cI, 510, .inl (nf (rsU B (32 * q) r 11 0 0 U)))), (mz, .inl (cI, 2, .inl (nf (uN Z r (rsC B (32 * q) 11 0 0))))), (mb, .inl (cI, 1024, .inl (nf B))), (mr, .inl (cI, 11, .inl (nf b)))] := hD.sub [1, 2, 3, 4, 0] (by decide) rfl
                      refine lv_iload hx hb d_Mo_read_98 (lv_at hl 0 rfl) ?_
                      refine lv_if_eq (tgt := 117) hx hb d_Mo_read_100 (by decide) (fun c_11 => ?_) (fun c_11 => ?_)
                      · skip
                        have c_11 := bI_0 c_11
                        rw [h1] at c_11; exact absurd c_11 (by decide)
                      · skip
                        have c_11 := bI_1 c_11
                        refine lv_iload_n hx hb d_Mo_read_103 rfl (lv_at hl 5 rfl) ?_
                        refine lv_if_le (tgt := 117) hx hb d_Mo_read_104 (by decide) (fun c_12 => ?_) (fun c_12 => ?_)
                        · skip
                          rw [mk_cle (by omega)] at c_12
                          refine lv_iload hx hb d_Mo_read_117 (lv_at hl 0 rfl) ?_
                          refine lv_if_ne (tgt := 136) hx hb d_Mo_read_119 (by decide) (fun c_13 => ?_) (fun c_13 => ?_)
                          · skip
                            have c_13 := bI_1 c_13
                            refine lv_aload_n hx hb d_Mo_read_136 rfl (lv_at hl 2 rfl) ?_
                            refine va_get (D := (dC, dI)) (ci := 5) (v := .ref mz) (C := "LongNamesModel") (T := F_Mo) (N := 5) hx hb hts (iw_Mo _) hown hK hP 0 rfl rfl 2 (by decide) (hts _ (List.mem_cons_of_mem _ k_524)) (fun _ h9 => h9) rfl d_Mo_read_137 ?_
                            refine lv_iload_n hx hb d_Mo_read_140 rfl (lv_at hl 3 rfl) ?_
                            refine va_iald hx hb hK hP 2 0 rfl rfl (vp_in_nI (N := 2) (show r < 2 by omega) (by decide)) d_Mo_read_141 ?_
                            refine mk_ti (y := nI (rsC B (32 * q) 11 0 0)) (by rw [nI_clamp (by omega)]; exact mk_uat) ?_
                            exact hret _ _ _ _ d_Mo_read_142 hP hD hS
                          · skip
                            have c_13 := bI_0 c_13
                            rw [h1] at c_13; exact absurd c_13 (by decide)
                        · skip
                          rw [mk_cle (by omega)] at c_12
                          first | omega | contradiction
                · skip
                  rw [mk_cle (by omega)] at c_8
                  first | omega | contradiction
              · skip
                rw [nI_leI (by omega) (by omega)] at c_7
                first | omega | contradiction
        · skip
          rw [nI_leI (by omega) (by omega)] at c_4
          first | omega | contradiction

set_option maxHeartbeats 1000000 in
set_option maxRecDepth 100000 in
theorem c_Mo_rT (l : Launch) (dC : Nat → ClassId) (dI : Nat → Nat → Nat) (cI : ClassId) (m0 : Nat) (th : Int32) (mu mz mb mr : Nat) (U Z B b : Nat → Nat) (r q p9 c5 : Nat) (hU : ∀ j, U j < 65536) (hZ : ∀ j, Z j ≤ 255) (hB : ∀ j, B j < 65536) (hb9 : ∀ j, b j < 65536) (hr : r < 2) (h1 : isF B (32 * q) = true) (hB6 : ∀ j, B j < 256) (hq : q < 32) (hp7 : 1 ≤ p9 ∧ p9 ≤ 20 ∧ p9 ≤ q) (hc : c5 ≤ 255) (hcp : c5 ≤ 13 * p9) (hn0 : ∀ t, t < c5 → mt B (32 * q) t ≠ 0) (hcE : c5 = 13 * p9 ∨ (13 * (p9 - 1) < c5 ∧ c5 < 13 * p9)) (h0 : c5 < 13 * p9 → mt B (32 * q) c5 = 0) (h6 : ∀ t, c5 < t → t < 13 * p9 → mt B (32 * q) t = 65535) (hown9 : ∀ p8 b8, 1 ≤ p8 → p8 ≤ p9 → b8 < 28 → owB b8 = true → B (32 * q - 32 * p8 + b8) = duN b8 p8 (if p8 = p9 then 1 else 0) (suN B (32 * q) 11)) (hnm : nameN (mt B (32 * q)) c5 = true) : mM l y_Mo_read w_Mo_read ({ frames := 3, cells := 0, slots := 0, locals := 74 } : Room) [.ref m0, .int (nI r), .int (nI q), .int (nI p9)] (dC, dI) vwCl [(cI, .int)] [(m0, .inr (5, [.int th, .ref mu, .ref mz, .ref mb, .ref mr])), (mu, .inl (cI, 510, .inl (nf U))), (mz, .inl (cI, 2, .inl (nf Z))), (mb, .inl (cI, 1024, .inl (nf B))), (mr, .inl (cI, 11, .inl (nf b)))] (some (.int (nI c5))) [(m0, .inr (5, [.int (nI 0), .ref mu, .ref mz, .ref mb, .ref mr])), (mu, .inl (cI, 510, .inl (nf (stN U (mt B (32 * q)) (255 * r) c5)))), (mz, .inl (cI, 2, .inl (nf (uN Z r c5)))), (mb, .inl (cI, 1024, .inl (nf B))), (mr, .inl (cI, 11, .inl (nf b)))] := by
  have hZr := hZ r
  refine mk_Mi (cc := b_Mo_read) (maxL := 6) (by decide) rfl (Nat.le_of_ble_eq_true rfl) rfl ?_
  intro p e s m below meth c Q A ls S hP hK hT hS hl hD hA hret
  obtain ⟨hx, hb, hml, hown, hts⟩ := id S
  have hl : lv_has ls 6 [(0, .ref m0), (1, .int (nI r)), (2, .int (nI q)), (3, .int (nI p9))] := hl
  refine lv_iload_n hx hb d_Mo_read_0 rfl (lv_at hl 1 rfl) ?_
  refine mk_r1 (W.runS (As := [.int (nI r)]) (rest := []) S (c_Mo_rowN l dC dI cI r (by first | assumption | omega)) (gS 1 hts k_546 k_547 k_29 k_548 (by decide +kernel) ⟨Nat.le_of_ble_eq_true rfl, Nat.le_of_ble_eq_true rfl⟩) (mk_sR hP hK hT hS [] rfl) rfl rfl hl.1 rfl (lv_room (Nat.le_of_ble_eq_true rfl)) d_Mo_read_1 ⟨Nat.zero_le _, Nat.zero_le _⟩) ?_
  refine lv_if_eq (tgt := 14) hx hb d_Mo_read_4 (by decide) (fun c_1 => ?_) (fun c_1 => ?_)
  · skip
    rw [mk_ceq (by omega)] at c_1
    first | omega | contradiction
  · skip
    rw [mk_ceq (by omega)] at c_1
    refine lv_aload_n hx hb d_Mo_read_7 rfl (lv_at hl 0 rfl) ?_
    refine va_get (D := (dC, dI)) (ci := 5) (v := .ref mz) (C := "LongNamesModel") (T := F_Mo) (N := 5) hx hb hts (iw_Mo _) hown hK hP 0 rfl rfl 2 (by decide) (hts _ (List.mem_cons_of_mem _ k_524)) (fun _ h9 => h9) rfl d_Mo_read_8 ?_
    refine lv_iload_n hx hb d_Mo_read_11 rfl (lv_at hl 1 rfl) ?_
    refine lv_iconst (v := nI 0) hx hb d_Mo_read_12 (by decide) ?_
    refine va_iast hx hb hK hP hD hS 2 0 rfl rfl (vp_in_nI (N := 2) (show r < 2 by omega) (by decide)) d_Mo_read_13 (fun H locs hP hD hS => ?_)
    rw [nI_clamp (by omega), nf_up] at hP hD
    have hP : va_P (dC, dI) vwCl [(m0, .inr (5, [.int th, .ref mu, .ref mz, .ref mb, .ref mr])), (mu, .inl (cI, 510, .inl (nf U))), (mz, .inl (cI, 2, .inl (nf (uN Z r 0)))), (mb, .inl (cI, 1024, .inl (nf B))), (mr, .inl (cI, 11, .inl (nf b)))] H := hP
    have hD : va_D A [(m0, .inr (5, [.int th, .ref mu, .ref mz, .ref mb, .ref mr])), (mu, .inl (cI, 510, .inl (nf U))), (mz, .inl (cI, 2, .inl (nf (uN Z r 0)))), (mb, .inl (cI, 1024, .inl (nf B))), (mr, .inl (cI, 11, .inl (nf b)))] := hD
    refine lv_aload_n hx hb d_Mo_read_14 rfl (lv_at hl 0 rfl) ?_
    refine lv_iload_n hx hb d_Mo_read_15 rfl (lv_at hl 1 rfl) ?_
    refine mk_r1 (W.runS (As := [.int (nI r)]) (rest := [.ref m0]) S (c_Mo_rowN l dC dI cI r (by first | assumption | omega)) (gS 1 hts k_546 k_547 k_29 k_548 (by decide +kernel) ⟨Nat.le_of_ble_eq_true rfl, Nat.le_of_ble_eq_true rfl⟩) (mk_sR hP hK hT hS [] rfl) rfl rfl hl.1 rfl (lv_room (Nat.le_of_ble_eq_true rfl)) d_Mo_read_16 ⟨Nat.zero_le _, Nat.zero_le _⟩) ?_
    refine lv_if_eq (tgt := 32) hx hb d_Mo_read_19 (by decide) (fun c_2 => ?_) (fun c_2 => ?_)
    · skip
      rw [mk_ceq (by omega)] at c_2
      first | omega | contradiction
    · skip
      rw [mk_ceq (by omega)] at c_2
      refine lv_iload_n hx hb d_Mo_read_22 rfl (lv_at hl 3 rfl) ?_
      refine lv_if_lt (tgt := 32) hx hb d_Mo_read_23 (by decide) (fun c_3 => ?_) (fun c_3 => ?_)
      · skip
        rw [mk_clt (by omega)] at c_3
        first | omega | contradiction
      · skip
        rw [mk_clt (by omega)] at c_3
        refine lv_iload_n hx hb d_Mo_read_26 rfl (lv_at hl 3 rfl) ?_
        refine lv_bipush (v := nI 20) hx hb d_Mo_read_27 (by decide) ?_
        refine lv_icmp_le (tgt := 36) hx hb d_Mo_read_29 (by decide) (fun c_4 => ?_) (fun c_4 => ?_)
        · skip
          rw [nI_leI (by omega) (by omega)] at c_4
          refine lv_iload_n hx hb d_Mo_read_36 rfl (lv_at hl 2 rfl) ?_
          refine lv_if_lt (tgt := 51) hx hb d_Mo_read_37 (by decide) (fun c_5 => ?_) (fun c_5 => ?_)
          · skip
            rw [mk_clt (by omega)] at c_5
            first | omega | contradiction
          · skip
            rw [mk_clt (by omega)] at c_5
            refine lv_iload_n hx hb d_Mo_read_40 rfl (lv_at hl 2 rfl) ?_
            refine lv_bipush (v := nI 31) hx hb d_Mo_read_41 (by decide) ?_
            refine lv_icmp_gt (tgt := 51) hx hb d_Mo_read_43 (by decide) (fun c_6 => ?_) (fun c_6 => ?_)
            · skip
              rw [nI_ltI (by omega) (by omega)] at c_6
              first | omega | contradiction
            · skip
              rw [nI_ltI (by omega) (by omega)] at c_6
              refine lv_iload_n hx hb d_Mo_read_46 rfl (lv_at hl 2 rfl) ?_
              refine lv_iload_n hx hb d_Mo_read_47 rfl (lv_at hl 3 rfl) ?_
              refine lv_icmp_ge (tgt := 55) hx hb d_Mo_read_48 (by decide) (fun c_7 => ?_) (fun c_7 => ?_)
              · skip
                rw [nI_leI (by omega) (by omega)] at c_7
                refine lv_iconst (v := nI 0) hx hb d_Mo_read_55 (by decide) ?_
                refine va_put (D := (dC, dI)) (ci := 5) (v := .int (nI 0)) (ty := .int) (C := "LongNamesModel") (T := F_Mo) (N := 5) hx hb hts (iw_Mo _) t_Mo t_Mo_ok n_Mo hown hK hP hD hS 0 rfl rfl 0 (by decide) (hts _ (List.mem_cons_of_mem _ k_522)) (fun _ h9 => h9) rfl (by decide +kernel) rfl rfl (Nat.le_of_ble_eq_true rfl) d_Mo_read_56 (fun H locs hP hD hS => ?_)
                have hP : va_P (dC, dI) vwCl [(m0, .inr (5, [.int (nI 0), .ref mu, .ref mz, .ref mb, .ref mr])), (mu, .inl (cI, 510, .inl (nf U))), (mz, .inl (cI, 2, .inl (nf (uN Z r 0)))), (mb, .inl (cI, 1024, .inl (nf B))), (mr, .inl (cI, 11, .inl (nf b)))] H := hP
                have hD : va_D A [(m0, .inr (5, [.int (nI 0), .ref mu, .ref mz, .ref mb, .ref mr])), (mu, .inl (cI, 510, .inl (nf U))), (mz, .inl (cI, 2, .inl (nf (uN Z r 0)))), (mb, .inl (cI, 1024, .inl (nf B))), (mr, .inl (cI, 11, .inl (nf b)))] := hD
                refine lv_aload_n hx hb d_Mo_read_59 rfl (lv_at hl 0 rfl) ?_
                refine va_get (D := (dC, dI)) (ci := 5) (v := .int (nI 0)) (C := "LongNamesModel") (T := F_Mo) (N := 5) hx hb hts (iw_Mo _) hown hK hP 0 rfl rfl 0 (by decide) (hts _ (List.mem_cons_of_mem _ k_522)) (fun _ h9 => h9) rfl d_Mo_read_60 ?_
                refine lv_if_le (tgt := 68) hx hb d_Mo_read_63 (by decide) (fun c_8 => ?_) (fun c_8 => ?_)
                · skip
                  rw [mk_cle (by omega)] at c_8
                  refine lv_bipush (v := nI 32) hx hb d_Mo_read_68 (by decide) ?_
                  refine lv_iload_n hx hb d_Mo_read_70 rfl (lv_at hl 2 rfl) ?_
                  refine lv_imul hx hb d_Mo_read_71 ?_
                  refine mk_ti (y := nI (32 * q)) (pk_mul 32 q) ?_
                  refine lv_istore (lv' := [(4, .int (nI (32 * q))), (0, .ref m0), (1, .int (nI r)), (2, .int (nI q)), (3, .int (nI p9))]) hx hb d_Mo_read_72 hl (by decide) rfl (fun ls hl => ?_)
                  refine lv_aload_n hx hb d_Mo_read_74 rfl (lv_at hl 1 rfl) ?_
                  refine lv_iload hx hb d_Mo_read_75 (lv_at hl 0 rfl) ?_
                  refine mk_r1 (W.runV (As := [.int (nI (32 * q))]) (rest := []) S (c_Mo_isS l dC dI cI m0 (nI 0) mu mz mb mr B (32 * q) (by first | assumption | omega) (by first | assumption | omega)) (gV 1 hts k_625 k_627 k_19 k_29 k_628 (by decide +kernel) ⟨Nat.le_of_ble_eq_true rfl, Nat.le_of_ble_eq_true rfl⟩) (mk_vR hP hK hT hS [0, 3] rfl (q0 := 0) (ci := 5) rfl rfl) rfl rfl hl.1 rfl (lv_room (Nat.le_of_ble_eq_true rfl)) d_Mo_read_77 ⟨Nat.zero_le _, Nat.zero_le _⟩) ?_
                  refine lv_istore (lv' := [(5, .int (bI (isF B (32 * q)))), (4, .int (nI (32 * q))), (0, .ref m0), (1, .int (nI r)), (2, .int (nI q)), (3, .int (nI p9))]) hx hb d_Mo_read_80 hl (by decide) rfl (fun ls hl => ?_)
                  refine lv_iload hx hb d_Mo_read_82 (lv_at hl 0 rfl) ?_
                  refine lv_if_eq (tgt := 98) hx hb d_Mo_read_84 (by decide) (fun c_9 => ?_) (fun c_9 => ?_)
                  · skip
                    have c_9 := bI_0 c_9
                    rw [h1] at c_9; exact absurd c_9 (by decide)
                  · skip
                    have c_9 := bI_1 c_9
                    refine lv_iload_n hx hb d_Mo_read_87 rfl (lv_at hl 5 rfl) ?_
                    refine lv_if_ne (tgt := 98) hx hb d_Mo_read_88 (by decide) (fun c_10 => ?_) (fun c_10 => ?_)
                    · skip
                      rw [mk_ceq (by omega)] at c_10
                      refine lv_iload hx hb d_Mo_read_98 (lv_at hl 0 rfl) ?_
                      refine lv_if_eq (tgt := 117) hx hb d_Mo_read_100 (by decide) (fun c_11 => ?_) (fun c_11 => ?_)
                      · skip
                        have c_11 := bI_0 c_11
                        rw [h1] at c_11; exact absurd c_11 (by decide)
                      · skip
                        have c_11 := bI_1 c_11
                        refine lv_iload_n hx hb d_Mo_read_103 rfl (lv_at hl 5 rfl) ?_
                        refine lv_if_le (tgt := 117) hx hb d_Mo_read_104 (by decide) (fun c_12 => ?_) (fun c_12 => ?_)
                        · skip
                          rw [mk_cle (by omega)] at c_12
                          first | omega | contradiction
                        · skip
                          rw [mk_cle (by omega)] at c_12
                          refine lv_aload_n hx hb d_Mo_read_107 rfl (lv_at hl 2 rfl) ?_
                          refine lv_iload_n hx hb d_Mo_read_108 rfl (lv_at hl 3 rfl) ?_
                          refine lv_iload hx hb d_Mo_read_109 (lv_at hl 1 rfl) ?_
                          refine lv_iload_n hx hb d_Mo_read_111 rfl (lv_at hl 5 rfl) ?_
                          refine mk_w1 (wr := [(mr, .inl (cI, 11, .inl (nf b)))]) (W.runV (As := [.int (nI r), .int (nI (32 * q)), .int (nI p9)]) (rest := []) S ((c_Mo_rpT l dC dI cI m0 (nI 0) mu mz mb mr U Z B r (32 * q) p9 c5 (by first | assumption | omega) (by first | assumption | omega) (by first | assumption | omega) (by first | assumption | omega) (by first | assumption | omega) (by first | assumption | omega) (by first | assumption | omega) (by first | assumption | omega) (by first | assumption | omega) (by first | assumption | omega) (by first | assumption | omega) (by first | assumption | omega) (by first | assumption | omega) (by first | assumption | omega) (by first | assumption | omega)) _) (gV 3 hts k_637 k_639 k_22 k_29 k_640 (by decide +kernel) ⟨Nat.le_of_ble_eq_true rfl, Nat.le_of_ble_eq_true rfl⟩) (mk_vM hP hD hK hT hS hA [0, 1, 2, 3] rfl rfl (by decide) (q0 := 0) (ci := 5) rfl rfl) rfl rfl hl.1 rfl (lv_room (Nat.le_of_ble_eq_true rfl)) d_Mo_read_112 ⟨Nat.zero_le _, Nat.zero_le _⟩) hP hD hS hA [0, 1, 2, 3] [4] rfl rfl (by decide) (by decide) (fun H locs hP hD hS => ?_)
                          have hP : va_P (dC, dI) vwCl [(m0, .inr (5, [.int (nI 0), .ref mu, .ref mz, .ref mb, .ref mr])), (mu, .inl (cI, 510, .inl (nf (stN U (mt B (32 * q)) (255 * r) c5)))), (mz, .inl (cI, 2, .inl (nf (uN Z r c5)))), (mb, .inl (cI, 1024, .inl (nf B))), (mr, .inl (cI, 11, .inl (nf b)))] H := hP.sub [1, 2, 3, 4, 0] rfl
                          have hD : va_D A [(m0, .inr (5, [.int (nI 0), .ref mu, .ref mz, .ref mb, .ref mr])), (mu, .inl (cI, 510, .inl (nf (stN U (mt B (32 * q)) (255 * r) c5)))), (mz, .inl (cI, 2, .inl (nf (uN Z r c5)))), (mb, .inl (cI, 1024, .inl (nf B))), (mr, .inl (cI, 11, .inl (nf b)))] := hD.sub [1, 2, 3, 4, 0] (by decide) rfl
                          refine lv_istore (lv' := [(5, .int (bI (nameN (mt B (32 * q)) c5))), (4, .int (nI (32 * q))), (0, .ref m0), (1, .int (nI r)), (2, .int (nI q)), (3, .int (nI p9))]) hx hb d_Mo_read_115 hl (by decide) rfl (fun ls hl => ?_)
                          refine lv_iload hx hb d_Mo_read_117 (lv_at hl 0 rfl) ?_
                          refine lv_if_ne (tgt := 136) hx hb d_Mo_read_119 (by decide) (fun c_13 => ?_) (fun c_13 => ?_)
                          · skip
                            have c_13 := bI_1 c_13
                            refine lv_aload_n hx hb d_Mo_read_136 rfl (lv_at hl 2 rfl) ?_
                            refine va_get (D := (dC, dI)) (ci := 5) (v := .ref mz) (C := "LongNamesModel") (T := F_Mo) (N := 5) hx hb hts (iw_Mo _) hown hK hP 0 rfl rfl 2 (by decide) (hts _ (List.mem_cons_of_mem _ k_524)) (fun _ h9 => h9) rfl d_Mo_read_137 ?_
                            refine lv_iload_n hx hb d_Mo_read_140 rfl (lv_at hl 3 rfl) ?_
                            refine va_iald hx hb hK hP 2 0 rfl rfl (vp_in_nI (N := 2) (show r < 2 by omega) (by decide)) d_Mo_read_141 ?_
                            refine mk_ti (y := nI c5) (by rw [nI_clamp (by omega)]; exact mk_uat) ?_
                            exact hret _ _ _ _ d_Mo_read_142 hP hD hS
                          · skip
                            have c_13 := bI_0 c_13
                            rw [hnm] at c_13; exact absurd c_13 (by decide)
                    · skip
                      rw [mk_ceq (by omega)] at c_10
                      first | omega | contradiction
                · skip
                  rw [mk_cle (by omega)] at c_8
                  first | omega | contradiction
              · skip
                rw [nI_leI (by omega) (by omega)] at c_7
                first | omega | contradiction
        · skip
          rw [nI_leI (by omega) (by omega)] at c_4
          first | omega | contradiction

set_option maxHeartbeats 1000000 in
set_option maxRecDepth 100000 in
theorem c_Mo_rF (l : Launch) (dC : Nat → ClassId) (dI : Nat → Nat → Nat) (cI : ClassId) (m0 : Nat) (th : Int32) (mu mz mb mr : Nat) (U Z B b : Nat → Nat) (r q p9 : Nat) (hU : ∀ j, U j < 65536) (hZ : ∀ j, Z j ≤ 255) (hB : ∀ j, B j < 65536) (hb9 : ∀ j, b j < 65536) (hr : r < 2) (h1 : isF B (32 * q) = true) (hB6 : ∀ j, B j < 256) (hq : q < 32) (hp7 : 1 ≤ p9 ∧ p9 ≤ 20 ∧ p9 ≤ q) (hbad : ∀ c5, c5 ≤ 255 → c5 ≤ 13 * p9 → (∀ t, t < c5 → mt B (32 * q) t ≠ 0) → (c5 = 13 * p9 ∨ (13 * (p9 - 1) < c5 ∧ c5 < 13 * p9)) → (c5 < 13 * p9 → mt B (32 * q) c5 = 0) → (∀ t, c5 < t → t < 13 * p9 → mt B (32 * q) t = 65535) → (∀ p8 b8, 1 ≤ p8 → p8 ≤ p9 → b8 < 28 → owB b8 = true → B (32 * q - 32 * p8 + b8) = duN b8 p8 (if p8 = p9 then 1 else 0) (suN B (32 * q) 11)) → nameN (mt B (32 * q)) c5 = false) : mE l y_Mo_read w_Mo_read ({ frames := 3, cells := 0, slots := 0, locals := 74 } : Room) [.ref m0, .int (nI r), .int (nI q), .int (nI p9)] (dC, dI) vwCl [(cI, .int)] [(m0, .inr (5, [.int th, .ref mu, .ref mz, .ref mb, .ref mr])), (mu, .inl (cI, 510, .inl (nf U))), (mz, .inl (cI, 2, .inl (nf Z))), (mb, .inl (cI, 1024, .inl (nf B))), (mr, .inl (cI, 11, .inl (nf b)))] (some (.int (nI 0))) (fun q9 c8 => [(m0, .inr (5, [.int (nI 3), .ref mu, .ref mz, .ref mb, .ref mr])), (mu, .inl (cI, 510, .inl (nf (stN U q9 (255 * r) c8)))), (mz, .inl (cI, 2, .inl (nf (uN Z r 0)))), (mb, .inl (cI, 1024, .inl (nf B))), (mr, .inl (cI, 11, .inl (nf b)))]) := by
  have hZr := hZ r
  refine mk_Ei (cc := b_Mo_read) (maxL := 6) (by decide) rfl (Nat.le_of_ble_eq_true rfl) rfl ?_
  intro p e s m below meth c Q A ls S hP hK hT hS hl hD hA hret
  obtain ⟨hx, hb, hml, hown, hts⟩ := id S
  have hl : lv_has ls 6 [(0, .ref m0), (1, .int (nI r)), (2, .int (nI q)), (3, .int (nI p9))] := hl
  refine lv_iload_n hx hb d_Mo_read_0 rfl (lv_at hl 1 rfl) ?_
  refine mk_r1 (W.runS (As := [.int (nI r)]) (rest := []) S (c_Mo_rowN l dC dI cI r (by first | assumption | omega)) (gS 1 hts k_546 k_547 k_29 k_548 (by decide +kernel) ⟨Nat.le_of_ble_eq_true rfl, Nat.le_of_ble_eq_true rfl⟩) (mk_sR hP hK hT hS [] rfl) rfl rfl hl.1 rfl (lv_room (Nat.le_of_ble_eq_true rfl)) d_Mo_read_1 ⟨Nat.zero_le _, Nat.zero_le _⟩) ?_
  refine lv_if_eq (tgt := 14) hx hb d_Mo_read_4 (by decide) (fun c_1 => ?_) (fun c_1 => ?_)
  · skip
    rw [mk_ceq (by omega)] at c_1
    first | omega | contradiction
  · skip
    rw [mk_ceq (by omega)] at c_1
    refine lv_aload_n hx hb d_Mo_read_7 rfl (lv_at hl 0 rfl) ?_
    refine va_get (D := (dC, dI)) (ci := 5) (v := .ref mz) (C := "LongNamesModel") (T := F_Mo) (N := 5) hx hb hts (iw_Mo _) hown hK hP 0 rfl rfl 2 (by decide) (hts _ (List.mem_cons_of_mem _ k_524)) (fun _ h9 => h9) rfl d_Mo_read_8 ?_
    refine lv_iload_n hx hb d_Mo_read_11 rfl (lv_at hl 1 rfl) ?_
    refine lv_iconst (v := nI 0) hx hb d_Mo_read_12 (by decide) ?_
    refine va_iast hx hb hK hP hD hS 2 0 rfl rfl (vp_in_nI (N := 2) (show r < 2 by omega) (by decide)) d_Mo_read_13 (fun H locs hP hD hS => ?_)
    rw [nI_clamp (by omega), nf_up] at hP hD
    have hP : va_P (dC, dI) vwCl [(m0, .inr (5, [.int th, .ref mu, .ref mz, .ref mb, .ref mr])), (mu, .inl (cI, 510, .inl (nf U))), (mz, .inl (cI, 2, .inl (nf (uN Z r 0)))), (mb, .inl (cI, 1024, .inl (nf B))), (mr, .inl (cI, 11, .inl (nf b)))] H := hP
    have hD : va_D A [(m0, .inr (5, [.int th, .ref mu, .ref mz, .ref mb, .ref mr])), (mu, .inl (cI, 510, .inl (nf U))), (mz, .inl (cI, 2, .inl (nf (uN Z r 0)))), (mb, .inl (cI, 1024, .inl (nf B))), (mr, .inl (cI, 11, .inl (nf b)))] := hD
    refine lv_aload_n hx hb d_Mo_read_14 rfl (lv_at hl 0 rfl) ?_
    refine lv_iload_n hx hb d_Mo_read_15 rfl (lv_at hl 1 rfl) ?_
    refine mk_r1 (W.runS (As := [.int (nI r)]) (rest := [.ref m0]) S (c_Mo_rowN l dC dI cI r (by first | assumption | omega)) (gS 1 hts k_546 k_547 k_29 k_548 (by decide +kernel) ⟨Nat.le_of_ble_eq_true rfl, Nat.le_of_ble_eq_true rfl⟩) (mk_sR hP hK hT hS [] rfl) rfl rfl hl.1 rfl (lv_room (Nat.le_of_ble_eq_true rfl)) d_Mo_read_16 ⟨Nat.zero_le _, Nat.zero_le _⟩) ?_
    refine lv_if_eq (tgt := 32) hx hb d_Mo_read_19 (by decide) (fun c_2 => ?_) (fun c_2 => ?_)
    · skip
      rw [mk_ceq (by omega)] at c_2
      first | omega | contradiction
    · skip
      rw [mk_ceq (by omega)] at c_2
      refine lv_iload_n hx hb d_Mo_read_22 rfl (lv_at hl 3 rfl) ?_
      refine lv_if_lt (tgt := 32) hx hb d_Mo_read_23 (by decide) (fun c_3 => ?_) (fun c_3 => ?_)
      · skip
        rw [mk_clt (by omega)] at c_3
        first | omega | contradiction
      · skip
        rw [mk_clt (by omega)] at c_3
        refine lv_iload_n hx hb d_Mo_read_26 rfl (lv_at hl 3 rfl) ?_
        refine lv_bipush (v := nI 20) hx hb d_Mo_read_27 (by decide) ?_
        refine lv_icmp_le (tgt := 36) hx hb d_Mo_read_29 (by decide) (fun c_4 => ?_) (fun c_4 => ?_)
        · skip
          rw [nI_leI (by omega) (by omega)] at c_4
          refine lv_iload_n hx hb d_Mo_read_36 rfl (lv_at hl 2 rfl) ?_
          refine lv_if_lt (tgt := 51) hx hb d_Mo_read_37 (by decide) (fun c_5 => ?_) (fun c_5 => ?_)
          · skip
            rw [mk_clt (by omega)] at c_5
            first | omega | contradiction
          · skip
            rw [mk_clt (by omega)] at c_5
            refine lv_iload_n hx hb d_Mo_read_40 rfl (lv_at hl 2 rfl) ?_
            refine lv_bipush (v := nI 31) hx hb d_Mo_read_41 (by decide) ?_
            refine lv_icmp_gt (tgt := 51) hx hb d_Mo_read_43 (by decide) (fun c_6 => ?_) (fun c_6 => ?_)
            · skip
              rw [nI_ltI (by omega) (by omega)] at c_6
              first | omega | contradiction
            · skip
              rw [nI_ltI (by omega) (by omega)] at c_6
              refine lv_iload_n hx hb d_Mo_read_46 rfl (lv_at hl 2 rfl) ?_
              refine lv_iload_n hx hb d_Mo_read_47 rfl (lv_at hl 3 rfl) ?_
              refine lv_icmp_ge (tgt := 55) hx hb d_Mo_read_48 (by decide) (fun c_7 => ?_) (fun c_7 => ?_)
              · skip
                rw [nI_leI (by omega) (by omega)] at c_7
                refine lv_iconst (v := nI 0) hx hb d_Mo_read_55 (by decide) ?_
                refine va_put (D := (dC, dI)) (ci := 5) (v := .int (nI 0)) (ty := .int) (C := "LongNamesModel") (T := F_Mo) (N := 5) hx hb hts (iw_Mo _) t_Mo t_Mo_ok n_Mo hown hK hP hD hS 0 rfl rfl 0 (by decide) (hts _ (List.mem_cons_of_mem _ k_522)) (fun _ h9 => h9) rfl (by decide +kernel) rfl rfl (Nat.le_of_ble_eq_true rfl) d_Mo_read_56 (fun H locs hP hD hS => ?_)
                have hP : va_P (dC, dI) vwCl [(m0, .inr (5, [.int (nI 0), .ref mu, .ref mz, .ref mb, .ref mr])), (mu, .inl (cI, 510, .inl (nf U))), (mz, .inl (cI, 2, .inl (nf (uN Z r 0)))), (mb, .inl (cI, 1024, .inl (nf B))), (mr, .inl (cI, 11, .inl (nf b)))] H := hP
                have hD : va_D A [(m0, .inr (5, [.int (nI 0), .ref mu, .ref mz, .ref mb, .ref mr])), (mu, .inl (cI, 510, .inl (nf U))), (mz, .inl (cI, 2, .inl (nf (uN Z r 0)))), (mb, .inl (cI, 1024, .inl (nf B))), (mr, .inl (cI, 11, .inl (nf b)))] := hD
                refine lv_aload_n hx hb d_Mo_read_59 rfl (lv_at hl 0 rfl) ?_
                refine va_get (D := (dC, dI)) (ci := 5) (v := .int (nI 0)) (C := "LongNamesModel") (T := F_Mo) (N := 5) hx hb hts (iw_Mo _) hown hK hP 0 rfl rfl 0 (by decide) (hts _ (List.mem_cons_of_mem _ k_522)) (fun _ h9 => h9) rfl d_Mo_read_60 ?_
                refine lv_if_le (tgt := 68) hx hb d_Mo_read_63 (by decide) (fun c_8 => ?_) (fun c_8 => ?_)
                · skip
                  rw [mk_cle (by omega)] at c_8
                  refine lv_bipush (v := nI 32) hx hb d_Mo_read_68 (by decide) ?_
                  refine lv_iload_n hx hb d_Mo_read_70 rfl (lv_at hl 2 rfl) ?_
                  refine lv_imul hx hb d_Mo_read_71 ?_
                  refine mk_ti (y := nI (32 * q)) (pk_mul 32 q) ?_
                  refine lv_istore (lv' := [(4, .int (nI (32 * q))), (0, .ref m0), (1, .int (nI r)), (2, .int (nI q)), (3, .int (nI p9))]) hx hb d_Mo_read_72 hl (by decide) rfl (fun ls hl => ?_)
                  refine lv_aload_n hx hb d_Mo_read_74 rfl (lv_at hl 1 rfl) ?_
                  refine lv_iload hx hb d_Mo_read_75 (lv_at hl 0 rfl) ?_
                  refine mk_r1 (W.runV (As := [.int (nI (32 * q))]) (rest := []) S (c_Mo_isS l dC dI cI m0 (nI 0) mu mz mb mr B (32 * q) (by first | assumption | omega) (by first | assumption | omega)) (gV 1 hts k_625 k_627 k_19 k_29 k_628 (by decide +kernel) ⟨Nat.le_of_ble_eq_true rfl, Nat.le_of_ble_eq_true rfl⟩) (mk_vR hP hK hT hS [0, 3] rfl (q0 := 0) (ci := 5) rfl rfl) rfl rfl hl.1 rfl (lv_room (Nat.le_of_ble_eq_true rfl)) d_Mo_read_77 ⟨Nat.zero_le _, Nat.zero_le _⟩) ?_
                  refine lv_istore (lv' := [(5, .int (bI (isF B (32 * q)))), (4, .int (nI (32 * q))), (0, .ref m0), (1, .int (nI r)), (2, .int (nI q)), (3, .int (nI p9))]) hx hb d_Mo_read_80 hl (by decide) rfl (fun ls hl => ?_)
                  refine lv_iload hx hb d_Mo_read_82 (lv_at hl 0 rfl) ?_
                  refine lv_if_eq (tgt := 98) hx hb d_Mo_read_84 (by decide) (fun c_9 => ?_) (fun c_9 => ?_)
                  · skip
                    have c_9 := bI_0 c_9
                    rw [h1] at c_9; exact absurd c_9 (by decide)
                  · skip
                    have c_9 := bI_1 c_9
                    refine lv_iload_n hx hb d_Mo_read_87 rfl (lv_at hl 5 rfl) ?_
                    refine lv_if_ne (tgt := 98) hx hb d_Mo_read_88 (by decide) (fun c_10 => ?_) (fun c_10 => ?_)
                    · skip
                      rw [mk_ceq (by omega)] at c_10
                      refine lv_iload hx hb d_Mo_read_98 (lv_at hl 0 rfl) ?_
                      refine lv_if_eq (tgt := 117) hx hb d_Mo_read_100 (by decide) (fun c_11 => ?_) (fun c_11 => ?_)
                      · skip
                        have c_11 := bI_0 c_11
                        rw [h1] at c_11; exact absurd c_11 (by decide)
                      · skip
                        have c_11 := bI_1 c_11
                        refine lv_iload_n hx hb d_Mo_read_103 rfl (lv_at hl 5 rfl) ?_
                        refine lv_if_le (tgt := 117) hx hb d_Mo_read_104 (by decide) (fun c_12 => ?_) (fun c_12 => ?_)
                        · skip
                          rw [mk_cle (by omega)] at c_12
                          first | omega | contradiction
                        · skip
                          rw [mk_cle (by omega)] at c_12
                          refine lv_aload_n hx hb d_Mo_read_107 rfl (lv_at hl 2 rfl) ?_
                          refine lv_iload_n hx hb d_Mo_read_108 rfl (lv_at hl 3 rfl) ?_
                          refine lv_iload hx hb d_Mo_read_109 (lv_at hl 1 rfl) ?_
                          refine lv_iload_n hx hb d_Mo_read_111 rfl (lv_at hl 5 rfl) ?_
                          refine mk_e1 (wr := [(mr, .inl (cI, 11, .inl (nf b)))]) (W.runV (As := [.int (nI r), .int (nI (32 * q)), .int (nI p9)]) (rest := []) S ((c_Mo_rpF l dC dI cI m0 (nI 0) mu mz mb mr U Z B r (32 * q) p9 (by first | assumption | omega) (by first | assumption | omega) (by first | assumption | omega) (by first | assumption | omega) (by first | assumption | omega) (by first | assumption | omega) (by first | assumption | omega) (by first | assumption | omega) (by first | assumption | omega)) _) (gV 3 hts k_637 k_639 k_22 k_29 k_640 (by decide +kernel) ⟨Nat.le_of_ble_eq_true rfl, Nat.le_of_ble_eq_true rfl⟩) (mk_vM hP hD hK hT hS hA [0, 1, 2, 3] rfl rfl (by decide) (q0 := 0) (ci := 5) rfl rfl) rfl rfl hl.1 rfl (lv_room (Nat.le_of_ble_eq_true rfl)) d_Mo_read_112 ⟨Nat.zero_le _, Nat.zero_le _⟩) hP hD hS hA [0, 1, 2, 3] [4] rfl rfl (by decide) (by decide) (fun q_13 n_14 H locs hq_13 hn_14 hP hD hS => ?_)
                          have hP : va_P (dC, dI) vwCl [(m0, .inr (5, [.int (nI 0), .ref mu, .ref mz, .ref mb, .ref mr])), (mu, .inl (cI, 510, .inl (nf (stN U q_13 (255 * r) n_14)))), (mz, .inl (cI, 2, .inl (nf (uN Z r n_14)))), (mb, .inl (cI, 1024, .inl (nf B))), (mr, .inl (cI, 11, .inl (nf b)))] H := hP.sub [1, 2, 3, 4, 0] rfl
                          have hD : va_D A [(m0, .inr (5, [.int (nI 0), .ref mu, .ref mz, .ref mb, .ref mr])), (mu, .inl (cI, 510, .inl (nf (stN U q_13 (255 * r) n_14)))), (mz, .inl (cI, 2, .inl (nf (uN Z r n_14)))), (mb, .inl (cI, 1024, .inl (nf B))), (mr, .inl (cI, 11, .inl (nf b)))] := hD.sub [1, 2, 3, 4, 0] (by decide) rfl
                          refine lv_istore (lv' := [(5, .int (nI 0)), (4, .int (nI (32 * q))), (0, .ref m0), (1, .int (nI r)), (2, .int (nI q)), (3, .int (nI p9))]) hx hb d_Mo_read_115 hl (by decide) rfl (fun ls hl => ?_)
                          refine lv_iload hx hb d_Mo_read_117 (lv_at hl 0 rfl) ?_
                          refine lv_if_ne (tgt := 136) hx hb d_Mo_read_119 (by decide) (fun c_15 => ?_) (fun c_15 => ?_)
                          · skip
                            rw [mk_ceq (by omega)] at c_15
                            first | omega | contradiction
                          · skip
                            rw [mk_ceq (by omega)] at c_15
                            refine lv_aload_n hx hb d_Mo_read_122 rfl (lv_at hl 2 rfl) ?_
                            refine va_get (D := (dC, dI)) (ci := 5) (v := .ref mz) (C := "LongNamesModel") (T := F_Mo) (N := 5) hx hb hts (iw_Mo _) hown hK hP 0 rfl rfl 2 (by decide) (hts _ (List.mem_cons_of_mem _ k_524)) (fun _ h9 => h9) rfl d_Mo_read_123 ?_
                            refine lv_iload_n hx hb d_Mo_read_126 rfl (lv_at hl 3 rfl) ?_
                            refine lv_iconst (v := nI 0) hx hb d_Mo_read_127 (by decide) ?_
                            refine va_iast hx hb hK hP hD hS 2 0 rfl rfl (vp_in_nI (N := 2) (show r < 2 by omega) (by decide)) d_Mo_read_128 (fun H locs hP hD hS => ?_)
                            rw [nI_clamp (by omega), nf_up, mk_uu] at hP hD
                            have hP : va_P (dC, dI) vwCl [(m0, .inr (5, [.int (nI 0), .ref mu, .ref mz, .ref mb, .ref mr])), (mu, .inl (cI, 510, .inl (nf (stN U q_13 (255 * r) n_14)))), (mz, .inl (cI, 2, .inl (nf (uN Z r 0)))), (mb, .inl (cI, 1024, .inl (nf B))), (mr, .inl (cI, 11, .inl (nf b)))] H := hP
                            have hD : va_D A [(m0, .inr (5, [.int (nI 0), .ref mu, .ref mz, .ref mb, .ref mr])), (mu, .inl (cI, 510, .inl (nf (stN U q_13 (255 * r) n_14)))), (mz, .inl (cI, 2, .inl (nf (uN Z r 0)))), (mb, .inl (cI, 1024, .inl (nf B))), (mr, .inl (cI, 11, .inl (nf b)))] := hD
                            refine lv_aload_n hx hb d_Mo_read_129 rfl (lv_at hl 2 rfl) ?_
                            refine lv_iconst (v := nI 3) hx hb d_Mo_read_130 (by decide) ?_
                            refine va_put (D := (dC, dI)) (ci := 5) (v := .int (nI 3)) (ty := .int) (C := "LongNamesModel") (T := F_Mo) (N := 5) hx hb hts (iw_Mo _) t_Mo t_Mo_ok n_Mo hown hK hP hD hS 0 rfl rfl 0 (by decide) (hts _ (List.mem_cons_of_mem _ k_522)) (fun _ h9 => h9) rfl (by decide +kernel) rfl rfl (Nat.le_of_ble_eq_true rfl) d_Mo_read_131 (fun H locs hP hD hS => ?_)
                            have hP : va_P (dC, dI) vwCl [(m0, .inr (5, [.int (nI 3), .ref mu, .ref mz, .ref mb, .ref mr])), (mu, .inl (cI, 510, .inl (nf (stN U q_13 (255 * r) n_14)))), (mz, .inl (cI, 2, .inl (nf (uN Z r 0)))), (mb, .inl (cI, 1024, .inl (nf B))), (mr, .inl (cI, 11, .inl (nf b)))] H := hP
                            have hD : va_D A [(m0, .inr (5, [.int (nI 3), .ref mu, .ref mz, .ref mb, .ref mr])), (mu, .inl (cI, 510, .inl (nf (stN U q_13 (255 * r) n_14)))), (mz, .inl (cI, 2, .inl (nf (uN Z r 0)))), (mb, .inl (cI, 1024, .inl (nf B))), (mr, .inl (cI, 11, .inl (nf b)))] := hD
                            refine lv_iconst (v := nI 0) hx hb d_Mo_read_134 (by decide) ?_
                            exact hret _ _ _ _ q_13 n_14 d_Mo_read_135 (by assumption) (by first | omega | exact hS3.1) hP hD hS
                    · skip
                      rw [mk_ceq (by omega)] at c_10
                      first | omega | contradiction
                · skip
                  rw [mk_cle (by omega)] at c_8
                  first | omega | contradiction
              · skip
                rw [nI_leI (by omega) (by omega)] at c_7
                first | omega | contradiction
        · skip
          rw [nI_leI (by omega) (by omega)] at c_4
          first | omega | contradiction

