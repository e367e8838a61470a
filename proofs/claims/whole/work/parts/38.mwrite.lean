set_option maxHeartbeats 1000000 in
set_option maxRecDepth 100000 in
theorem c_Mo_wx (l : Launch) (dC : Nat → ClassId) (dI : Nat → Nat → Nat) (cI : ClassId) (m0 : Nat) (th : Int32) (mu mz mb mr : Nat) (U Z B b : Nat → Nat) (r y9 z9 : Int32) (hU : ∀ j, U j < 65536) (hZ : ∀ j, Z j ≤ 255) (hB : ∀ j, B j < 65536) (hb9 : ∀ j, b j < 65536) (hr0 : ¬ r = 0) (hr1 : ¬ r = nI 1)  : mM l y_Mo_write w_Mo_write ({ frames := 1, cells := 0, slots := 0, locals := 20 } : Room) [.ref m0, .int r, .int y9, .int z9] (dC, dI) vwCl [(cI, .int)] [(m0, .inr (5, [.int th, .ref mu, .ref mz, .ref mb, .ref mr])), (mu, .inl (cI, 510, .inl (nf U))), (mz, .inl (cI, 2, .inl (nf Z))), (mb, .inl (cI, 1024, .inl (nf B))), (mr, .inl (cI, 11, .inl (nf b)))] (some (.int (nI 0))) [(m0, .inr (5, [.int (nI 1), .ref mu, .ref mz, .ref mb, .ref mr])), (mu, .inl (cI, 510, .inl (nf U))), (mz, .inl (cI, 2, .inl (nf Z))), (mb, .inl (cI, 1024, .inl (nf B))), (mr, .inl (cI, 11, .inl (nf b)))] := by
  refine mk_Mi (cc := b_Mo_write) (maxL := 12) (by decide) rfl (Nat.le_of_ble_eq_true rfl) rfl ?_
  intro p e s m below meth c Q A ls S hP hK hT hS hl hD hA hret
  obtain ⟨hx, hb, hml, hown, hts⟩ := id S
  have hl : lv_has ls 12 [(0, .ref m0), (1, .int r), (2, .int y9), (3, .int z9)] := hl
  refine lv_aload_n hx hb d_Mo_write_0 rfl (lv_at hl 0 rfl) ?_
  refine lv_iload_n hx hb d_Mo_write_1 rfl (lv_at hl 1 rfl) ?_
  refine mk_r1 (W.runS (As := [.int r]) (rest := [.ref m0]) S (c_Mo_rowX l dC dI cI r (by first | assumption | omega) (by first | assumption | omega)) (gS 1 hts k_546 k_547 k_29 k_548 (by decide +kernel) ⟨Nat.le_of_ble_eq_true rfl, Nat.le_of_ble_eq_true rfl⟩) (mk_sR hP hK hT hS [] rfl) rfl rfl hl.1 rfl (lv_room (Nat.le_of_ble_eq_true rfl)) d_Mo_write_2 ⟨Nat.zero_le _, Nat.zero_le _⟩) ?_
  refine lv_if_eq (tgt := 39) hx hb d_Mo_write_5 (by decide) (fun c_1 => ?_) (fun c_1 => ?_)
  · skip
    rw [mk_ceq (by omega)] at c_1
    refine lv_iconst (v := nI 1) hx hb d_Mo_write_39 (by decide) ?_
    refine lv_goto (tgt := 44) hx hb d_Mo_write_40 (by decide) ?_
    refine va_put (D := (dC, dI)) (ci := 5) (v := .int (nI 1)) (ty := .int) (C := "LongNamesModel") (T := F_Mo) (N := 5) hx hb hts (iw_Mo _) t_Mo t_Mo_ok n_Mo hown hK hP hD hS 0 rfl rfl 0 (by decide) (hts _ (List.mem_cons_of_mem _ k_522)) (fun _ h9 => h9) rfl (by decide +kernel) rfl rfl (Nat.le_of_ble_eq_true rfl) d_Mo_write_44 (fun H locs hP hD hS => ?_)
    have hP : va_P (dC, dI) vwCl [(m0, .inr (5, [.int (nI 1), .ref mu, .ref mz, .ref mb, .ref mr])), (mu, .inl (cI, 510, .inl (nf U))), (mz, .inl (cI, 2, .inl (nf Z))), (mb, .inl (cI, 1024, .inl (nf B))), (mr, .inl (cI, 11, .inl (nf b)))] H := hP
    have hD : va_D A [(m0, .inr (5, [.int (nI 1), .ref mu, .ref mz, .ref mb, .ref mr])), (mu, .inl (cI, 510, .inl (nf U))), (mz, .inl (cI, 2, .inl (nf Z))), (mb, .inl (cI, 1024, .inl (nf B))), (mr, .inl (cI, 11, .inl (nf b)))] := hD
    refine lv_aload_n hx hb d_Mo_write_47 rfl (lv_at hl 0 rfl) ?_
    refine va_get (D := (dC, dI)) (ci := 5) (v := .int (nI 1)) (C := "LongNamesModel") (T := F_Mo) (N := 5) hx hb hts (iw_Mo _) hown hK hP 0 rfl rfl 0 (by decide) (hts _ (List.mem_cons_of_mem _ k_522)) (fun _ h9 => h9) rfl d_Mo_write_48 ?_
    refine lv_if_le (tgt := 56) hx hb d_Mo_write_51 (by decide) (fun c_2 => ?_) (fun c_2 => ?_)
    · skip
      rw [mk_cle (by omega)] at c_2
      first | omega | contradiction
    · skip
      rw [mk_cle (by omega)] at c_2
      refine lv_iconst (v := nI 0) hx hb d_Mo_write_54 (by decide) ?_
      exact hret _ _ _ _ d_Mo_write_55 hP hD hS
  · skip
    rw [mk_ceq (by omega)] at c_1
    first | omega | contradiction

set_option maxHeartbeats 1000000 in
set_option maxRecDepth 100000 in
theorem c_Mo_wN (l : Launch) (dC : Nat → ClassId) (dI : Nat → Nat → Nat) (cI : ClassId) (m0 : Nat) (th : Int32) (mu mz mb mr : Nat) (U Z B b : Nat → Nat) (r : Nat) (y9 z9 : Int32) (hU : ∀ j, U j < 65536) (hZ : ∀ j, Z j ≤ 255) (hB : ∀ j, B j < 65536) (hb9 : ∀ j, b j < 65536) (hr : r < 2) (h1 : nameN (rv U r) (Z r) = false) : mM l y_Mo_write w_Mo_write ({ frames := 2, cells := 0, slots := 0, locals := 45 } : Room) [.ref m0, .int (nI r), .int y9, .int z9] (dC, dI) vwCl [(cI, .int)] [(m0, .inr (5, [.int th, .ref mu, .ref mz, .ref mb, .ref mr])), (mu, .inl (cI, 510, .inl (nf U))), (mz, .inl (cI, 2, .inl (nf Z))), (mb, .inl (cI, 1024, .inl (nf B))), (mr, .inl (cI, 11, .inl (nf b)))] (some (.int (nI 0))) [(m0, .inr (5, [.int (nI 1), .ref mu, .ref mz, .ref mb, .ref mr])), (mu, .inl (cI, 510, .inl (nf U))), (mz, .inl (cI, 2, .inl (nf Z))), (mb, .inl (cI, 1024, .inl (nf B))), (mr, .inl (cI, 11, .inl (nf b)))] := by
  have hZr := hZ r
  refine mk_Mi (cc := b_Mo_write) (maxL := 12) (by decide) rfl (Nat.le_of_ble_eq_true rfl) rfl ?_
  intro p e s m below meth c Q A ls S hP hK hT hS hl hD hA hret
  obtain ⟨hx, hb, hml, hown, hts⟩ := id S
  have hl : lv_has ls 12 [(0, .ref m0), (1, .int (nI r)), (2, .int y9), (3, .int z9)] := hl
  refine lv_aload_n hx hb d_Mo_write_0 rfl (lv_at hl 0 rfl) ?_
  refine lv_iload_n hx hb d_Mo_write_1 rfl (lv_at hl 1 rfl) ?_
  refine mk_r1 (W.runS (As := [.int (nI r)]) (rest := [.ref m0]) S (c_Mo_rowN l dC dI cI r (by first | assumption | omega)) (gS 1 hts k_546 k_547 k_29 k_548 (by decide +kernel) ⟨Nat.le_of_ble_eq_true rfl, Nat.le_of_ble_eq_true rfl⟩) (mk_sR hP hK hT hS [] rfl) rfl rfl hl.1 rfl (lv_room (Nat.le_of_ble_eq_true rfl)) d_Mo_write_2 ⟨Nat.zero_le _, Nat.zero_le _⟩) ?_
  refine lv_if_eq (tgt := 39) hx hb d_Mo_write_5 (by decide) (fun c_1 => ?_) (fun c_1 => ?_)
  · skip
    rw [mk_ceq (by omega)] at c_1
    first | omega | contradiction
  · skip
    rw [mk_ceq (by omega)] at c_1
    refine lv_aload_n hx hb d_Mo_write_8 rfl (lv_at hl 0 rfl) ?_
    refine lv_iload_n hx hb d_Mo_write_9 rfl (lv_at hl 1 rfl) ?_
    refine mk_r1 (W.runV (As := [.int (nI r)]) (rest := [.ref m0]) S (c_Mo_name l dC dI cI m0 th mu mz mb mr U Z r (by first | assumption | omega) (by first | assumption | omega) (by first | assumption | omega)) (gV 1 hts k_558 k_560 k_13 k_29 k_561 (by decide +kernel) ⟨Nat.le_of_ble_eq_true rfl, Nat.le_of_ble_eq_true rfl⟩) (mk_vR hP hK hT hS [0, 1, 2] rfl (q0 := 0) (ci := 5) rfl rfl) rfl rfl hl.1 rfl (lv_room (Nat.le_of_ble_eq_true rfl)) d_Mo_write_10 ⟨Nat.zero_le _, Nat.zero_le _⟩) ?_
    refine lv_if_eq (tgt := 39) hx hb d_Mo_write_13 (by decide) (fun c_2 => ?_) (fun c_2 => ?_)
    · skip
      have c_2 := bI_0 c_2
      refine lv_iconst (v := nI 1) hx hb d_Mo_write_39 (by decide) ?_
      refine lv_goto (tgt := 44) hx hb d_Mo_write_40 (by decide) ?_
      refine va_put (D := (dC, dI)) (ci := 5) (v := .int (nI 1)) (ty := .int) (C := "LongNamesModel") (T := F_Mo) (N := 5) hx hb hts (iw_Mo _) t_Mo t_Mo_ok n_Mo hown hK hP hD hS 0 rfl rfl 0 (by decide) (hts _ (List.mem_cons_of_mem _ k_522)) (fun _ h9 => h9) rfl (by decide +kernel) rfl rfl (Nat.le_of_ble_eq_true rfl) d_Mo_write_44 (fun H locs hP hD hS => ?_)
      have hP : va_P (dC, dI) vwCl [(m0, .inr (5, [.int (nI 1), .ref mu, .ref mz, .ref mb, .ref mr])), (mu, .inl (cI, 510, .inl (nf U))), (mz, .inl (cI, 2, .inl (nf Z))), (mb, .inl (cI, 1024, .inl (nf B))), (mr, .inl (cI, 11, .inl (nf b)))] H := hP
      have hD : va_D A [(m0, .inr (5, [.int (nI 1), .ref mu, .ref mz, .ref mb, .ref mr])), (mu, .inl (cI, 510, .inl (nf U))), (mz, .inl (cI, 2, .inl (nf Z))), (mb, .inl (cI, 1024, .inl (nf B))), (mr, .inl (cI, 11, .inl (nf b)))] := hD
      refine lv_aload_n hx hb d_Mo_write_47 rfl (lv_at hl 0 rfl) ?_
      refine va_get (D := (dC, dI)) (ci := 5) (v := .int (nI 1)) (C := "LongNamesModel") (T := F_Mo) (N := 5) hx hb hts (iw_Mo _) hown hK hP 0 rfl rfl 0 (by decide) (hts _ (List.mem_cons_of_mem _ k_522)) (fun _ h9 => h9) rfl d_Mo_write_48 ?_
      refine lv_if_le (tgt := 56) hx hb d_Mo_write_51 (by decide) (fun c_3 => ?_) (fun c_3 => ?_)
      · skip
        rw [mk_cle (by omega)] at c_3
        first | omega | contradiction
      · skip
        rw [mk_cle (by omega)] at c_3
        refine lv_iconst (v := nI 0) hx hb d_Mo_write_54 (by decide) ?_
        exact hret _ _ _ _ d_Mo_write_55 hP hD hS
    · skip
      have c_2 := bI_1 c_2
      rw [h1] at c_2; exact absurd c_2 (by decide)

set_option maxHeartbeats 1000000 in
set_option maxRecDepth 100000 in
theorem c_Mo_wT (l : Launch) (dC : Nat → ClassId) (dI : Nat → Nat → Nat) (cI : ClassId) (m0 : Nat) (th : Int32) (mu mz mb mr : Nat) (U Z B b : Nat → Nat) (r : Nat) (y9 z9 : Int32) (hU : ∀ j, U j < 65536) (hZ : ∀ j, Z j ≤ 255) (hB : ∀ j, B j < 65536) (hb9 : ∀ j, b j < 65536) (hr : r < 2) (h1 : nameN (rv U r) (Z r) = true) (ht : z9 < 0 ∨ ¬ z9 ≤ nI 9999) : mM l y_Mo_write w_Mo_write ({ frames := 2, cells := 0, slots := 0, locals := 45 } : Room) [.ref m0, .int (nI r), .int y9, .int z9] (dC, dI) vwCl [(cI, .int)] [(m0, .inr (5, [.int th, .ref mu, .ref mz, .ref mb, .ref mr])), (mu, .inl (cI, 510, .inl (nf U))), (mz, .inl (cI, 2, .inl (nf Z))), (mb, .inl (cI, 1024, .inl (nf B))), (mr, .inl (cI, 11, .inl (nf b)))] (some (.int (nI 0))) [(m0, .inr (5, [.int (nI 1), .ref mu, .ref mz, .ref mb, .ref mr])), (mu, .inl (cI, 510, .inl (nf U))), (mz, .inl (cI, 2, .inl (nf Z))), (mb, .inl (cI, 1024, .inl (nf B))), (mr, .inl (cI, 11, .inl (nf b)))] := by
  have hZr := hZ r
  refine mk_Mi (cc := b_Mo_write) (maxL := 12) (by decide) rfl (Nat.le_of_ble_eq_true rfl) rfl ?_
  intro p e s m below meth c Q A ls S hP hK hT hS hl hD hA hret
  obtain ⟨hx, hb, hml, hown, hts⟩ := id S
  have hl : lv_has ls 12 [(0, .ref m0), (1, .int (nI r)), (2, .int y9), (3, .int z9)] := hl
  refine lv_aload_n hx hb d_Mo_write_0 rfl (lv_at hl 0 rfl) ?_
  refine lv_iload_n hx hb d_Mo_write_1 rfl (lv_at hl 1 rfl) ?_
  refine mk_r1 (W.runS (As := [.int (nI r)]) (rest := [.ref m0]) S (c_Mo_rowN l dC dI cI r (by first | assumption | omega)) (gS 1 hts k_546 k_547 k_29 k_548 (by decide +kernel) ⟨Nat.le_of_ble_eq_true rfl, Nat.le_of_ble_eq_true rfl⟩) (mk_sR hP hK hT hS [] rfl) rfl rfl hl.1 rfl (lv_room (Nat.le_of_ble_eq_true rfl)) d_Mo_write_2 ⟨Nat.zero_le _, Nat.zero_le _⟩) ?_
  refine lv_if_eq (tgt := 39) hx hb d_Mo_write_5 (by decide) (fun c_1 => ?_) (fun c_1 => ?_)
  · skip
    rw [mk_ceq (by omega)] at c_1
    first | omega | contradiction
  · skip
    rw [mk_ceq (by omega)] at c_1
    refine lv_aload_n hx hb d_Mo_write_8 rfl (lv_at hl 0 rfl) ?_
    refine lv_iload_n hx hb d_Mo_write_9 rfl (lv_at hl 1 rfl) ?_
    refine mk_r1 (W.runV (As := [.int (nI r)]) (rest := [.ref m0]) S (c_Mo_name l dC dI cI m0 th mu mz mb mr U Z r (by first | assumption | omega) (by first | assumption | omega) (by first | assumption | omega)) (gV 1 hts k_558 k_560 k_13 k_29 k_561 (by decide +kernel) ⟨Nat.le_of_ble_eq_true rfl, Nat.le_of_ble_eq_true rfl⟩) (mk_vR hP hK hT hS [0, 1, 2] rfl (q0 := 0) (ci := 5) rfl rfl) rfl rfl hl.1 rfl (lv_room (Nat.le_of_ble_eq_true rfl)) d_Mo_write_10 ⟨Nat.zero_le _, Nat.zero_le _⟩) ?_
    refine lv_if_eq (tgt := 39) hx hb d_Mo_write_13 (by decide) (fun c_2 => ?_) (fun c_2 => ?_)
    · skip
      have c_2 := bI_0 c_2
      rw [h1] at c_2; exact absurd c_2 (by decide)
    · skip
      have c_2 := bI_1 c_2
      refine lv_iload_n hx hb d_Mo_write_16 rfl (lv_at hl 3 rfl) ?_
      refine lv_if_lt (tgt := 39) hx hb d_Mo_write_17 (by decide) (fun c_3 => ?_) (fun c_3 => ?_)
      · skip
        refine lv_iconst (v := nI 1) hx hb d_Mo_write_39 (by decide) ?_
        refine lv_goto (tgt := 44) hx hb d_Mo_write_40 (by decide) ?_
        refine va_put (D := (dC, dI)) (ci := 5) (v := .int (nI 1)) (ty := .int) (C := "LongNamesModel") (T := F_Mo) (N := 5) hx hb hts (iw_Mo _) t_Mo t_Mo_ok n_Mo hown hK hP hD hS 0 rfl rfl 0 (by decide) (hts _ (List.mem_cons_of_mem _ k_522)) (fun _ h9 => h9) rfl (by decide +kernel) rfl rfl (Nat.le_of_ble_eq_true rfl) d_Mo_write_44 (fun H locs hP hD hS => ?_)
        have hP : va_P (dC, dI) vwCl [(m0, .inr (5, [.int (nI 1), .ref mu, .ref mz, .ref mb, .ref mr])), (mu, .inl (cI, 510, .inl (nf U))), (mz, .inl (cI, 2, .inl (nf Z))), (mb, .inl (cI, 1024, .inl (nf B))), (mr, .inl (cI, 11, .inl (nf b)))] H := hP
        have hD : va_D A [(m0, .inr (5, [.int (nI 1), .ref mu, .ref mz, .ref mb, .ref mr])), (mu, .inl (cI, 510, .inl (nf U))), (mz, .inl (cI, 2, .inl (nf Z))), (mb, .inl (cI, 1024, .inl (nf B))), (mr, .inl (cI, 11, .inl (nf b)))] := hD
        refine lv_aload_n hx hb d_Mo_write_47 rfl (lv_at hl 0 rfl) ?_
        refine va_get (D := (dC, dI)) (ci := 5) (v := .int (nI 1)) (C := "LongNamesModel") (T := F_Mo) (N := 5) hx hb hts (iw_Mo _) hown hK hP 0 rfl rfl 0 (by decide) (hts _ (List.mem_cons_of_mem _ k_522)) (fun _ h9 => h9) rfl d_Mo_write_48 ?_
        refine lv_if_le (tgt := 56) hx hb d_Mo_write_51 (by decide) (fun c_4 => ?_) (fun c_4 => ?_)
        · skip
          rw [mk_cle (by omega)] at c_4
          first | omega | contradiction
        · skip
          rw [mk_cle (by omega)] at c_4
          refine lv_iconst (v := nI 0) hx hb d_Mo_write_54 (by decide) ?_
          exact hret _ _ _ _ d_Mo_write_55 hP hD hS
      · skip
        refine lv_iload_n hx hb d_Mo_write_20 rfl (lv_at hl 3 rfl) ?_
        refine lv_sipush (v := nI 9999) hx hb d_Mo_write_21 (by decide) ?_
        refine lv_icmp_gt (tgt := 39) hx hb d_Mo_write_24 (by decide) (fun c_5 => ?_) (fun c_5 => ?_)
        · skip
          refine lv_iconst (v := nI 1) hx hb d_Mo_write_39 (by decide) ?_
          refine lv_goto (tgt := 44) hx hb d_Mo_write_40 (by decide) ?_
          refine va_put (D := (dC, dI)) (ci := 5) (v := .int (nI 1)) (ty := .int) (C := "LongNamesModel") (T := F_Mo) (N := 5) hx hb hts (iw_Mo _) t_Mo t_Mo_ok n_Mo hown hK hP hD hS 0 rfl rfl 0 (by decide) (hts _ (List.mem_cons_of_mem _ k_522)) (fun _ h9 => h9) rfl (by decide +kernel) rfl rfl (Nat.le_of_ble_eq_true rfl) d_Mo_write_44 (fun H locs hP hD hS => ?_)
          have hP : va_P (dC, dI) vwCl [(m0, .inr (5, [.int (nI 1), .ref mu, .ref mz, .ref mb, .ref mr])), (mu, .inl (cI, 510, .inl (nf U))), (mz, .inl (cI, 2, .inl (nf Z))), (mb, .inl (cI, 1024, .inl (nf B))), (mr, .inl (cI, 11, .inl (nf b)))] H := hP
          have hD : va_D A [(m0, .inr (5, [.int (nI 1), .ref mu, .ref mz, .ref mb, .ref mr])), (mu, .inl (cI, 510, .inl (nf U))), (mz, .inl (cI, 2, .inl (nf Z))), (mb, .inl (cI, 1024, .inl (nf B))), (mr, .inl (cI, 11, .inl (nf b)))] := hD
          refine lv_aload_n hx hb d_Mo_write_47 rfl (lv_at hl 0 rfl) ?_
          refine va_get (D := (dC, dI)) (ci := 5) (v := .int (nI 1)) (C := "LongNamesModel") (T := F_Mo) (N := 5) hx hb hts (iw_Mo _) hown hK hP 0 rfl rfl 0 (by decide) (hts _ (List.mem_cons_of_mem _ k_522)) (fun _ h9 => h9) rfl d_Mo_write_48 ?_
          refine lv_if_le (tgt := 56) hx hb d_Mo_write_51 (by decide) (fun c_6 => ?_) (fun c_6 => ?_)
          · skip
            rw [mk_cle (by omega)] at c_6
            first | omega | contradiction
          · skip
            rw [mk_cle (by omega)] at c_6
            refine lv_iconst (v := nI 0) hx hb d_Mo_write_54 (by decide) ?_
            exact hret _ _ _ _ d_Mo_write_55 hP hD hS
        · skip
          rcases ht with h9 | h9 <;> first | contradiction | exact absurd (Int32.not_lt.mp c_5) h9

set_option maxHeartbeats 1000000 in
set_option maxRecDepth 100000 in
theorem c_Mo_wS (l : Launch) (dC : Nat → ClassId) (dI : Nat → Nat → Nat) (cI : ClassId) (m0 : Nat) (th : Int32) (mu mz mb mr : Nat) (U Z B b : Nat → Nat) (r : Nat) (y9 : Int32) (hU : ∀ j, U j < 65536) (hZ : ∀ j, Z j ≤ 255) (hB : ∀ j, B j < 65536) (hb9 : ∀ j, b j < 65536) (hr : r < 2) (h1 : nameN (rv U r) (Z r) = true) (h2 : swR (rv U r) (Z r) = false) : mM l y_Mo_write w_Mo_write ({ frames := 3, cells := 0, slots := 0, locals := 68 } : Room) [.ref m0, .int (nI r), .int y9, .int (nI 0)] (dC, dI) vwCl [(cI, .int)] [(m0, .inr (5, [.int th, .ref mu, .ref mz, .ref mb, .ref mr])), (mu, .inl (cI, 510, .inl (nf U))), (mz, .inl (cI, 2, .inl (nf Z))), (mb, .inl (cI, 1024, .inl (nf B))), (mr, .inl (cI, 11, .inl (nf b)))] (some (.int (nI 0))) [(m0, .inr (5, [.int (nI 1), .ref mu, .ref mz, .ref mb, .ref mr])), (mu, .inl (cI, 510, .inl (nf U))), (mz, .inl (cI, 2, .inl (nf Z))), (mb, .inl (cI, 1024, .inl (nf B))), (mr, .inl (cI, 11, .inl (nf (swB (rv U r) (Z r) b))))] := by
  have hZr := hZ r
  refine mk_Mi (cc := b_Mo_write) (maxL := 12) (by decide) rfl (Nat.le_of_ble_eq_true rfl) rfl ?_
  intro p e s m below meth c Q A ls S hP hK hT hS hl hD hA hret
  obtain ⟨hx, hb, hml, hown, hts⟩ := id S
  have hl : lv_has ls 12 [(0, .ref m0), (1, .int (nI r)), (2, .int y9), (3, .int (nI 0))] := hl
  refine lv_aload_n hx hb d_Mo_write_0 rfl (lv_at hl 0 rfl) ?_
  refine lv_iload_n hx hb d_Mo_write_1 rfl (lv_at hl 1 rfl) ?_
  refine mk_r1 (W.runS (As := [.int (nI r)]) (rest := [.ref m0]) S (c_Mo_rowN l dC dI cI r (by first | assumption | omega)) (gS 1 hts k_546 k_547 k_29 k_548 (by decide +kernel) ⟨Nat.le_of_ble_eq_true rfl, Nat.le_of_ble_eq_true rfl⟩) (mk_sR hP hK hT hS [] rfl) rfl rfl hl.1 rfl (lv_room (Nat.le_of_ble_eq_true rfl)) d_Mo_write_2 ⟨Nat.zero_le _, Nat.zero_le _⟩) ?_
  refine lv_if_eq (tgt := 39) hx hb d_Mo_write_5 (by decide) (fun c_1 => ?_) (fun c_1 => ?_)
  · skip
    rw [mk_ceq (by omega)] at c_1
    first | omega | contradiction
  · skip
    rw [mk_ceq (by omega)] at c_1
    refine lv_aload_n hx hb d_Mo_write_8 rfl (lv_at hl 0 rfl) ?_
    refine lv_iload_n hx hb d_Mo_write_9 rfl (lv_at hl 1 rfl) ?_
    refine mk_r1 (W.runV (As := [.int (nI r)]) (rest := [.ref m0]) S (c_Mo_name l dC dI cI m0 th mu mz mb mr U Z r (by first | assumption | omega) (by first | assumption | omega) (by first | assumption | omega)) (gV 1 hts k_558 k_560 k_13 k_29 k_561 (by decide +kernel) ⟨Nat.le_of_ble_eq_true rfl, Nat.le_of_ble_eq_true rfl⟩) (mk_vR hP hK hT hS [0, 1, 2] rfl (q0 := 0) (ci := 5) rfl rfl) rfl rfl hl.1 rfl (lv_room (Nat.le_of_ble_eq_true rfl)) d_Mo_write_10 ⟨Nat.zero_le _, Nat.zero_le _⟩) ?_
    refine lv_if_eq (tgt := 39) hx hb d_Mo_write_13 (by decide) (fun c_2 => ?_) (fun c_2 => ?_)
    · skip
      have c_2 := bI_0 c_2
      rw [h1] at c_2; exact absurd c_2 (by decide)
    · skip
      have c_2 := bI_1 c_2
      refine lv_iload_n hx hb d_Mo_write_16 rfl (lv_at hl 3 rfl) ?_
      refine lv_if_lt (tgt := 39) hx hb d_Mo_write_17 (by decide) (fun c_3 => ?_) (fun c_3 => ?_)
      · skip
        rw [mk_clt (by omega)] at c_3
        first | omega | contradiction
      · skip
        rw [mk_clt (by omega)] at c_3
        refine lv_iload_n hx hb d_Mo_write_20 rfl (lv_at hl 3 rfl) ?_
        refine lv_sipush (v := nI 9999) hx hb d_Mo_write_21 (by decide) ?_
        refine lv_icmp_gt (tgt := 39) hx hb d_Mo_write_24 (by decide) (fun c_4 => ?_) (fun c_4 => ?_)
        · skip
          rw [nI_ltI (by omega) (by omega)] at c_4
          first | omega | contradiction
        · skip
          rw [nI_ltI (by omega) (by omega)] at c_4
          refine lv_iload_n hx hb d_Mo_write_27 rfl (lv_at hl 3 rfl) ?_
          refine lv_if_ne (tgt := 43) hx hb d_Mo_write_28 (by decide) (fun c_5 => ?_) (fun c_5 => ?_)
          · skip
            rw [mk_ceq (by omega)] at c_5
            first | omega | contradiction
          · skip
            rw [mk_ceq (by omega)] at c_5
            refine lv_aload_n hx hb d_Mo_write_31 rfl (lv_at hl 0 rfl) ?_
            refine lv_iload_n hx hb d_Mo_write_32 rfl (lv_at hl 1 rfl) ?_
            refine mk_w1 (wr := [(mb, .inl (cI, 1024, .inl (nf B)))]) (W.runV (As := [.int (nI r)]) (rest := [.ref m0]) S ((c_Mo_shown l dC dI cI m0 th mu mz mb mr U Z b r (by first | assumption | omega) (by first | assumption | omega) (by first | assumption | omega)) _) (gV 1 hts k_572 k_574 k_15 k_29 k_575 (by decide +kernel) ⟨Nat.le_of_ble_eq_true rfl, Nat.le_of_ble_eq_true rfl⟩) (mk_vM hP hD hK hT hS hA [0, 1, 2, 4] rfl rfl (by decide) (q0 := 0) (ci := 5) rfl rfl) rfl rfl hl.1 rfl (lv_room (Nat.le_of_ble_eq_true rfl)) d_Mo_write_33 ⟨Nat.zero_le _, Nat.zero_le _⟩) hP hD hS hA [0, 1, 2, 4] [3] rfl rfl (by decide) (by decide) (fun H locs hP hD hS => ?_)
            have hP : va_P (dC, dI) vwCl [(m0, .inr (5, [.int th, .ref mu, .ref mz, .ref mb, .ref mr])), (mu, .inl (cI, 510, .inl (nf U))), (mz, .inl (cI, 2, .inl (nf Z))), (mb, .inl (cI, 1024, .inl (nf B))), (mr, .inl (cI, 11, .inl (nf (swB (rv U r) (Z r) b))))] H := hP.sub [1, 2, 3, 0, 4] rfl
            have hD : va_D A [(m0, .inr (5, [.int th, .ref mu, .ref mz, .ref mb, .ref mr])), (mu, .inl (cI, 510, .inl (nf U))), (mz, .inl (cI, 2, .inl (nf Z))), (mb, .inl (cI, 1024, .inl (nf B))), (mr, .inl (cI, 11, .inl (nf (swB (rv U r) (Z r) b))))] := hD.sub [1, 2, 3, 0, 4] (by decide) rfl
            refine lv_if_ne (tgt := 43) hx hb d_Mo_write_36 (by decide) (fun c_6 => ?_) (fun c_6 => ?_)
            · skip
              have c_6 := bI_1 c_6
              rw [h2] at c_6; exact absurd c_6 (by decide)
            · skip
              have c_6 := bI_0 c_6
              refine lv_iconst (v := nI 1) hx hb d_Mo_write_39 (by decide) ?_
              refine lv_goto (tgt := 44) hx hb d_Mo_write_40 (by decide) ?_
              refine va_put (D := (dC, dI)) (ci := 5) (v := .int (nI 1)) (ty := .int) (C := "LongNamesModel") (T := F_Mo) (N := 5) hx hb hts (iw_Mo _) t_Mo t_Mo_ok n_Mo hown hK hP hD hS 0 rfl rfl 0 (by decide) (hts _ (List.mem_cons_of_mem _ k_522)) (fun _ h9 => h9) rfl (by decide +kernel) rfl rfl (Nat.le_of_ble_eq_true rfl) d_Mo_write_44 (fun H locs hP hD hS => ?_)
              have hP : va_P (dC, dI) vwCl [(m0, .inr (5, [.int (nI 1), .ref mu, .ref mz, .ref mb, .ref mr])), (mu, .inl (cI, 510, .inl (nf U))), (mz, .inl (cI, 2, .inl (nf Z))), (mb, .inl (cI, 1024, .inl (nf B))), (mr, .inl (cI, 11, .inl (nf (swB (rv U r) (Z r) b))))] H := hP
              have hD : va_D A [(m0, .inr (5, [.int (nI 1), .ref mu, .ref mz, .ref mb, .ref mr])), (mu, .inl (cI, 510, .inl (nf U))), (mz, .inl (cI, 2, .inl (nf Z))), (mb, .inl (cI, 1024, .inl (nf B))), (mr, .inl (cI, 11, .inl (nf (swB (rv U r) (Z r) b))))] := hD
              refine lv_aload_n hx hb d_Mo_write_47 rfl (lv_at hl 0 rfl) ?_
              refine va_get (D := (dC, dI)) (ci := 5) (v := .int (nI 1)) (C := "LongNamesModel") (T := F_Mo) (N := 5) hx hb hts (iw_Mo _) hown hK hP 0 rfl rfl 0 (by decide) (hts _ (List.mem_cons_of_mem _ k_522)) (fun _ h9 => h9) rfl d_Mo_write_48 ?_
              refine lv_if_le (tgt := 56) hx hb d_Mo_write_51 (by decide) (fun c_7 => ?_) (fun c_7 => ?_)
              · skip
                rw [mk_cle (by omega)] at c_7
                first | omega | contradiction
              · skip
                rw [mk_cle (by omega)] at c_7
                refine lv_iconst (v := nI 0) hx hb d_Mo_write_54 (by decide) ?_
                exact hret _ _ _ _ d_Mo_write_55 hP hD hS

set_option maxHeartbeats 1000000 in
set_option maxRecDepth 100000 in
theorem c_Mo_wI (l : Launch) (dC : Nat → ClassId) (dI : Nat → Nat → Nat) (cI : ClassId) (m0 : Nat) (th : Int32) (mu mz mb mr : Nat) (U Z B b : Nat → Nat) (r : Nat) (y9 : Int32) (hU : ∀ j, U j < 65536) (hZ : ∀ j, Z j ≤ 255) (hB : ∀ j, B j < 65536) (hb9 : ∀ j, b j < 65536) (hr : r < 2) (h1 : nameN (rv U r) (Z r) = true) (h2 : swR (rv U r) (Z r) = true) (hy : y9 < 0 ∨ ¬ y9 ≤ nI (31 - 0)) : mM l y_Mo_write w_Mo_write ({ frames := 3, cells := 0, slots := 0, locals := 68 } : Room) [.ref m0, .int (nI r), .int y9, .int (nI 0)] (dC, dI) vwCl [(cI, .int)] [(m0, .inr (5, [.int th, .ref mu, .ref mz, .ref mb, .ref mr])), (mu, .inl (cI, 510, .inl (nf U))), (mz, .inl (cI, 2, .inl (nf Z))), (mb, .inl (cI, 1024, .inl (nf B))), (mr, .inl (cI, 11, .inl (nf b)))] (some (.int (nI 0))) [(m0, .inr (5, [.int (nI 2), .ref mu, .ref mz, .ref mb, .ref mr])), (mu, .inl (cI, 510, .inl (nf U))), (mz, .inl (cI, 2, .inl (nf Z))), (mb, .inl (cI, 1024, .inl (nf B))), (mr, .inl (cI, 11, .inl (nf (swB (rv U r) (Z r) b))))] := by
  have hZr := hZ r
  refine mk_Mi (cc := b_Mo_write) (maxL := 12) (by decide) rfl (Nat.le_of_ble_eq_true rfl) rfl ?_
  intro p e s m below meth c Q A ls S hP hK hT hS hl hD hA hret
  obtain ⟨hx, hb, hml, hown, hts⟩ := id S
  have hl : lv_has ls 12 [(0, .ref m0), (1, .int (nI r)), (2, .int y9), (3, .int (nI 0))] := hl
  refine lv_aload_n hx hb d_Mo_write_0 rfl (lv_at hl 0 rfl) ?_
  refine lv_iload_n hx hb d_Mo_write_1 rfl (lv_at hl 1 rfl) ?_
  refine mk_r1 (W.runS (As := [.int (nI r)]) (rest := [.ref m0]) S (c_Mo_rowN l dC dI cI r (by first | assumption | omega)) (gS 1 hts k_546 k_547 k_29 k_548 (by decide +kernel) ⟨Nat.le_of_ble_eq_true rfl, Nat.le_of_ble_eq_true rfl⟩) (mk_sR hP hK hT hS [] rfl) rfl rfl hl.1 rfl (lv_room (Nat.le_of_ble_eq_true rfl)) d_Mo_write_2 ⟨Nat.zero_le _, Nat.zero_le _⟩) ?_
  refine lv_if_eq (tgt := 39) hx hb d_Mo_write_5 (by decide) (fun c_1 => ?_) (fun c_1 => ?_)
  · skip
    rw [mk_ceq (by omega)] at c_1
    first | omega | contradiction
  · skip
    rw [mk_ceq (by omega)] at c_1
    refine lv_aload_n hx hb d_Mo_write_8 rfl (lv_at hl 0 rfl) ?_
    refine lv_iload_n hx hb d_Mo_write_9 rfl (lv_at hl 1 rfl) ?_
    refine mk_r1 (W.runV (As := [.int (nI r)]) (rest := [.ref m0]) S (c_Mo_name l dC dI cI m0 th mu mz mb mr U Z r (by first | assumption | omega) (by first | assumption | omega) (by first | assumption | omega)) (gV 1 hts k_558 k_560 k_13 k_29 k_561 (by decide +kernel) ⟨Nat.le_of_ble_eq_true rfl, Nat.le_of_ble_eq_true rfl⟩) (mk_vR hP hK hT hS [0, 1, 2] rfl (q0 := 0) (ci := 5) rfl rfl) rfl rfl hl.1 rfl (lv_room (Nat.le_of_ble_eq_true rfl)) d_Mo_write_10 ⟨Nat.zero_le _, Nat.zero_le _⟩) ?_
    refine lv_if_eq (tgt := 39) hx hb d_Mo_write_13 (by decide) (fun c_2 => ?_) (fun c_2 => ?_)
    · skip
      have c_2 := bI_0 c_2
      rw [h1] at c_2; exact absurd c_2 (by decide)
    · skip
      have c_2 := bI_1 c_2
      refine lv_iload_n hx hb d_Mo_write_16 rfl (lv_at hl 3 rfl) ?_
      refine lv_if_lt (tgt := 39) hx hb d_Mo_write_17 (by decide) (fun c_3 => ?_) (fun c_3 => ?_)
      · skip
        rw [mk_clt (by omega)] at c_3
        first | omega | contradiction
      · skip
        rw [mk_clt (by omega)] at c_3
        refine lv_iload_n hx hb d_Mo_write_20 rfl (lv_at hl 3 rfl) ?_
        refine lv_sipush (v := nI 9999) hx hb d_Mo_write_21 (by decide) ?_
        refine lv_icmp_gt (tgt := 39) hx hb d_Mo_write_24 (by decide) (fun c_4 => ?_) (fun c_4 => ?_)
        · skip
          rw [nI_ltI (by omega) (by omega)] at c_4
          first | omega | contradiction
        · skip
          rw [nI_ltI (by omega) (by omega)] at c_4
          refine lv_iload_n hx hb d_Mo_write_27 rfl (lv_at hl 3 rfl) ?_
          refine lv_if_ne (tgt := 43) hx hb d_Mo_write_28 (by decide) (fun c_5 => ?_) (fun c_5 => ?_)
          · skip
            rw [mk_ceq (by omega)] at c_5
            first | omega | contradiction
          · skip
            rw [mk_ceq (by omega)] at c_5
            refine lv_aload_n hx hb d_Mo_write_31 rfl (lv_at hl 0 rfl) ?_
            refine lv_iload_n hx hb d_Mo_write_32 rfl (lv_at hl 1 rfl) ?_
            refine mk_w1 (wr := [(mb, .inl (cI, 1024, .inl (nf B)))]) (W.runV (As := [.int (nI r)]) (rest := [.ref m0]) S ((c_Mo_shown l dC dI cI m0 th mu mz mb mr U Z b r (by first | assumption | omega) (by first | assumption | omega) (by first | assumption | omega)) _) (gV 1 hts k_572 k_574 k_15 k_29 k_575 (by decide +kernel) ⟨Nat.le_of_ble_eq_true rfl, Nat.le_of_ble_eq_true rfl⟩) (mk_vM hP hD hK hT hS hA [0, 1, 2, 4] rfl rfl (by decide) (q0 := 0) (ci := 5) rfl rfl) rfl rfl hl.1 rfl (lv_room (Nat.le_of_ble_eq_true rfl)) d_Mo_write_33 ⟨Nat.zero_le _, Nat.zero_le _⟩) hP hD hS hA [0, 1, 2, 4] [3] rfl rfl (by decide) (by decide) (fun H locs hP hD hS => ?_)
            have hP : va_P (dC, dI) vwCl [(m0, .inr (5, [.int th, .ref mu, .ref mz, .ref mb, .ref mr])), (mu, .inl (cI, 510, .inl (nf U))), (mz, .inl (cI, 2, .inl (nf Z))), (mb, .inl (cI, 1024, .inl (nf B))), (mr, .inl (cI, 11, .inl (nf (swB (rv U r) (Z r) b))))] H := hP.sub [1, 2, 3, 0, 4] rfl
            have hD : va_D A [(m0, .inr (5, [.int th, .ref mu, .ref mz, .ref mb, .ref mr])), (mu, .inl (cI, 510, .inl (nf U))), (mz, .inl (cI, 2, .inl (nf Z))), (mb, .inl (cI, 1024, .inl (nf B))), (mr, .inl (cI, 11, .inl (nf (swB (rv U r) (Z r) b))))] := hD.sub [1, 2, 3, 0, 4] (by decide) rfl
            refine lv_if_ne (tgt := 43) hx hb d_Mo_write_36 (by decide) (fun c_6 => ?_) (fun c_6 => ?_)
            · skip
              have c_6 := bI_1 c_6
              refine lv_iconst (v := nI 0) hx hb d_Mo_write_43 (by decide) ?_
              refine va_put (D := (dC, dI)) (ci := 5) (v := .int (nI 0)) (ty := .int) (C := "LongNamesModel") (T := F_Mo) (N := 5) hx hb hts (iw_Mo _) t_Mo t_Mo_ok n_Mo hown hK hP hD hS 0 rfl rfl 0 (by decide) (hts _ (List.mem_cons_of_mem _ k_522)) (fun _ h9 => h9) rfl (by decide +kernel) rfl rfl (Nat.le_of_ble_eq_true rfl) d_Mo_write_44 (fun H locs hP hD hS => ?_)
              have hP : va_P (dC, dI) vwCl [(m0, .inr (5, [.int (nI 0), .ref mu, .ref mz, .ref mb, .ref mr])), (mu, .inl (cI, 510, .inl (nf U))), (mz, .inl (cI, 2, .inl (nf Z))), (mb, .inl (cI, 1024, .inl (nf B))), (mr, .inl (cI, 11, .inl (nf (swB (rv U r) (Z r) b))))] H := hP
              have hD : va_D A [(m0, .inr (5, [.int (nI 0), .ref mu, .ref mz, .ref mb, .ref mr])), (mu, .inl (cI, 510, .inl (nf U))), (mz, .inl (cI, 2, .inl (nf Z))), (mb, .inl (cI, 1024, .inl (nf B))), (mr, .inl (cI, 11, .inl (nf (swB (rv U r) (Z r) b))))] := hD
              refine lv_aload_n hx hb d_Mo_write_47 rfl (lv_at hl 0 rfl) ?_
              refine va_get (D := (dC, dI)) (ci := 5) (v := .int (nI 0)) (C := "LongNamesModel") (T := F_Mo) (N := 5) hx hb hts (iw_Mo _) hown hK hP 0 rfl rfl 0 (by decide) (hts _ (List.mem_cons_of_mem _ k_522)) (fun _ h9 => h9) rfl d_Mo_write_48 ?_
              refine lv_if_le (tgt := 56) hx hb d_Mo_write_51 (by decide) (fun c_7 => ?_) (fun c_7 => ?_)
              · skip
                rw [mk_cle (by omega)] at c_7
                refine lv_aload_n hx hb d_Mo_write_56 rfl (lv_at hl 0 rfl) ?_
                refine va_get (D := (dC, dI)) (ci := 5) (v := .ref mz) (C := "LongNamesModel") (T := F_Mo) (N := 5) hx hb hts (iw_Mo _) hown hK hP 0 rfl rfl 2 (by decide) (hts _ (List.mem_cons_of_mem _ k_524)) (fun _ h9 => h9) rfl d_Mo_write_57 ?_
                refine lv_iload_n hx hb d_Mo_write_60 rfl (lv_at hl 1 rfl) ?_
                refine va_iald hx hb hK hP 2 0 rfl rfl (vp_in_nI (N := 2) (show r < 2 by omega) (by decide)) d_Mo_write_61 ?_
                refine mk_ti (y := nI (Z r)) (by rw [nI_clamp (by omega)]; rfl) ?_
                refine lv_istore (lv' := [(4, .int (nI (Z r))), (0, .ref m0), (1, .int (nI r)), (2, .int y9), (3, .int (nI 0))]) hx hb d_Mo_write_62 hl (by decide) rfl (fun ls hl => ?_)
                refine lv_iload_n hx hb d_Mo_write_64 rfl (lv_at hl 4 rfl) ?_
                refine lv_if_ne (tgt := 72) hx hb d_Mo_write_65 (by decide) (fun c_8 => ?_) (fun c_8 => ?_)
                · skip
                  rw [mk_ceq (by omega)] at c_8
                  first | omega | contradiction
                · skip
                  rw [mk_ceq (by omega)] at c_8
                  refine lv_iconst (v := nI 0) hx hb d_Mo_write_68 (by decide) ?_
                  refine lv_goto (tgt := 77) hx hb d_Mo_write_69 (by decide) ?_
                  refine lv_istore (lv' := [(5, .int (nI 0)), (4, .int (nI (Z r))), (0, .ref m0), (1, .int (nI r)), (2, .int y9), (3, .int (nI 0))]) hx hb d_Mo_write_77 hl (by decide) rfl (fun ls hl => ?_)
                  refine lv_aload_n hx hb d_Mo_write_79 rfl (lv_at hl 2 rfl) ?_
                  refine lv_iload_n hx hb d_Mo_write_80 rfl (lv_at hl 4 rfl) ?_
                  refine lv_if_lt (tgt := 93) hx hb d_Mo_write_81 (by decide) (fun c_9 => ?_) (fun c_9 => ?_)
                  · skip
                    refine lv_iconst (v := nI 2) hx hb d_Mo_write_93 (by decide) ?_
                    refine lv_goto (tgt := 98) hx hb d_Mo_write_94 (by decide) ?_
                    refine va_put (D := (dC, dI)) (ci := 5) (v := .int (nI 2)) (ty := .int) (C := "LongNamesModel") (T := F_Mo) (N := 5) hx hb hts (iw_Mo _) t_Mo t_Mo_ok n_Mo hown hK hP hD hS 0 rfl rfl 0 (by decide) (hts _ (List.mem_cons_of_mem _ k_522)) (fun _ h9 => h9) rfl (by decide +kernel) rfl rfl (Nat.le_of_ble_eq_true rfl) d_Mo_write_98 (fun H locs hP hD hS => ?_)
                    have hP : va_P (dC, dI) vwCl [(m0, .inr (5, [.int (nI 2), .ref mu, .ref mz, .ref mb, .ref mr])), (mu, .inl (cI, 510, .inl (nf U))), (mz, .inl (cI, 2, .inl (nf Z))), (mb, .inl (cI, 1024, .inl (nf B))), (mr, .inl (cI, 11, .inl (nf (swB (rv U r) (Z r) b))))] H := hP
                    have hD : va_D A [(m0, .inr (5, [.int (nI 2), .ref mu, .ref mz, .ref mb, .ref mr])), (mu, .inl (cI, 510, .inl (nf U))), (mz, .inl (cI, 2, .inl (nf Z))), (mb, .inl (cI, 1024, .inl (nf B))), (mr, .inl (cI, 11, .inl (nf (swB (rv U r) (Z r) b))))] := hD
                    refine lv_aload_n hx hb d_Mo_write_101 rfl (lv_at hl 2 rfl) ?_
                    refine va_get (D := (dC, dI)) (ci := 5) (v := .int (nI 2)) (C := "LongNamesModel") (T := F_Mo) (N := 5) hx hb hts (iw_Mo _) hown hK hP 0 rfl rfl 0 (by decide) (hts _ (List.mem_cons_of_mem _ k_522)) (fun _ h9 => h9) rfl d_Mo_write_102 ?_
                    refine lv_if_le (tgt := 110) hx hb d_Mo_write_105 (by decide) (fun c_10 => ?_) (fun c_10 => ?_)
                    · skip
                      rw [mk_cle (by omega)] at c_10
                      first | omega | contradiction
                    · skip
                      rw [mk_cle (by omega)] at c_10
                      refine lv_iconst (v := nI 0) hx hb d_Mo_write_108 (by decide) ?_
                      exact hret _ _ _ _ d_Mo_write_109 hP hD hS
                  · skip
                    refine lv_iload_n hx hb d_Mo_write_84 rfl (lv_at hl 4 rfl) ?_
                    refine lv_bipush (v := nI 31) hx hb d_Mo_write_85 (by decide) ?_
                    refine lv_iload hx hb d_Mo_write_87 (lv_at hl 0 rfl) ?_
                    refine lv_isub hx hb d_Mo_write_89 ?_
                    refine mk_ti (y := nI (31 - 0)) (pk_sub (by omega)) ?_
                    refine lv_icmp_le (tgt := 97) hx hb d_Mo_write_90 (by decide) (fun c_11 => ?_) (fun c_11 => ?_)
                    · skip
                      rcases hy with h9 | h9 <;> contradiction
                    · skip
                      refine lv_iconst (v := nI 2) hx hb d_Mo_write_93 (by decide) ?_
                      refine lv_goto (tgt := 98) hx hb d_Mo_write_94 (by decide) ?_
                      refine va_put (D := (dC, dI)) (ci := 5) (v := .int (nI 2)) (ty := .int) (C := "LongNamesModel") (T := F_Mo) (N := 5) hx hb hts (iw_Mo _) t_Mo t_Mo_ok n_Mo hown hK hP hD hS 0 rfl rfl 0 (by decide) (hts _ (List.mem_cons_of_mem _ k_522)) (fun _ h9 => h9) rfl (by decide +kernel) rfl rfl (Nat.le_of_ble_eq_true rfl) d_Mo_write_98 (fun H locs hP hD hS => ?_)
                      have hP : va_P (dC, dI) vwCl [(m0, .inr (5, [.int (nI 2), .ref mu, .ref mz, .ref mb, .ref mr])), (mu, .inl (cI, 510, .inl (nf U))), (mz, .inl (cI, 2, .inl (nf Z))), (mb, .inl (cI, 1024, .inl (nf B))), (mr, .inl (cI, 11, .inl (nf (swB (rv U r) (Z r) b))))] H := hP
                      have hD : va_D A [(m0, .inr (5, [.int (nI 2), .ref mu, .ref mz, .ref mb, .ref mr])), (mu, .inl (cI, 510, .inl (nf U))), (mz, .inl (cI, 2, .inl (nf Z))), (mb, .inl (cI, 1024, .inl (nf B))), (mr, .inl (cI, 11, .inl (nf (swB (rv U r) (Z r) b))))] := hD
                      refine lv_aload_n hx hb d_Mo_write_101 rfl (lv_at hl 2 rfl) ?_
                      refine va_get (D := (dC, dI)) (ci := 5) (v := .int (nI 2)) (C := "LongNamesModel") (T := F_Mo) (N := 5) hx hb hts (iw_Mo _) hown hK hP 0 rfl rfl 0 (by decide) (hts _ (List.mem_cons_of_mem _ k_522)) (fun _ h9 => h9) rfl d_Mo_write_102 ?_
                      refine lv_if_le (tgt := 110) hx hb d_Mo_write_105 (by decide) (fun c_12 => ?_) (fun c_12 => ?_)
                      · skip
                        rw [mk_cle (by omega)] at c_12
                        first | omega | contradiction
                      · skip
                        rw [mk_cle (by omega)] at c_12
                        refine lv_iconst (v := nI 0) hx hb d_Mo_write_108 (by decide) ?_
                        exact hret _ _ _ _ d_Mo_write_109 hP hD hS
              · skip
                rw [mk_cle (by omega)] at c_7
                first | omega | contradiction
            · skip
              have c_6 := bI_0 c_6
              rw [h2] at c_6; exact absurd c_6 (by decide)

set_option maxHeartbeats 1000000 in
set_option maxRecDepth 100000 in
theorem c_Mo_wJ (l : Launch) (dC : Nat → ClassId) (dI : Nat → Nat → Nat) (cI : ClassId) (m0 : Nat) (th : Int32) (mu mz mb mr : Nat) (U Z B b : Nat → Nat) (r : Nat) (y9 : Int32) (t : Nat) (hU : ∀ j, U j < 65536) (hZ : ∀ j, Z j ≤ 255) (hB : ∀ j, B j < 65536) (hb9 : ∀ j, b j < 65536) (hr : r < 2) (h1 : nameN (rv U r) (Z r) = true) (ht : 1 ≤ t ∧ t < 10000) (hy : y9 < 0 ∨ ¬ y9 ≤ nI (31 - pnN (Z r))) : mM l y_Mo_write w_Mo_write ({ frames := 2, cells := 0, slots := 0, locals := 45 } : Room) [.ref m0, .int (nI r), .int y9, .int (nI t)] (dC, dI) vwCl [(cI, .int)] [(m0, .inr (5, [.int th, .ref mu, .ref mz, .ref mb, .ref mr])), (mu, .inl (cI, 510, .inl (nf U))), (mz, .inl (cI, 2, .inl (nf Z))), (mb, .inl (cI, 1024, .inl (nf B))), (mr, .inl (cI, 11, .inl (nf b)))] (some (.int (nI 0))) [(m0, .inr (5, [.int (nI 2), .ref mu, .ref mz, .ref mb, .ref mr])), (mu, .inl (cI, 510, .inl (nf U))), (mz, .inl (cI, 2, .inl (nf Z))), (mb, .inl (cI, 1024, .inl (nf B))), (mr, .inl (cI, 11, .inl (nf b)))] := by
  have hZr := hZ r
  refine mk_Mi (cc := b_Mo_write) (maxL := 12) (by decide) rfl (Nat.le_of_ble_eq_true rfl) rfl ?_
  intro p e s m below meth c Q A ls S hP hK hT hS hl hD hA hret
  obtain ⟨hx, hb, hml, hown, hts⟩ := id S
  have hl : lv_has ls 12 [(0, .ref m0), (1, .int (nI r)), (2, .int y9), (3, .int (nI t))] := hl
  refine lv_aload_n hx hb d_Mo_write_0 rfl (lv_at hl 0 rfl) ?_
  refine lv_iload_n hx hb d_Mo_write_1 rfl (lv_at hl 1 rfl) ?_
  refine mk_r1 (W.runS (As := [.int (nI r)]) (rest := [.ref m0]) S (c_Mo_rowN l dC dI cI r (by first | assumption | omega)) (gS 1 hts k_546 k_547 k_29 k_548 (by decide +kernel) ⟨Nat.le_of_ble_eq_true rfl, Nat.le_of_ble_eq_true rfl⟩) (mk_sR hP hK hT hS [] rfl) rfl rfl hl.1 rfl (lv_room (Nat.le_of_ble_eq_true rfl)) d_Mo_write_2 ⟨Nat.zero_le _, Nat.zero_le _⟩) ?_
  refine lv_if_eq (tgt := 39) hx hb d_Mo_write_5 (by decide) (fun c_1 => ?_) (fun c_1 => ?_)
  · skip
    rw [mk_ceq (by omega)] at c_1
    first | omega | contradiction
  · skip
    rw [mk_ceq (by omega)] at c_1
    refine lv_aload_n hx hb d_Mo_write_8 rfl (lv_at hl 0 rfl) ?_
    refine lv_iload_n hx hb d_Mo_write_9 rfl (lv_at hl 1 rfl) ?_
    refine mk_r1 (W.runV (As := [.int (nI r)]) (rest := [.ref m0]) S (c_Mo_name l dC dI cI m0 th mu mz mb mr U Z r (by first | assumption | omega) (by first | assumption | omega) (by first | assumption | omega)) (gV 1 hts k_558 k_560 k_13 k_29 k_561 (by decide +kernel) ⟨Nat.le_of_ble_eq_true rfl, Nat.le_of_ble_eq_true rfl⟩) (mk_vR hP hK hT hS [0, 1, 2] rfl (q0 := 0) (ci := 5) rfl rfl) rfl rfl hl.1 rfl (lv_room (Nat.le_of_ble_eq_true rfl)) d_Mo_write_10 ⟨Nat.zero_le _, Nat.zero_le _⟩) ?_
    refine lv_if_eq (tgt := 39) hx hb d_Mo_write_13 (by decide) (fun c_2 => ?_) (fun c_2 => ?_)
    · skip
      have c_2 := bI_0 c_2
      rw [h1] at c_2; exact absurd c_2 (by decide)
    · skip
      have c_2 := bI_1 c_2
      refine lv_iload_n hx hb d_Mo_write_16 rfl (lv_at hl 3 rfl) ?_
      refine lv_if_lt (tgt := 39) hx hb d_Mo_write_17 (by decide) (fun c_3 => ?_) (fun c_3 => ?_)
      · skip
        rw [mk_clt (by omega)] at c_3
        first | omega | contradiction
      · skip
        rw [mk_clt (by omega)] at c_3
        refine lv_iload_n hx hb d_Mo_write_20 rfl (lv_at hl 3 rfl) ?_
        refine lv_sipush (v := nI 9999) hx hb d_Mo_write_21 (by decide) ?_
        refine lv_icmp_gt (tgt := 39) hx hb d_Mo_write_24 (by decide) (fun c_4 => ?_) (fun c_4 => ?_)
        · skip
          rw [nI_ltI (by omega) (by omega)] at c_4
          first | omega | contradiction
        · skip
          rw [nI_ltI (by omega) (by omega)] at c_4
          refine lv_iload_n hx hb d_Mo_write_27 rfl (lv_at hl 3 rfl) ?_
          refine lv_if_ne (tgt := 43) hx hb d_Mo_write_28 (by decide) (fun c_5 => ?_) (fun c_5 => ?_)
          · skip
            rw [mk_ceq (by omega)] at c_5
            refine lv_iconst (v := nI 0) hx hb d_Mo_write_43 (by decide) ?_
            refine va_put (D := (dC, dI)) (ci := 5) (v := .int (nI 0)) (ty := .int) (C := "LongNamesModel") (T := F_Mo) (N := 5) hx hb hts (iw_Mo _) t_Mo t_Mo_ok n_Mo hown hK hP hD hS 0 rfl rfl 0 (by decide) (hts _ (List.mem_cons_of_mem _ k_522)) (fun _ h9 => h9) rfl (by decide +kernel) rfl rfl (Nat.le_of_ble_eq_true rfl) d_Mo_write_44 (fun H locs hP hD hS => ?_)
            have hP : va_P (dC, dI) vwCl [(m0, .inr (5, [.int (nI 0), .ref mu, .ref mz, .ref mb, .ref mr])), (mu, .inl (cI, 510, .inl (nf U))), (mz, .inl (cI, 2, .inl (nf Z))), (mb, .inl (cI, 1024, .inl (nf B))), (mr, .inl (cI, 11, .inl (nf b)))] H := hP
            have hD : va_D A [(m0, .inr (5, [.int (nI 0), .ref mu, .ref mz, .ref mb, .ref mr])), (mu, .inl (cI, 510, .inl (nf U))), (mz, .inl (cI, 2, .inl (nf Z))), (mb, .inl (cI, 1024, .inl (nf B))), (mr, .inl (cI, 11, .inl (nf b)))] := hD
            refine lv_aload_n hx hb d_Mo_write_47 rfl (lv_at hl 0 rfl) ?_
            refine va_get (D := (dC, dI)) (ci := 5) (v := .int (nI 0)) (C := "LongNamesModel") (T := F_Mo) (N := 5) hx hb hts (iw_Mo _) hown hK hP 0 rfl rfl 0 (by decide) (hts _ (List.mem_cons_of_mem _ k_522)) (fun _ h9 => h9) rfl d_Mo_write_48 ?_
            refine lv_if_le (tgt := 56) hx hb d_Mo_write_51 (by decide) (fun c_6 => ?_) (fun c_6 => ?_)
            · skip
              rw [mk_cle (by omega)] at c_6
              refine lv_aload_n hx hb d_Mo_write_56 rfl (lv_at hl 0 rfl) ?_
              refine va_get (D := (dC, dI)) (ci := 5) (v := .ref mz) (C := "LongNamesModel") (T := F_Mo) (N := 5) hx hb hts (iw_Mo _) hown hK hP 0 rfl rfl 2 (by decide) (hts _ (List.mem_cons_of_mem _ k_524)) (fun _ h9 => h9) rfl d_Mo_write_57 ?_
              refine lv_iload_n hx hb d_Mo_write_60 rfl (lv_at hl 1 rfl) ?_
              refine va_iald hx hb hK hP 2 0 rfl rfl (vp_in_nI (N := 2) (show r < 2 by omega) (by decide)) d_Mo_write_61 ?_
              refine mk_ti (y := nI (Z r)) (by rw [nI_clamp (by omega)]; rfl) ?_
              refine lv_istore (lv' := [(4, .int (nI (Z r))), (0, .ref m0), (1, .int (nI r)), (2, .int y9), (3, .int (nI t))]) hx hb d_Mo_write_62 hl (by decide) rfl (fun ls hl => ?_)
              refine lv_iload_n hx hb d_Mo_write_64 rfl (lv_at hl 4 rfl) ?_
              refine lv_if_ne (tgt := 72) hx hb d_Mo_write_65 (by decide) (fun c_7 => ?_) (fun c_7 => ?_)
              · skip
                rw [mk_ceq (by omega)] at c_7
                refine lv_iload hx hb d_Mo_write_72 (lv_at hl 0 rfl) ?_
                refine mk_r1 (W.runS (As := [.int (nI (Z r))]) (rest := []) S (c_Mo_parts l dC dI cI (Z r) (by first | assumption | omega)) (gS 1 hts k_583 k_584 k_29 k_585 (by decide +kernel) ⟨Nat.le_of_ble_eq_true rfl, Nat.le_of_ble_eq_true rfl⟩) (mk_sR hP hK hT hS [] rfl) rfl rfl hl.1 rfl (lv_room (Nat.le_of_ble_eq_true rfl)) d_Mo_write_74 ⟨Nat.zero_le _, Nat.zero_le _⟩) ?_
                have b_8 := pnN_le (show (Z r) ≤ 255 by omega)
                refine lv_istore (lv' := [(5, .int (nI (pnN (Z r)))), (4, .int (nI (Z r))), (0, .ref m0), (1, .int (nI r)), (2, .int y9), (3, .int (nI t))]) hx hb d_Mo_write_77 hl (by decide) rfl (fun ls hl => ?_)
                refine lv_aload_n hx hb d_Mo_write_79 rfl (lv_at hl 2 rfl) ?_
                refine lv_iload_n hx hb d_Mo_write_80 rfl (lv_at hl 4 rfl) ?_
                refine lv_if_lt (tgt := 93) hx hb d_Mo_write_81 (by decide) (fun c_9 => ?_) (fun c_9 => ?_)
                · skip
                  refine lv_iconst (v := nI 2) hx hb d_Mo_write_93 (by decide) ?_
                  refine lv_goto (tgt := 98) hx hb d_Mo_write_94 (by decide) ?_
                  refine va_put (D := (dC, dI)) (ci := 5) (v := .int (nI 2)) (ty := .int) (C := "LongNamesModel") (T := F_Mo) (N := 5) hx hb hts (iw_Mo _) t_Mo t_Mo_ok n_Mo hown hK hP hD hS 0 rfl rfl 0 (by decide) (hts _ (List.mem_cons_of_mem _ k_522)) (fun _ h9 => h9) rfl (by decide +kernel) rfl rfl (Nat.le_of_ble_eq_true rfl) d_Mo_write_98 (fun H locs hP hD hS => ?_)
                  have hP : va_P (dC, dI) vwCl [(m0, .inr (5, [.int (nI 2), .ref mu, .ref mz, .ref mb, .ref mr])), (mu, .inl (cI, 510, .inl (nf U))), (mz, .inl (cI, 2, .inl (nf Z))), (mb, .inl (cI, 1024, .inl (nf B))), (mr, .inl (cI, 11, .inl (nf b)))] H := hP
                  have hD : va_D A [(m0, .inr (5, [.int (nI 2), .ref mu, .ref mz, .ref mb, .ref mr])), (mu, .inl (cI, 510, .inl (nf U))), (mz, .inl (cI, 2, .inl (nf Z))), (mb, .inl (cI, 1024, .inl (nf B))), (mr, .inl (cI, 11, .inl (nf b)))] := hD
                  refine lv_aload_n hx hb d_Mo_write_101 rfl (lv_at hl 2 rfl) ?_
                  refine va_get (D := (dC, dI)) (ci := 5) (v := .int (nI 2)) (C := "LongNamesModel") (T := F_Mo) (N := 5) hx hb hts (iw_Mo _) hown hK hP 0 rfl rfl 0 (by decide) (hts _ (List.mem_cons_of_mem _ k_522)) (fun _ h9 => h9) rfl d_Mo_write_102 ?_
                  refine lv_if_le (tgt := 110) hx hb d_Mo_write_105 (by decide) (fun c_10 => ?_) (fun c_10 => ?_)
                  · skip
                    rw [mk_cle (by omega)] at c_10
                    first | omega | contradiction
                  · skip
                    rw [mk_cle (by omega)] at c_10
                    refine lv_iconst (v := nI 0) hx hb d_Mo_write_108 (by decide) ?_
                    exact hret _ _ _ _ d_Mo_write_109 hP hD hS
                · skip
                  refine lv_iload_n hx hb d_Mo_write_84 rfl (lv_at hl 4 rfl) ?_
                  refine lv_bipush (v := nI 31) hx hb d_Mo_write_85 (by decide) ?_
                  refine lv_iload hx hb d_Mo_write_87 (lv_at hl 0 rfl) ?_
                  refine lv_isub hx hb d_Mo_write_89 ?_
                  refine mk_ti (y := nI (31 - (pnN (Z r)))) (pk_sub (by omega)) ?_
                  refine lv_icmp_le (tgt := 97) hx hb d_Mo_write_90 (by decide) (fun c_11 => ?_) (fun c_11 => ?_)
                  · skip
                    rcases hy with h9 | h9 <;> contradiction
                  · skip
                    refine lv_iconst (v := nI 2) hx hb d_Mo_write_93 (by decide) ?_
                    refine lv_goto (tgt := 98) hx hb d_Mo_write_94 (by decide) ?_
                    refine va_put (D := (dC, dI)) (ci := 5) (v := .int (nI 2)) (ty := .int) (C := "LongNamesModel") (T := F_Mo) (N := 5) hx hb hts (iw_Mo _) t_Mo t_Mo_ok n_Mo hown hK hP hD hS 0 rfl rfl 0 (by decide) (hts _ (List.mem_cons_of_mem _ k_522)) (fun _ h9 => h9) rfl (by decide +kernel) rfl rfl (Nat.le_of_ble_eq_true rfl) d_Mo_write_98 (fun H locs hP hD hS => ?_)
                    have hP : va_P (dC, dI) vwCl [(m0, .inr (5, [.int (nI 2), .ref mu, .ref mz, .ref mb, .ref mr])), (mu, .inl (cI, 510, .inl (nf U))), (mz, .inl (cI, 2, .inl (nf Z))), (mb, .inl (cI, 1024, .inl (nf B))), (mr, .inl (cI, 11, .inl (nf b)))] H := hP
                    have hD : va_D A [(m0, .inr (5, [.int (nI 2), .ref mu, .ref mz, .ref mb, .ref mr])), (mu, .inl (cI, 510, .inl (nf U))), (mz, .inl (cI, 2, .inl (nf Z))), (mb, .inl (cI, 1024, .inl (nf B))), (mr, .inl (cI, 11, .inl (nf b)))] := hD
                    refine lv_aload_n hx hb d_Mo_write_101 rfl (lv_at hl 2 rfl) ?_
                    refine va_get (D := (dC, dI)) (ci := 5) (v := .int (nI 2)) (C := "LongNamesModel") (T := F_Mo) (N := 5) hx hb hts (iw_Mo _) hown hK hP 0 rfl rfl 0 (by decide) (hts _ (List.mem_cons_of_mem _ k_522)) (fun _ h9 => h9) rfl d_Mo_write_102 ?_
                    refine lv_if_le (tgt := 110) hx hb d_Mo_write_105 (by decide) (fun c_12 => ?_) (fun c_12 => ?_)
                    · skip
                      rw [mk_cle (by omega)] at c_12
                      first | omega | contradiction
                    · skip
                      rw [mk_cle (by omega)] at c_12
                      refine lv_iconst (v := nI 0) hx hb d_Mo_write_108 (by decide) ?_
                      exact hret _ _ _ _ d_Mo_write_109 hP hD hS
              · skip
                rw [mk_ceq (by omega)] at c_7
                first | omega | contradiction
            · skip
              rw [mk_cle (by omega)] at c_6
              first | omega | contradiction
          · skip
            rw [mk_ceq (by omega)] at c_5
            first | omega | contradiction

set_option maxHeartbeats 1000000 in
set_option maxRecDepth 100000 in
theorem c_Mo_w0 (l : Launch) (dC : Nat → ClassId) (dI : Nat → Nat → Nat) (cI : ClassId) (m0 : Nat) (th : Int32) (mu mz mb mr : Nat) (U Z B b : Nat → Nat) (r q : Nat) (hU : ∀ j, U j < 65536) (hZ : ∀ j, Z j ≤ 255) (hB : ∀ j, B j < 65536) (hb9 : ∀ j, b j < 65536) (hr : r < 2) (h1 : nameN (rv U r) (Z r) = true) (h2 : swR (rv U r) (Z r) = true) (hq : q < 32) : mM l y_Mo_write w_Mo_write ({ frames := 3, cells := 0, slots := 0, locals := 68 } : Room) [.ref m0, .int (nI r), .int (nI q), .int (nI 0)] (dC, dI) vwCl [(cI, .int)] [(m0, .inr (5, [.int th, .ref mu, .ref mz, .ref mb, .ref mr])), (mu, .inl (cI, 510, .inl (nf U))), (mz, .inl (cI, 2, .inl (nf Z))), (mb, .inl (cI, 1024, .inl (nf B))), (mr, .inl (cI, 11, .inl (nf b)))] (some (.int (nI (0 + 1)))) [(m0, .inr (5, [.int (nI 0), .ref mu, .ref mz, .ref mb, .ref mr])), (mu, .inl (cI, 510, .inl (nf U))), (mz, .inl (cI, 2, .inl (nf Z))), (mb, .inl (cI, 1024, .inl (nf (stN (stN B (fun _ => 0) (32 * q) (32 * 0 + 32)) (swB (rv U r) (Z r) b) (32 * (q + 0)) 11)))), (mr, .inl (cI, 11, .inl (nf (swB (rv U r) (Z r) b))))] := by
  have hZr := hZ r
  have hBR : ∀ j, (swB (rv U r) (Z r) b) j < 65536 := swB_lt (fun j => rv_lt hU j) hb9
  have hB2 : ∀ j, (stN (stN B (fun _ => 0) (32 * q) (32 * 0 + 32)) (swB (rv U r) (Z r) b) (32 * (q + 0)) 11) j < 65536 := stN_lt (stN_lt hB (fun _ => by omega)) hBR
  refine mk_Mi (cc := b_Mo_write) (maxL := 12) (by decide) rfl (Nat.le_of_ble_eq_true rfl) rfl ?_
  intro p e s m below meth c Q A ls S hP hK hT hS hl hD hA hret
  obtain ⟨hx, hb, hml, hown, hts⟩ := id S
  have hl : lv_has ls 12 [(0, .ref m0), (1, .int (nI r)), (2, .int (nI q)), (3, .int (nI 0))] := hl
  refine lv_aload_n hx hb d_Mo_write_0 rfl (lv_at hl 0 rfl) ?_
  refine lv_iload_n hx hb d_Mo_write_1 rfl (lv_at hl 1 rfl) ?_
  refine mk_r1 (W.runS (As := [.int (nI r)]) (rest := [.ref m0]) S (c_Mo_rowN l dC dI cI r (by first | assumption | omega)) (gS 1 hts k_546 k_547 k_29 k_548 (by decide +kernel) ⟨Nat.le_of_ble_eq_true rfl, Nat.le_of_ble_eq_true rfl⟩) (mk_sR hP hK hT hS [] rfl) rfl rfl hl.1 rfl (lv_room (Nat.le_of_ble_eq_true rfl)) d_Mo_write_2 ⟨Nat.zero_le _, Nat.zero_le _⟩) ?_
  refine lv_if_eq (tgt := 39) hx hb d_Mo_write_5 (by decide) (fun c_1 => ?_) (fun c_1 => ?_)
  · skip
    rw [mk_ceq (by omega)] at c_1
    first | omega | contradiction
  · skip
    rw [mk_ceq (by omega)] at c_1
    refine lv_aload_n hx hb d_Mo_write_8 rfl (lv_at hl 0 rfl) ?_
    refine lv_iload_n hx hb d_Mo_write_9 rfl (lv_at hl 1 rfl) ?_
    refine mk_r1 (W.runV (As := [.int (nI r)]) (rest := [.ref m0]) S (c_Mo_name l dC dI cI m0 th mu mz mb mr U Z r (by first | assumption | omega) (by first | assumption | omega) (by first | assumption | omega)) (gV 1 hts k_558 k_560 k_13 k_29 k_561 (by decide +kernel) ⟨Nat.le_of_ble_eq_true rfl, Nat.le_of_ble_eq_true rfl⟩) (mk_vR hP hK hT hS [0, 1, 2] rfl (q0 := 0) (ci := 5) rfl rfl) rfl rfl hl.1 rfl (lv_room (Nat.le_of_ble_eq_true rfl)) d_Mo_write_10 ⟨Nat.zero_le _, Nat.zero_le _⟩) ?_
    refine lv_if_eq (tgt := 39) hx hb d_Mo_write_13 (by decide) (fun c_2 => ?_) (fun c_2 => ?_)
    · skip
      have c_2 := bI_0 c_2
      rw [h1] at c_2; exact absurd c_2 (by decide)
    · skip
      have c_2 := bI_1 c_2
      refine lv_iload_n hx hb d_Mo_write_16 rfl (lv_at hl 3 rfl) ?_
      refine lv_if_lt (tgt := 39) hx hb d_Mo_write_17 (by decide) (fun c_3 => ?_) (fun c_3 => ?_)
      · skip
        rw [mk_clt (by omega)] at c_3
        first | omega | contradiction
      · skip
        rw [mk_clt (by omega)] at c_3
        refine lv_iload_n hx hb d_Mo_write_20 rfl (lv_at hl 3 rfl) ?_
        refine lv_sipush (v := nI 9999) hx hb d_Mo_write_21 (by decide) ?_
        refine lv_icmp_gt (tgt := 39) hx hb d_Mo_write_24 (by decide) (fun c_4 => ?_) (fun c_4 => ?_)
        · skip
          rw [nI_ltI (by omega) (by omega)] at c_4
          first | omega | contradiction
        · skip
          rw [nI_ltI (by omega) (by omega)] at c_4
          refine lv_iload_n hx hb d_Mo_write_27 rfl (lv_at hl 3 rfl) ?_
          refine lv_if_ne (tgt := 43) hx hb d_Mo_write_28 (by decide) (fun c_5 => ?_) (fun c_5 => ?_)
          · skip
            rw [mk_ceq (by omega)] at c_5
            first | omega | contradiction
          · skip
            rw [mk_ceq (by omega)] at c_5
            refine lv_aload_n hx hb d_Mo_write_31 rfl (lv_at hl 0 rfl) ?_
            refine lv_iload_n hx hb d_Mo_write_32 rfl (lv_at hl 1 rfl) ?_
            refine mk_w1 (wr := [(mb, .inl (cI, 1024, .inl (nf B)))]) (W.runV (As := [.int (nI r)]) (rest := [.ref m0]) S ((c_Mo_shown l dC dI cI m0 th mu mz mb mr U Z b r (by first | assumption | omega) (by first | assumption | omega) (by first | assumption | omega)) _) (gV 1 hts k_572 k_574 k_15 k_29 k_575 (by decide +kernel) ⟨Nat.le_of_ble_eq_true rfl, Nat.le_of_ble_eq_true rfl⟩) (mk_vM hP hD hK hT hS hA [0, 1, 2, 4] rfl rfl (by decide) (q0 := 0) (ci := 5) rfl rfl) rfl rfl hl.1 rfl (lv_room (Nat.le_of_ble_eq_true rfl)) d_Mo_write_33 ⟨Nat.zero_le _, Nat.zero_le _⟩) hP hD hS hA [0, 1, 2, 4] [3] rfl rfl (by decide) (by decide) (fun H locs hP hD hS => ?_)
            have hP : va_P (dC, dI) vwCl [(m0, .inr (5, [.int th, .ref mu, .ref mz, .ref mb, .ref mr])), (mu, .inl (cI, 510, .inl (nf U))), (mz, .inl (cI, 2, .inl (nf Z))), (mb, .inl (cI, 1024, .inl (nf B))), (mr, .inl (cI, 11, .inl (nf (swB (rv U r) (Z r) b))))] H := hP.sub [1, 2, 3, 0, 4] rfl
            have hD : va_D A [(m0, .inr (5, [.int th, .ref mu, .ref mz, .ref mb, .ref mr])), (mu, .inl (cI, 510, .inl (nf U))), (mz, .inl (cI, 2, .inl (nf Z))), (mb, .inl (cI, 1024, .inl (nf B))), (mr, .inl (cI, 11, .inl (nf (swB (rv U r) (Z r) b))))] := hD.sub [1, 2, 3, 0, 4] (by decide) rfl
            refine lv_if_ne (tgt := 43) hx hb d_Mo_write_36 (by decide) (fun c_6 => ?_) (fun c_6 => ?_)
            · skip
              have c_6 := bI_1 c_6
              refine lv_iconst (v := nI 0) hx hb d_Mo_write_43 (by decide) ?_
              refine va_put (D := (dC, dI)) (ci := 5) (v := .int (nI 0)) (ty := .int) (C := "LongNamesModel") (T := F_Mo) (N := 5) hx hb hts (iw_Mo _) t_Mo t_Mo_ok n_Mo hown hK hP hD hS 0 rfl rfl 0 (by decide) (hts _ (List.mem_cons_of_mem _ k_522)) (fun _ h9 => h9) rfl (by decide +kernel) rfl rfl (Nat.le_of_ble_eq_true rfl) d_Mo_write_44 (fun H locs hP hD hS => ?_)
              have hP : va_P (dC, dI) vwCl [(m0, .inr (5, [.int (nI 0), .ref mu, .ref mz, .ref mb, .ref mr])), (mu, .inl (cI, 510, .inl (nf U))), (mz, .inl (cI, 2, .inl (nf Z))), (mb, .inl (cI, 1024, .inl (nf B))), (mr, .inl (cI, 11, .inl (nf (swB (rv U r) (Z r) b))))] H := hP
              have hD : va_D A [(m0, .inr (5, [.int (nI 0), .ref mu, .ref mz, .ref mb, .ref mr])), (mu, .inl (cI, 510, .inl (nf U))), (mz, .inl (cI, 2, .inl (nf Z))), (mb, .inl (cI, 1024, .inl (nf B))), (mr, .inl (cI, 11, .inl (nf (swB (rv U r) (Z r) b))))] := hD
              refine lv_aload_n hx hb d_Mo_write_47 rfl (lv_at hl 0 rfl) ?_
              refine va_get (D := (dC, dI)) (ci := 5) (v := .int (nI 0)) (C := "LongNamesModel") (T := F_Mo) (N := 5) hx hb hts (iw_Mo _) hown hK hP 0 rfl rfl 0 (by decide) (hts _ (List.mem_cons_of_mem _ k_522)) (fun _ h9 => h9) rfl d_Mo_write_48 ?_
              refine lv_if_le (tgt := 56) hx hb d_Mo_write_51 (by decide) (fun c_7 => ?_) (fun c_7 => ?_)
              · skip
                rw [mk_cle (by omega)] at c_7
                refine lv_aload_n hx hb d_Mo_write_56 rfl (lv_at hl 0 rfl) ?_
                refine va_get (D := (dC, dI)) (ci := 5) (v := .ref mz) (C := "LongNamesModel") (T := F_Mo) (N := 5) hx hb hts (iw_Mo _) hown hK hP 0 rfl rfl 2 (by decide) (hts _ (List.mem_cons_of_mem _ k_524)) (fun _ h9 => h9) rfl d_Mo_write_57 ?_
                refine lv_iload_n hx hb d_Mo_write_60 rfl (lv_at hl 1 rfl) ?_
                refine va_iald hx hb hK hP 2 0 rfl rfl (vp_in_nI (N := 2) (show r < 2 by omega) (by decide)) d_Mo_write_61 ?_
                refine mk_ti (y := nI (Z r)) (by rw [nI_clamp (by omega)]; rfl) ?_
                refine lv_istore (lv' := [(4, .int (nI (Z r))), (0, .ref m0), (1, .int (nI r)), (2, .int (nI q)), (3, .int (nI 0))]) hx hb d_Mo_write_62 hl (by decide) rfl (fun ls hl => ?_)
                refine lv_iload_n hx hb d_Mo_write_64 rfl (lv_at hl 4 rfl) ?_
                refine lv_if_ne (tgt := 72) hx hb d_Mo_write_65 (by decide) (fun c_8 => ?_) (fun c_8 => ?_)
                · skip
                  rw [mk_ceq (by omega)] at c_8
                  first | omega | contradiction
                · skip
                  rw [mk_ceq (by omega)] at c_8
                  refine lv_iconst (v := nI 0) hx hb d_Mo_write_68 (by decide) ?_
                  refine lv_goto (tgt := 77) hx hb d_Mo_write_69 (by decide) ?_
                  refine lv_istore (lv' := [(5, .int (nI 0)), (4, .int (nI (Z r))), (0, .ref m0), (1, .int (nI r)), (2, .int (nI q)), (3, .int (nI 0))]) hx hb d_Mo_write_77 hl (by decide) rfl (fun ls hl => ?_)
                  refine lv_aload_n hx hb d_Mo_write_79 rfl (lv_at hl 2 rfl) ?_
                  refine lv_iload_n hx hb d_Mo_write_80 rfl (lv_at hl 4 rfl) ?_
                  refine lv_if_lt (tgt := 93) hx hb d_Mo_write_81 (by decide) (fun c_9 => ?_) (fun c_9 => ?_)
                  · skip
                    rw [mk_clt (by omega)] at c_9
                    first | omega | contradiction
                  · skip
                    rw [mk_clt (by omega)] at c_9
                    refine lv_iload_n hx hb d_Mo_write_84 rfl (lv_at hl 4 rfl) ?_
                    refine lv_bipush (v := nI 31) hx hb d_Mo_write_85 (by decide) ?_
                    refine lv_iload hx hb d_Mo_write_87 (lv_at hl 0 rfl) ?_
                    refine lv_isub hx hb d_Mo_write_89 ?_
                    refine mk_ti (y := nI (31 - 0)) (pk_sub (by omega)) ?_
                    refine lv_icmp_le (tgt := 97) hx hb d_Mo_write_90 (by decide) (fun c_10 => ?_) (fun c_10 => ?_)
                    · skip
                      rw [nI_leI (by omega) (by omega)] at c_10
                      refine lv_iconst (v := nI 0) hx hb d_Mo_write_97 (by decide) ?_
                      refine va_put (D := (dC, dI)) (ci := 5) (v := .int (nI 0)) (ty := .int) (C := "LongNamesModel") (T := F_Mo) (N := 5) hx hb hts (iw_Mo _) t_Mo t_Mo_ok n_Mo hown hK hP hD hS 0 rfl rfl 0 (by decide) (hts _ (List.mem_cons_of_mem _ k_522)) (fun _ h9 => h9) rfl (by decide +kernel) rfl rfl (Nat.le_of_ble_eq_true rfl) d_Mo_write_98 (fun H locs hP hD hS => ?_)
                      have hP : va_P (dC, dI) vwCl [(m0, .inr (5, [.int (nI 0), .ref mu, .ref mz, .ref mb, .ref mr])), (mu, .inl (cI, 510, .inl (nf U))), (mz, .inl (cI, 2, .inl (nf Z))), (mb, .inl (cI, 1024, .inl (nf B))), (mr, .inl (cI, 11, .inl (nf (swB (rv U r) (Z r) b))))] H := hP
                      have hD : va_D A [(m0, .inr (5, [.int (nI 0), .ref mu, .ref mz, .ref mb, .ref mr])), (mu, .inl (cI, 510, .inl (nf U))), (mz, .inl (cI, 2, .inl (nf Z))), (mb, .inl (cI, 1024, .inl (nf B))), (mr, .inl (cI, 11, .inl (nf (swB (rv U r) (Z r) b))))] := hD
                      refine lv_aload_n hx hb d_Mo_write_101 rfl (lv_at hl 2 rfl) ?_
                      refine va_get (D := (dC, dI)) (ci := 5) (v := .int (nI 0)) (C := "LongNamesModel") (T := F_Mo) (N := 5) hx hb hts (iw_Mo _) hown hK hP 0 rfl rfl 0 (by decide) (hts _ (List.mem_cons_of_mem _ k_522)) (fun _ h9 => h9) rfl d_Mo_write_102 ?_
                      refine lv_if_le (tgt := 110) hx hb d_Mo_write_105 (by decide) (fun c_11 => ?_) (fun c_11 => ?_)
                      · skip
                        rw [mk_cle (by omega)] at c_11
                        refine lv_iload_n hx hb d_Mo_write_110 rfl (lv_at hl 5 rfl) ?_
                        refine lv_if_le (tgt := 120) hx hb d_Mo_write_111 (by decide) (fun c_12 => ?_) (fun c_12 => ?_)
                        · skip
                          rw [mk_cle (by omega)] at c_12
                          refine lv_iconst (v := nI 0) hx hb d_Mo_write_120 (by decide) ?_
                          refine lv_istore (lv' := [(6, .int (nI 0)), (5, .int (nI 0)), (4, .int (nI (Z r))), (0, .ref m0), (1, .int (nI r)), (2, .int (nI q)), (3, .int (nI 0))]) hx hb d_Mo_write_121 hl (by decide) rfl (fun ls hl => ?_)
                          have lp123 : ∀ (k : Nat) (i : Nat) (H : Heap) (locs : List Loc) (ls : Array Slot), (i + k = 32 * 0 + 32) → va_P (dC, dI) vwCl [(m0, .inr (5, [.int (nI 0), .ref mu, .ref mz, .ref mb, .ref mr])), (mu, .inl (cI, 510, .inl (nf U))), (mz, .inl (cI, 2, .inl (nf Z))), (mb, .inl (cI, 1024, .inl (nf (stN B (fun _ => 0) (32 * q) i)))), (mr, .inl (cI, 11, .inl (nf (swB (rv U r) (Z r) b))))] H → va_D A [(m0, .inr (5, [.int (nI 0), .ref mu, .ref mz, .ref mb, .ref mr])), (mu, .inl (cI, 510, .inl (nf U))), (mz, .inl (cI, 2, .inl (nf Z))), (mb, .inl (cI, 1024, .inl (nf (stN B (fun _ => 0) (32 * q) i)))), (mr, .inl (cI, 11, .inl (nf (swB (rv U r) (Z r) b))))] → va_S A s.heap H locs → lv_has ls 12 [(0, .ref m0), (1, .int (nI r)), (2, .int (nI q)), (3, .int (nI 0)), (4, .int (nI (Z r))), (5, .int (nI 0)), (6, .int (nI i))] → W p l e ({ frames := 3, cells := 0, slots := 0, locals := 68 } : Room) s m ([.ref m0, .int (nI r), .int (nI q), .int (nI 0)] : List Value).toArray below meth c H locs 0 0 Q (F0 m 123 ls []) := by
                            intro k
                            induction k with
                            | zero =>
                              intro i H locs ls hi hP hD hS hl
                              refine lv_iload hx hb d_Mo_write_123 (lv_at hl 6 rfl) ?_
                              refine lv_bipush (v := nI 32) hx hb d_Mo_write_125 (by decide) ?_
                              refine lv_iload hx hb d_Mo_write_127 (lv_at hl 5 rfl) ?_
                              refine lv_imul hx hb d_Mo_write_129 ?_
                              refine mk_ti (y := nI (32 * 0)) (pk_mul 32 0) ?_
                              refine lv_bipush (v := nI 32) hx hb d_Mo_write_130 (by decide) ?_
                              refine lv_iadd hx hb d_Mo_write_132 ?_
                              refine mk_ti (y := nI (32 * 0 + 32)) (nI_add (32 * 0) 32) ?_
                              refine lv_icmp_ge (tgt := 155) hx hb d_Mo_write_133 (by decide) (fun c_13 => ?_) (fun c_13 => ?_)
                              · skip
                                rw [nI_leI (by omega) (by omega)] at c_13
                                refine lv_bipush (v := nI 32) hx hb d_Mo_write_155 (by decide) ?_
                                refine lv_iload_n hx hb d_Mo_write_157 rfl (lv_at hl 2 rfl) ?_
                                refine lv_iload hx hb d_Mo_write_158 (lv_at hl 5 rfl) ?_
                                refine lv_iadd hx hb d_Mo_write_160 ?_
                                refine mk_ti (y := nI (q + 0)) (nI_add q 0) ?_
                                refine lv_imul hx hb d_Mo_write_161 ?_
                                refine mk_ti (y := nI (32 * (q + 0))) (pk_mul 32 (q + 0)) ?_
                                refine lv_istore (lv' := [(6, .int (nI (32 * (q + 0)))), (0, .ref m0), (1, .int (nI r)), (2, .int (nI q)), (3, .int (nI 0)), (4, .int (nI (Z r))), (5, .int (nI 0))]) hx hb d_Mo_write_162 hl (by decide) rfl (fun ls hl => ?_)
                                refine lv_iconst (v := nI 0) hx hb d_Mo_write_164 (by decide) ?_
                                refine lv_istore (lv' := [(7, .int (nI 0)), (6, .int (nI (32 * (q + 0)))), (0, .ref m0), (1, .int (nI r)), (2, .int (nI q)), (3, .int (nI 0)), (4, .int (nI (Z r))), (5, .int (nI 0))]) hx hb d_Mo_write_165 hl (by decide) rfl (fun ls hl => ?_)
                                have lp167 : ∀ (k2 : Nat) (i2 : Nat) (H : Heap) (locs : List Loc) (ls : Array Slot), (i2 + k2 = 11) → va_P (dC, dI) vwCl [(m0, .inr (5, [.int (nI 0), .ref mu, .ref mz, .ref mb, .ref mr])), (mu, .inl (cI, 510, .inl (nf U))), (mz, .inl (cI, 2, .inl (nf Z))), (mb, .inl (cI, 1024, .inl (nf (stN (stN B (fun _ => 0) (32 * q) (32 * 0 + 32)) (swB (rv U r) (Z r) b) (32 * (q + 0)) i2)))), (mr, .inl (cI, 11, .inl (nf (swB (rv U r) (Z r) b))))] H → va_D A [(m0, .inr (5, [.int (nI 0), .ref mu, .ref mz, .ref mb, .ref mr])), (mu, .inl (cI, 510, .inl (nf U))), (mz, .inl (cI, 2, .inl (nf Z))), (mb, .inl (cI, 1024, .inl (nf (stN (stN B (fun _ => 0) (32 * q) (32 * 0 + 32)) (swB (rv U r) (Z r) b) (32 * (q + 0)) i2)))), (mr, .inl (cI, 11, .inl (nf (swB (rv U r) (Z r) b))))] → va_S A s.heap H locs → lv_has ls 12 [(0, .ref m0), (1, .int (nI r)), (2, .int (nI q)), (3, .int (nI 0)), (4, .int (nI (Z r))), (5, .int (nI 0)), (6, .int (nI (32 * (q + 0)))), (7, .int (nI i2))] → W p l e ({ frames := 3, cells := 0, slots := 0, locals := 68 } : Room) s m ([.ref m0, .int (nI r), .int (nI q), .int (nI 0)] : List Value).toArray below meth c H locs 0 0 Q (F0 m 167 ls []) := by
                                  intro k2
                                  induction k2 with
                                  | zero =>
                                    intro i2 H locs ls hi2 hP hD hS hl
                                    refine lv_iload hx hb d_Mo_write_167 (lv_at hl 7 rfl) ?_
                                    refine lv_bipush (v := nI 11) hx hb d_Mo_write_169 (by decide) ?_
                                    refine lv_icmp_ge (tgt := 197) hx hb d_Mo_write_171 (by decide) (fun c_14 => ?_) (fun c_14 => ?_)
                                    · skip
                                      rw [nI_leI (by omega) (by omega)] at c_14
                                      refine lv_iconst (v := nI 1) hx hb d_Mo_write_197 (by decide) ?_
                                      refine lv_istore (lv' := [(7, .int (nI 1)), (0, .ref m0), (1, .int (nI r)), (2, .int (nI q)), (3, .int (nI 0)), (4, .int (nI (Z r))), (5, .int (nI 0)), (6, .int (nI (32 * (q + 0))))]) hx hb d_Mo_write_198 hl (by decide) rfl (fun ls hl => ?_)
                                      refine lv_iload hx hb d_Mo_write_200 (lv_at hl 0 rfl) ?_
                                      refine lv_iload hx hb d_Mo_write_202 (lv_at hl 6 rfl) ?_
                                      refine lv_icmp_gt (tgt := 374) hx hb d_Mo_write_204 (by decide) (fun c_15 => ?_) (fun c_15 => ?_)
                                      · skip
                                        rw [nI_ltI (by omega) (by omega)] at c_15
                                        refine lv_iload hx hb d_Mo_write_374 (lv_at hl 6 rfl) ?_
                                        refine lv_iconst (v := nI 1) hx hb d_Mo_write_376 (by decide) ?_
                                        refine lv_iadd hx hb d_Mo_write_377 ?_
                                        refine mk_ti (y := nI (0 + 1)) (nI_add 0 1) ?_
                                        have hw9 : ([(m0, .inr (5, [.int (nI 0), .ref mu, .ref mz, .ref mb, .ref mr])), (mu, .inl (cI, 510, .inl (nf U))), (mz, .inl (cI, 2, .inl (nf Z))), (mb, .inl (cI, 1024, .inl (nf (stN (stN B (fun _ => 0) (32 * q) (32 * 0 + 32)) (swB (rv U r) (Z r) b) (32 * (q + 0)) i2)))), (mr, .inl (cI, 11, .inl (nf (swB (rv U r) (Z r) b))))] : va_W) = [(m0, .inr (5, [.int (nI 0), .ref mu, .ref mz, .ref mb, .ref mr])), (mu, .inl (cI, 510, .inl (nf U))), (mz, .inl (cI, 2, .inl (nf Z))), (mb, .inl (cI, 1024, .inl (nf (stN (stN B (fun _ => 0) (32 * q) (32 * 0 + 32)) (swB (rv U r) (Z r) b) (32 * (q + 0)) 11)))), (mr, .inl (cI, 11, .inl (nf (swB (rv U r) (Z r) b))))] := by rw [show i2 = 11 by omega]
                                        rw [hw9] at hP hD
                                        exact hret _ _ _ _ d_Mo_write_378 hP hD hS
                                      · skip
                                        rw [nI_ltI (by omega) (by omega)] at c_15
                                        first | omega | contradiction
                                    · skip
                                      rw [nI_leI (by omega) (by omega)] at c_14
                                      first | omega | contradiction
                                  | succ k2 ih167 =>
                                    intro i2 H locs ls hi2 hP hD hS hl
                                    refine lv_iload hx hb d_Mo_write_167 (lv_at hl 7 rfl) ?_
                                    refine lv_bipush (v := nI 11) hx hb d_Mo_write_169 (by decide) ?_
                                    refine lv_icmp_ge (tgt := 197) hx hb d_Mo_write_171 (by decide) (fun c_16 => ?_) (fun c_16 => ?_)
                                    · skip
                                      rw [nI_leI (by omega) (by omega)] at c_16
                                      first | omega | contradiction
                                    · skip
                                      rw [nI_leI (by omega) (by omega)] at c_16
                                      refine lv_aload_n hx hb d_Mo_write_174 rfl (lv_at hl 0 rfl) ?_
                                      refine va_get (D := (dC, dI)) (ci := 5) (v := .ref mb) (C := "LongNamesModel") (T := F_Mo) (N := 5) hx hb hts (iw_Mo _) hown hK hP 0 rfl rfl 3 (by decide) (hts _ (List.mem_cons_of_mem _ k_525)) (fun _ h9 => h9) rfl d_Mo_write_175 ?_
                                      refine lv_iload hx hb d_Mo_write_178 (lv_at hl 6 rfl) ?_
                                      refine lv_iload hx hb d_Mo_write_180 (lv_at hl 7 rfl) ?_
                                      refine lv_iadd hx hb d_Mo_write_182 ?_
                                      refine mk_ti (y := nI (32 * (q + 0) + i2)) (nI_add (32 * (q + 0)) i2) ?_
                                      refine lv_aload_n hx hb d_Mo_write_183 rfl (lv_at hl 0 rfl) ?_
                                      refine va_get (D := (dC, dI)) (ci := 5) (v := .ref mr) (C := "LongNamesModel") (T := F_Mo) (N := 5) hx hb hts (iw_Mo _) hown hK hP 0 rfl rfl 4 (by decide) (hts _ (List.mem_cons_of_mem _ k_526)) (fun _ h9 => h9) rfl d_Mo_write_184 ?_
                                      refine lv_iload hx hb d_Mo_write_187 (lv_at hl 7 rfl) ?_
                                      refine va_iald hx hb hK hP 4 0 rfl rfl (vp_in_nI (N := 11) (show i2 < 11 by omega) (by decide)) d_Mo_write_189 ?_
                                      refine mk_ti (y := nI ((swB (rv U r) (Z r) b) i2)) (by rw [nI_clamp (by omega)]; rfl) ?_
                                      refine va_iast hx hb hK hP hD hS 3 0 rfl rfl (vp_in_nI (N := 1024) (show 32 * (q + 0) + i2 < 1024 by omega) (by decide)) d_Mo_write_190 (fun H locs hP hD hS => ?_)
                                      rw [nI_clamp (by omega), nf_up] at hP hD
                                      have hP : va_P (dC, dI) vwCl [(m0, .inr (5, [.int (nI 0), .ref mu, .ref mz, .ref mb, .ref mr])), (mu, .inl (cI, 510, .inl (nf U))), (mz, .inl (cI, 2, .inl (nf Z))), (mb, .inl (cI, 1024, .inl (nf (uN (stN (stN B (fun _ => 0) (32 * q) (32 * 0 + 32)) (swB (rv U r) (Z r) b) (32 * (q + 0)) i2) (32 * (q + 0) + i2) ((swB (rv U r) (Z r) b) i2))))), (mr, .inl (cI, 11, .inl (nf (swB (rv U r) (Z r) b))))] H := hP
                                      have hD : va_D A [(m0, .inr (5, [.int (nI 0), .ref mu, .ref mz, .ref mb, .ref mr])), (mu, .inl (cI, 510, .inl (nf U))), (mz, .inl (cI, 2, .inl (nf Z))), (mb, .inl (cI, 1024, .inl (nf (uN (stN (stN B (fun _ => 0) (32 * q) (32 * 0 + 32)) (swB (rv U r) (Z r) b) (32 * (q + 0)) i2) (32 * (q + 0) + i2) ((swB (rv U r) (Z r) b) i2))))), (mr, .inl (cI, 11, .inl (nf (swB (rv U r) (Z r) b))))] := hD
                                      refine lv_iinc (v := nI (i2 + 1)) (lv' := [(7, .int (nI (i2 + 1))), (0, .ref m0), (1, .int (nI r)), (2, .int (nI q)), (3, .int (nI 0)), (4, .int (nI (Z r))), (5, .int (nI 0)), (6, .int (nI (32 * (q + 0))))]) hx hb d_Mo_write_191 hl (k := 7) rfl (mk_i1 i2) (by decide) rfl (fun ls hl => ?_)
                                      refine lv_goto (tgt := 167) hx hb d_Mo_write_194 (by decide) ?_
                                      have hl : lv_has ls 12 [(0, .ref m0), (1, .int (nI r)), (2, .int (nI q)), (3, .int (nI 0)), (4, .int (nI (Z r))), (5, .int (nI 0)), (6, .int (nI (32 * (q + 0)))), (7, .int (nI (i2 + 1)))] := lv_sub hl [1, 2, 3, 4, 5, 6, 7, 0] rfl
                                      have hw9 : ([(m0, .inr (5, [.int (nI 0), .ref mu, .ref mz, .ref mb, .ref mr])), (mu, .inl (cI, 510, .inl (nf U))), (mz, .inl (cI, 2, .inl (nf Z))), (mb, .inl (cI, 1024, .inl (nf (uN (stN (stN B (fun _ => 0) (32 * q) (32 * 0 + 32)) (swB (rv U r) (Z r) b) (32 * (q + 0)) i2) (32 * (q + 0) + i2) ((swB (rv U r) (Z r) b) i2))))), (mr, .inl (cI, 11, .inl (nf (swB (rv U r) (Z r) b))))] : va_W) = [(m0, .inr (5, [.int (nI 0), .ref mu, .ref mz, .ref mb, .ref mr])), (mu, .inl (cI, 510, .inl (nf U))), (mz, .inl (cI, 2, .inl (nf Z))), (mb, .inl (cI, 1024, .inl (nf (stN (stN B (fun _ => 0) (32 * q) (32 * 0 + 32)) (swB (rv U r) (Z r) b) (32 * (q + 0)) (i2 + 1))))), (mr, .inl (cI, 11, .inl (nf (swB (rv U r) (Z r) b))))] := by rw [stN_s (by rfl)]
                                      rw [hw9] at hP hD
                                      exact ih167 (i2 + 1) _ _ _ (by omega) hP hD hS hl
                                have hl : lv_has ls 12 [(0, .ref m0), (1, .int (nI r)), (2, .int (nI q)), (3, .int (nI 0)), (4, .int (nI (Z r))), (5, .int (nI 0)), (6, .int (nI (32 * (q + 0)))), (7, .int (nI 0))] := lv_sub hl [2, 3, 4, 5, 6, 7, 1, 0] rfl
                                have hw9 : ([(m0, .inr (5, [.int (nI 0), .ref mu, .ref mz, .ref mb, .ref mr])), (mu, .inl (cI, 510, .inl (nf U))), (mz, .inl (cI, 2, .inl (nf Z))), (mb, .inl (cI, 1024, .inl (nf (stN B (fun _ => 0) (32 * q) i)))), (mr, .inl (cI, 11, .inl (nf (swB (rv U r) (Z r) b))))] : va_W) = [(m0, .inr (5, [.int (nI 0), .ref mu, .ref mz, .ref mb, .ref mr])), (mu, .inl (cI, 510, .inl (nf U))), (mz, .inl (cI, 2, .inl (nf Z))), (mb, .inl (cI, 1024, .inl (nf (stN (stN B (fun _ => 0) (32 * q) (32 * 0 + 32)) (swB (rv U r) (Z r) b) (32 * (q + 0)) 0)))), (mr, .inl (cI, 11, .inl (nf (swB (rv U r) (Z r) b))))] := by rw [show i = 32 * 0 + 32 by omega, stN_0]
                                rw [hw9] at hP hD
                                exact lp167 11 0 _ _ _ rfl hP hD hS hl
                              · skip
                                rw [nI_leI (by omega) (by omega)] at c_13
                                first | omega | contradiction
                            | succ k ih123 =>
                              intro i H locs ls hi hP hD hS hl
                              refine lv_iload hx hb d_Mo_write_123 (lv_at hl 6 rfl) ?_
                              refine lv_bipush (v := nI 32) hx hb d_Mo_write_125 (by decide) ?_
                              refine lv_iload hx hb d_Mo_write_127 (lv_at hl 5 rfl) ?_
                              refine lv_imul hx hb d_Mo_write_129 ?_
                              refine mk_ti (y := nI (32 * 0)) (pk_mul 32 0) ?_
                              refine lv_bipush (v := nI 32) hx hb d_Mo_write_130 (by decide) ?_
                              refine lv_iadd hx hb d_Mo_write_132 ?_
                              refine mk_ti (y := nI (32 * 0 + 32)) (nI_add (32 * 0) 32) ?_
                              refine lv_icmp_ge (tgt := 155) hx hb d_Mo_write_133 (by decide) (fun c_17 => ?_) (fun c_17 => ?_)
                              · skip
                                rw [nI_leI (by omega) (by omega)] at c_17
                                first | omega | contradiction
                              · skip
                                rw [nI_leI (by omega) (by omega)] at c_17
                                refine lv_aload_n hx hb d_Mo_write_136 rfl (lv_at hl 0 rfl) ?_
                                refine va_get (D := (dC, dI)) (ci := 5) (v := .ref mb) (C := "LongNamesModel") (T := F_Mo) (N := 5) hx hb hts (iw_Mo _) hown hK hP 0 rfl rfl 3 (by decide) (hts _ (List.mem_cons_of_mem _ k_525)) (fun _ h9 => h9) rfl d_Mo_write_137 ?_
                                refine lv_bipush (v := nI 32) hx hb d_Mo_write_140 (by decide) ?_
                                refine lv_iload_n hx hb d_Mo_write_142 rfl (lv_at hl 2 rfl) ?_
                                refine lv_imul hx hb d_Mo_write_143 ?_
                                refine mk_ti (y := nI (32 * q)) (pk_mul 32 q) ?_
                                refine lv_iload hx hb d_Mo_write_144 (lv_at hl 6 rfl) ?_
                                refine lv_iadd hx hb d_Mo_write_146 ?_
                                refine mk_ti (y := nI (32 * q + i)) (nI_add (32 * q) i) ?_
                                refine lv_iconst (v := nI 0) hx hb d_Mo_write_147 (by decide) ?_
                                refine va_iast hx hb hK hP hD hS 3 0 rfl rfl (vp_in_nI (N := 1024) (show 32 * q + i < 1024 by omega) (by decide)) d_Mo_write_148 (fun H locs hP hD hS => ?_)
                                rw [nI_clamp (by omega), nf_up] at hP hD
                                have hP : va_P (dC, dI) vwCl [(m0, .inr (5, [.int (nI 0), .ref mu, .ref mz, .ref mb, .ref mr])), (mu, .inl (cI, 510, .inl (nf U))), (mz, .inl (cI, 2, .inl (nf Z))), (mb, .inl (cI, 1024, .inl (nf (uN (stN B (fun _ => 0) (32 * q) i) (32 * q + i) 0)))), (mr, .inl (cI, 11, .inl (nf (swB (rv U r) (Z r) b))))] H := hP
                                have hD : va_D A [(m0, .inr (5, [.int (nI 0), .ref mu, .ref mz, .ref mb, .ref mr])), (mu, .inl (cI, 510, .inl (nf U))), (mz, .inl (cI, 2, .inl (nf Z))), (mb, .inl (cI, 1024, .inl (nf (uN (stN B (fun _ => 0) (32 * q) i) (32 * q + i) 0)))), (mr, .inl (cI, 11, .inl (nf (swB (rv U r) (Z r) b))))] := hD
                                refine lv_iinc (v := nI (i + 1)) (lv' := [(6, .int (nI (i + 1))), (0, .ref m0), (1, .int (nI r)), (2, .int (nI q)), (3, .int (nI 0)), (4, .int (nI (Z r))), (5, .int (nI 0))]) hx hb d_Mo_write_149 hl (k := 6) rfl (mk_i1 i) (by decide) rfl (fun ls hl => ?_)
                                refine lv_goto (tgt := 123) hx hb d_Mo_write_152 (by decide) ?_
                                have hl : lv_has ls 12 [(0, .ref m0), (1, .int (nI r)), (2, .int (nI q)), (3, .int (nI 0)), (4, .int (nI (Z r))), (5, .int (nI 0)), (6, .int (nI (i + 1)))] := lv_sub hl [1, 2, 3, 4, 5, 6, 0] rfl
                                have hw9 : ([(m0, .inr (5, [.int (nI 0), .ref mu, .ref mz, .ref mb, .ref mr])), (mu, .inl (cI, 510, .inl (nf U))), (mz, .inl (cI, 2, .inl (nf Z))), (mb, .inl (cI, 1024, .inl (nf (uN (stN B (fun _ => 0) (32 * q) i) (32 * q + i) 0)))), (mr, .inl (cI, 11, .inl (nf (swB (rv U r) (Z r) b))))] : va_W) = [(m0, .inr (5, [.int (nI 0), .ref mu, .ref mz, .ref mb, .ref mr])), (mu, .inl (cI, 510, .inl (nf U))), (mz, .inl (cI, 2, .inl (nf Z))), (mb, .inl (cI, 1024, .inl (nf (stN B (fun _ => 0) (32 * q) (i + 1))))), (mr, .inl (cI, 11, .inl (nf (swB (rv U r) (Z r) b))))] := by rw [stN_s (by rfl)]
                                rw [hw9] at hP hD
                                exact ih123 (i + 1) _ _ _ (by omega) hP hD hS hl
                          have hl : lv_has ls 12 [(0, .ref m0), (1, .int (nI r)), (2, .int (nI q)), (3, .int (nI 0)), (4, .int (nI (Z r))), (5, .int (nI 0)), (6, .int (nI 0))] := lv_sub hl [3, 4, 5, 6, 2, 1, 0] rfl
                          have hw9 : ([(m0, .inr (5, [.int (nI 0), .ref mu, .ref mz, .ref mb, .ref mr])), (mu, .inl (cI, 510, .inl (nf U))), (mz, .inl (cI, 2, .inl (nf Z))), (mb, .inl (cI, 1024, .inl (nf B))), (mr, .inl (cI, 11, .inl (nf (swB (rv U r) (Z r) b))))] : va_W) = [(m0, .inr (5, [.int (nI 0), .ref mu, .ref mz, .ref mb, .ref mr])), (mu, .inl (cI, 510, .inl (nf U))), (mz, .inl (cI, 2, .inl (nf Z))), (mb, .inl (cI, 1024, .inl (nf (stN B (fun _ => 0) (32 * q) 0)))), (mr, .inl (cI, 11, .inl (nf (swB (rv U r) (Z r) b))))] := by rw [stN_0]
                          rw [hw9] at hP hD
                          exact lp123 (32 * 0 + 32) 0 _ _ _ (by omega) hP hD hS hl
                        · skip
                          rw [mk_cle (by omega)] at c_12
                          first | omega | contradiction
                      · skip
                        rw [mk_cle (by omega)] at c_11
                        first | omega | contradiction
                    · skip
                      rw [nI_leI (by omega) (by omega)] at c_10
                      first | omega | contradiction
              · skip
                rw [mk_cle (by omega)] at c_7
                first | omega | contradiction
            · skip
              have c_6 := bI_0 c_6
              rw [h2] at c_6; exact absurd c_6 (by decide)

set_option maxHeartbeats 1000000 in
set_option maxRecDepth 100000 in
theorem c_Mo_wP (l : Launch) (dC : Nat → ClassId) (dI : Nat → Nat → Nat) (cI : ClassId) (m0 : Nat) (th : Int32) (mu mz mb mr : Nat) (U Z B b : Nat → Nat) (r q t : Nat) (hU : ∀ j, U j < 65536) (hZ : ∀ j, Z j ≤ 255) (hB : ∀ j, B j < 65536) (hb9 : ∀ j, b j < 65536) (hr : r < 2) (h1 : nameN (rv U r) (Z r) = true) (ht : 1 ≤ t ∧ t < 10000) (hq : q + pnN (Z r) < 32) : mM l y_Mo_write w_Mo_write ({ frames := 3, cells := 0, slots := 0, locals := 71 } : Room) [.ref m0, .int (nI r), .int (nI q), .int (nI t)] (dC, dI) vwCl [(cI, .int)] [(m0, .inr (5, [.int th, .ref mu, .ref mz, .ref mb, .ref mr])), (mu, .inl (cI, 510, .inl (nf U))), (mz, .inl (cI, 2, .inl (nf Z))), (mb, .inl (cI, 1024, .inl (nf B))), (mr, .inl (cI, 11, .inl (nf b)))] (some (.int (nI (pnN (Z r) + 1)))) [(m0, .inr (5, [.int (nI 0), .ref mu, .ref mz, .ref mb, .ref mr])), (mu, .inl (cI, 510, .inl (nf U))), (mz, .inl (cI, 2, .inl (nf Z))), (mb, .inl (cI, 1024, .inl (nf (mpB (rv U r) (Z r) (suN (stN (stN B (fun _ => 0) (32 * q) (32 * (pnN (Z r)) + 32)) (tdN (rv U r) (Z r) t b) (32 * (q + pnN (Z r))) 11) (32 * (q + pnN (Z r))) 11) (32 * (q + pnN (Z r))) (pnN (Z r)) (stN (stN B (fun _ => 0) (32 * q) (32 * (pnN (Z r)) + 32)) (tdN (rv U r) (Z r) t b) (32 * (q + pnN (Z r))) 11) (pnN (Z r)))))), (mr, .inl (cI, 11, .inl (nf (tdN (rv U r) (Z r) t b))))] := by
  have hZr := hZ r
  have hBR : ∀ j, (tdN (rv U r) (Z r) t b) j < 65536 := tdN_lt (fun j => rv_lt hU j) hb9
  have hB2 : ∀ j, (stN (stN B (fun _ => 0) (32 * q) (32 * (pnN (Z r)) + 32)) (tdN (rv U r) (Z r) t b) (32 * (q + pnN (Z r))) 11) j < 65536 := stN_lt (stN_lt hB (fun _ => by omega)) hBR
  have hnz := nameN_pos h1
  have hs9 := suN_lt (stN (stN B (fun _ => 0) (32 * q) (32 * (pnN (Z r)) + 32)) (tdN (rv U r) (Z r) t b) (32 * (q + pnN (Z r))) 11) (32 * (q + pnN (Z r))) 11
  refine mk_Mi (cc := b_Mo_write) (maxL := 12) (by decide) rfl (Nat.le_of_ble_eq_true rfl) rfl ?_
  intro p e s m below meth c Q A ls S hP hK hT hS hl hD hA hret
  obtain ⟨hx, hb, hml, hown, hts⟩ := id S
  have hl : lv_has ls 12 [(0, .ref m0), (1, .int (nI r)), (2, .int (nI q)), (3, .int (nI t))] := hl
  refine lv_aload_n hx hb d_Mo_write_0 rfl (lv_at hl 0 rfl) ?_
  refine lv_iload_n hx hb d_Mo_write_1 rfl (lv_at hl 1 rfl) ?_
  refine mk_r1 (W.runS (As := [.int (nI r)]) (rest := [.ref m0]) S (c_Mo_rowN l dC dI cI r (by first | assumption | omega)) (gS 1 hts k_546 k_547 k_29 k_548 (by decide +kernel) ⟨Nat.le_of_ble_eq_true rfl, Nat.le_of_ble_eq_true rfl⟩) (mk_sR hP hK hT hS [] rfl) rfl rfl hl.1 rfl (lv_room (Nat.le_of_ble_eq_true rfl)) d_Mo_write_2 ⟨Nat.zero_le _, Nat.zero_le _⟩) ?_
  refine lv_if_eq (tgt := 39) hx hb d_Mo_write_5 (by decide) (fun c_1 => ?_) (fun c_1 => ?_)
  · skip
    rw [mk_ceq (by omega)] at c_1
    first | omega | contradiction
  · skip
    rw [mk_ceq (by omega)] at c_1
    refine lv_aload_n hx hb d_Mo_write_8 rfl (lv_at hl 0 rfl) ?_
    refine lv_iload_n hx hb d_Mo_write_9 rfl (lv_at hl 1 rfl) ?_
    refine mk_r1 (W.runV (As := [.int (nI r)]) (rest := [.ref m0]) S (c_Mo_name l dC dI cI m0 th mu mz mb mr U Z r (by first | assumption | omega) (by first | assumption | omega) (by first | assumption | omega)) (gV 1 hts k_558 k_560 k_13 k_29 k_561 (by decide +kernel) ⟨Nat.le_of_ble_eq_true rfl, Nat.le_of_ble_eq_true rfl⟩) (mk_vR hP hK hT hS [0, 1, 2] rfl (q0 := 0) (ci := 5) rfl rfl) rfl rfl hl.1 rfl (lv_room (Nat.le_of_ble_eq_true rfl)) d_Mo_write_10 ⟨Nat.zero_le _, Nat.zero_le _⟩) ?_
    refine lv_if_eq (tgt := 39) hx hb d_Mo_write_13 (by decide) (fun c_2 => ?_) (fun c_2 => ?_)
    · skip
      have c_2 := bI_0 c_2
      rw [h1] at c_2; exact absurd c_2 (by decide)
    · skip
      have c_2 := bI_1 c_2
      refine lv_iload_n hx hb d_Mo_write_16 rfl (lv_at hl 3 rfl) ?_
      refine lv_if_lt (tgt := 39) hx hb d_Mo_write_17 (by decide) (fun c_3 => ?_) (fun c_3 => ?_)
      · skip
        rw [mk_clt (by omega)] at c_3
        first | omega | contradiction
      · skip
        rw [mk_clt (by omega)] at c_3
        refine lv_iload_n hx hb d_Mo_write_20 rfl (lv_at hl 3 rfl) ?_
        refine lv_sipush (v := nI 9999) hx hb d_Mo_write_21 (by decide) ?_
        refine lv_icmp_gt (tgt := 39) hx hb d_Mo_write_24 (by decide) (fun c_4 => ?_) (fun c_4 => ?_)
        · skip
          rw [nI_ltI (by omega) (by omega)] at c_4
          first | omega | contradiction
        · skip
          rw [nI_ltI (by omega) (by omega)] at c_4
          refine lv_iload_n hx hb d_Mo_write_27 rfl (lv_at hl 3 rfl) ?_
          refine lv_if_ne (tgt := 43) hx hb d_Mo_write_28 (by decide) (fun c_5 => ?_) (fun c_5 => ?_)
          · skip
            rw [mk_ceq (by omega)] at c_5
            refine lv_iconst (v := nI 0) hx hb d_Mo_write_43 (by decide) ?_
            refine va_put (D := (dC, dI)) (ci := 5) (v := .int (nI 0)) (ty := .int) (C := "LongNamesModel") (T := F_Mo) (N := 5) hx hb hts (iw_Mo _) t_Mo t_Mo_ok n_Mo hown hK hP hD hS 0 rfl rfl 0 (by decide) (hts _ (List.mem_cons_of_mem _ k_522)) (fun _ h9 => h9) rfl (by decide +kernel) rfl rfl (Nat.le_of_ble_eq_true rfl) d_Mo_write_44 (fun H locs hP hD hS => ?_)
            have hP : va_P (dC, dI) vwCl [(m0, .inr (5, [.int (nI 0), .ref mu, .ref mz, .ref mb, .ref mr])), (mu, .inl (cI, 510, .inl (nf U))), (mz, .inl (cI, 2, .inl (nf Z))), (mb, .inl (cI, 1024, .inl (nf B))), (mr, .inl (cI, 11, .inl (nf b)))] H := hP
            have hD : va_D A [(m0, .inr (5, [.int (nI 0), .ref mu, .ref mz, .ref mb, .ref mr])), (mu, .inl (cI, 510, .inl (nf U))), (mz, .inl (cI, 2, .inl (nf Z))), (mb, .inl (cI, 1024, .inl (nf B))), (mr, .inl (cI, 11, .inl (nf b)))] := hD
            refine lv_aload_n hx hb d_Mo_write_47 rfl (lv_at hl 0 rfl) ?_
            refine va_get (D := (dC, dI)) (ci := 5) (v := .int (nI 0)) (C := "LongNamesModel") (T := F_Mo) (N := 5) hx hb hts (iw_Mo _) hown hK hP 0 rfl rfl 0 (by decide) (hts _ (List.mem_cons_of_mem _ k_522)) (fun _ h9 => h9) rfl d_Mo_write_48 ?_
            refine lv_if_le (tgt := 56) hx hb d_Mo_write_51 (by decide) (fun c_6 => ?_) (fun c_6 => ?_)
            · skip
              rw [mk_cle (by omega)] at c_6
              refine lv_aload_n hx hb d_Mo_write_56 rfl (lv_at hl 0 rfl) ?_
              refine va_get (D := (dC, dI)) (ci := 5) (v := .ref mz) (C := "LongNamesModel") (T := F_Mo) (N := 5) hx hb hts (iw_Mo _) hown hK hP 0 rfl rfl 2 (by decide) (hts _ (List.mem_cons_of_mem _ k_524)) (fun _ h9 => h9) rfl d_Mo_write_57 ?_
              refine lv_iload_n hx hb d_Mo_write_60 rfl (lv_at hl 1 rfl) ?_
              refine va_iald hx hb hK hP 2 0 rfl rfl (vp_in_nI (N := 2) (show r < 2 by omega) (by decide)) d_Mo_write_61 ?_
              refine mk_ti (y := nI (Z r)) (by rw [nI_clamp (by omega)]; rfl) ?_
              refine lv_istore (lv' := [(4, .int (nI (Z r))), (0, .ref m0), (1, .int (nI r)), (2, .int (nI q)), (3, .int (nI t))]) hx hb d_Mo_write_62 hl (by decide) rfl (fun ls hl => ?_)
              refine lv_iload_n hx hb d_Mo_write_64 rfl (lv_at hl 4 rfl) ?_
              refine lv_if_ne (tgt := 72) hx hb d_Mo_write_65 (by decide) (fun c_7 => ?_) (fun c_7 => ?_)
              · skip
                rw [mk_ceq (by omega)] at c_7
                refine lv_iload hx hb d_Mo_write_72 (lv_at hl 0 rfl) ?_
                refine mk_r1 (W.runS (As := [.int (nI (Z r))]) (rest := []) S (c_Mo_parts l dC dI cI (Z r) (by first | assumption | omega)) (gS 1 hts k_583 k_584 k_29 k_585 (by decide +kernel) ⟨Nat.le_of_ble_eq_true rfl, Nat.le_of_ble_eq_true rfl⟩) (mk_sR hP hK hT hS [] rfl) rfl rfl hl.1 rfl (lv_room (Nat.le_of_ble_eq_true rfl)) d_Mo_write_74 ⟨Nat.zero_le _, Nat.zero_le _⟩) ?_
                have b_8 := pnN_le (show (Z r) ≤ 255 by omega)
                refine lv_istore (lv' := [(5, .int (nI (pnN (Z r)))), (4, .int (nI (Z r))), (0, .ref m0), (1, .int (nI r)), (2, .int (nI q)), (3, .int (nI t))]) hx hb d_Mo_write_77 hl (by decide) rfl (fun ls hl => ?_)
                refine lv_aload_n hx hb d_Mo_write_79 rfl (lv_at hl 2 rfl) ?_
                refine lv_iload_n hx hb d_Mo_write_80 rfl (lv_at hl 4 rfl) ?_
                refine lv_if_lt (tgt := 93) hx hb d_Mo_write_81 (by decide) (fun c_9 => ?_) (fun c_9 => ?_)
                · skip
                  rw [mk_clt (by omega)] at c_9
                  first | omega | contradiction
                · skip
                  rw [mk_clt (by omega)] at c_9
                  refine lv_iload_n hx hb d_Mo_write_84 rfl (lv_at hl 4 rfl) ?_
                  refine lv_bipush (v := nI 31) hx hb d_Mo_write_85 (by decide) ?_
                  refine lv_iload hx hb d_Mo_write_87 (lv_at hl 0 rfl) ?_
                  refine lv_isub hx hb d_Mo_write_89 ?_
                  refine mk_ti (y := nI (31 - (pnN (Z r)))) (pk_sub (by omega)) ?_
                  refine lv_icmp_le (tgt := 97) hx hb d_Mo_write_90 (by decide) (fun c_10 => ?_) (fun c_10 => ?_)
                  · skip
                    rw [nI_leI (by omega) (by omega)] at c_10
                    refine lv_iconst (v := nI 0) hx hb d_Mo_write_97 (by decide) ?_
                    refine va_put (D := (dC, dI)) (ci := 5) (v := .int (nI 0)) (ty := .int) (C := "LongNamesModel") (T := F_Mo) (N := 5) hx hb hts (iw_Mo _) t_Mo t_Mo_ok n_Mo hown hK hP hD hS 0 rfl rfl 0 (by decide) (hts _ (List.mem_cons_of_mem _ k_522)) (fun _ h9 => h9) rfl (by decide +kernel) rfl rfl (Nat.le_of_ble_eq_true rfl) d_Mo_write_98 (fun H locs hP hD hS => ?_)
                    have hP : va_P (dC, dI) vwCl [(m0, .inr (5, [.int (nI 0), .ref mu, .ref mz, .ref mb, .ref mr])), (mu, .inl (cI, 510, .inl (nf U))), (mz, .inl (cI, 2, .inl (nf Z))), (mb, .inl (cI, 1024, .inl (nf B))), (mr, .inl (cI, 11, .inl (nf b)))] H := hP
                    have hD : va_D A [(m0, .inr (5, [.int (nI 0), .ref mu, .ref mz, .ref mb, .ref mr])), (mu, .inl (cI, 510, .inl (nf U))), (mz, .inl (cI, 2, .inl (nf Z))), (mb, .inl (cI, 1024, .inl (nf B))), (mr, .inl (cI, 11, .inl (nf b)))] := hD
                    refine lv_aload_n hx hb d_Mo_write_101 rfl (lv_at hl 2 rfl) ?_
                    refine va_get (D := (dC, dI)) (ci := 5) (v := .int (nI 0)) (C := "LongNamesModel") (T := F_Mo) (N := 5) hx hb hts (iw_Mo _) hown hK hP 0 rfl rfl 0 (by decide) (hts _ (List.mem_cons_of_mem _ k_522)) (fun _ h9 => h9) rfl d_Mo_write_102 ?_
                    refine lv_if_le (tgt := 110) hx hb d_Mo_write_105 (by decide) (fun c_11 => ?_) (fun c_11 => ?_)
                    · skip
                      rw [mk_cle (by omega)] at c_11
                      refine lv_iload_n hx hb d_Mo_write_110 rfl (lv_at hl 5 rfl) ?_
                      refine lv_if_le (tgt := 120) hx hb d_Mo_write_111 (by decide) (fun c_12 => ?_) (fun c_12 => ?_)
                      · skip
                        rw [mk_cle (by omega)] at c_12
                        first | omega | contradiction
                      · skip
                        rw [mk_cle (by omega)] at c_12
                        refine lv_aload_n hx hb d_Mo_write_114 rfl (lv_at hl 2 rfl) ?_
                        refine lv_iload_n hx hb d_Mo_write_115 rfl (lv_at hl 3 rfl) ?_
                        refine lv_iload_n hx hb d_Mo_write_116 rfl (lv_at hl 5 rfl) ?_
                        refine mk_w0 (wr := [(mb, .inl (cI, 1024, .inl (nf B)))]) (W.runV (As := [.int (nI r), .int (nI t)]) (rest := []) S ((c_Mo_tailed l dC dI cI m0 (nI 0) mu mz mb mr U Z b r t (by first | assumption | omega) (by first | assumption | omega) (by first | assumption | omega) (by first | assumption | omega) (by first | assumption | omega)) _) (gV 2 hts k_604 k_606 k_17 k_29 k_607 (by decide +kernel) ⟨Nat.le_of_ble_eq_true rfl, Nat.le_of_ble_eq_true rfl⟩) (mk_vM hP hD hK hT hS hA [0, 1, 2, 4] rfl rfl (by decide) (q0 := 0) (ci := 5) rfl rfl) rfl rfl hl.1 rfl (lv_room (Nat.le_of_ble_eq_true rfl)) d_Mo_write_117 ⟨Nat.zero_le _, Nat.zero_le _⟩) hP hD hS hA [0, 1, 2, 4] [3] rfl rfl (by decide) (by decide) (fun H locs hP hD hS => ?_)
                        have hP : va_P (dC, dI) vwCl [(m0, .inr (5, [.int (nI 0), .ref mu, .ref mz, .ref mb, .ref mr])), (mu, .inl (cI, 510, .inl (nf U))), (mz, .inl (cI, 2, .inl (nf Z))), (mb, .inl (cI, 1024, .inl (nf B))), (mr, .inl (cI, 11, .inl (nf (tdN (rv U r) (Z r) t b))))] H := hP.sub [1, 2, 3, 0, 4] rfl
                        have hD : va_D A [(m0, .inr (5, [.int (nI 0), .ref mu, .ref mz, .ref mb, .ref mr])), (mu, .inl (cI, 510, .inl (nf U))), (mz, .inl (cI, 2, .inl (nf Z))), (mb, .inl (cI, 1024, .inl (nf B))), (mr, .inl (cI, 11, .inl (nf (tdN (rv U r) (Z r) t b))))] := hD.sub [1, 2, 3, 0, 4] (by decide) rfl
                        refine lv_iconst (v := nI 0) hx hb d_Mo_write_120 (by decide) ?_
                        refine lv_istore (lv' := [(6, .int (nI 0)), (5, .int (nI (pnN (Z r)))), (4, .int (nI (Z r))), (0, .ref m0), (1, .int (nI r)), (2, .int (nI q)), (3, .int (nI t))]) hx hb d_Mo_write_121 hl (by decide) rfl (fun ls hl => ?_)
                        have lp123 : ∀ (k : Nat) (i : Nat) (H : Heap) (locs : List Loc) (ls : Array Slot), (i + k = 32 * (pnN (Z r)) + 32) → va_P (dC, dI) vwCl [(m0, .inr (5, [.int (nI 0), .ref mu, .ref mz, .ref mb, .ref mr])), (mu, .inl (cI, 510, .inl (nf U))), (mz, .inl (cI, 2, .inl (nf Z))), (mb, .inl (cI, 1024, .inl (nf (stN B (fun _ => 0) (32 * q) i)))), (mr, .inl (cI, 11, .inl (nf (tdN (rv U r) (Z r) t b))))] H → va_D A [(m0, .inr (5, [.int (nI 0), .ref mu, .ref mz, .ref mb, .ref mr])), (mu, .inl (cI, 510, .inl (nf U))), (mz, .inl (cI, 2, .inl (nf Z))), (mb, .inl (cI, 1024, .inl (nf (stN B (fun _ => 0) (32 * q) i)))), (mr, .inl (cI, 11, .inl (nf (tdN (rv U r) (Z r) t b))))] → va_S A s.heap H locs → lv_has ls 12 [(0, .ref m0), (1, .int (nI r)), (2, .int (nI q)), (3, .int (nI t)), (4, .int (nI (Z r))), (5, .int (nI (pnN (Z r)))), (6, .int (nI i))] → W p l e ({ frames := 3, cells := 0, slots := 0, locals := 71 } : Room) s m ([.ref m0, .int (nI r), .int (nI q), .int (nI t)] : List Value).toArray below meth c H locs 0 0 Q (F0 m 123 ls []) := by
                          intro k
                          induction k with
                          | zero =>
                            intro i H locs ls hi hP hD hS hl
                            refine lv_iload hx hb d_Mo_write_123 (lv_at hl 6 rfl) ?_
                            refine lv_bipush (v := nI 32) hx hb d_Mo_write_125 (by decide) ?_
                            refine lv_iload hx hb d_Mo_write_127 (lv_at hl 5 rfl) ?_
                            refine lv_imul hx hb d_Mo_write_129 ?_
                            refine mk_ti (y := nI (32 * (pnN (Z r)))) (pk_mul 32 (pnN (Z r))) ?_
                            refine lv_bipush (v := nI 32) hx hb d_Mo_write_130 (by decide) ?_
                            refine lv_iadd hx hb d_Mo_write_132 ?_
                            refine mk_ti (y := nI (32 * (pnN (Z r)) + 32)) (nI_add (32 * (pnN (Z r))) 32) ?_
                            refine lv_icmp_ge (tgt := 155) hx hb d_Mo_write_133 (by decide) (fun c_13 => ?_) (fun c_13 => ?_)
                            · skip
                              rw [nI_leI (by omega) (by omega)] at c_13
                              refine lv_bipush (v := nI 32) hx hb d_Mo_write_155 (by decide) ?_
                              refine lv_iload_n hx hb d_Mo_write_157 rfl (lv_at hl 2 rfl) ?_
                              refine lv_iload hx hb d_Mo_write_158 (lv_at hl 5 rfl) ?_
                              refine lv_iadd hx hb d_Mo_write_160 ?_
                              refine mk_ti (y := nI (q + pnN (Z r))) (nI_add q (pnN (Z r))) ?_
                              refine lv_imul hx hb d_Mo_write_161 ?_
                              refine mk_ti (y := nI (32 * (q + pnN (Z r)))) (pk_mul 32 (q + pnN (Z r))) ?_
                              refine lv_istore (lv' := [(6, .int (nI (32 * (q + pnN (Z r))))), (0, .ref m0), (1, .int (nI r)), (2, .int (nI q)), (3, .int (nI t)), (4, .int (nI (Z r))), (5, .int (nI (pnN (Z r))))]) hx hb d_Mo_write_162 hl (by decide) rfl (fun ls hl => ?_)
                              refine lv_iconst (v := nI 0) hx hb d_Mo_write_164 (by decide) ?_
                              refine lv_istore (lv' := [(7, .int (nI 0)), (6, .int (nI (32 * (q + pnN (Z r))))), (0, .ref m0), (1, .int (nI r)), (2, .int (nI q)), (3, .int (nI t)), (4, .int (nI (Z r))), (5, .int (nI (pnN (Z r))))]) hx hb d_Mo_write_165 hl (by decide) rfl (fun ls hl => ?_)
                              have lp167 : ∀ (k2 : Nat) (i2 : Nat) (H : Heap) (locs : List Loc) (ls : Array Slot), (i2 + k2 = 11) → va_P (dC, dI) vwCl [(m0, .inr (5, [.int (nI 0), .ref mu, .ref mz, .ref mb, .ref mr])), (mu, .inl (cI, 510, .inl (nf U))), (mz, .inl (cI, 2, .inl (nf Z))), (mb, .inl (cI, 1024, .inl (nf (stN (stN B (fun _ => 0) (32 * q) (32 * (pnN (Z r)) + 32)) (tdN (rv U r) (Z r) t b) (32 * (q + pnN (Z r))) i2)))), (mr, .inl (cI, 11, .inl (nf (tdN (rv U r) (Z r) t b))))] H → va_D A [(m0, .inr (5, [.int (nI 0), .ref mu, .ref mz, .ref mb, .ref mr])), (mu, .inl (cI, 510, .inl (nf U))), (mz, .inl (cI, 2, .inl (nf Z))), (mb, .inl (cI, 1024, .inl (nf (stN (stN B (fun _ => 0) (32 * q) (32 * (pnN (Z r)) + 32)) (tdN (rv U r) (Z r) t b) (32 * (q + pnN (Z r))) i2)))), (mr, .inl (cI, 11, .inl (nf (tdN (rv U r) (Z r) t b))))] → va_S A s.heap H locs → lv_has ls 12 [(0, .ref m0), (1, .int (nI r)), (2, .int (nI q)), (3, .int (nI t)), (4, .int (nI (Z r))), (5, .int (nI (pnN (Z r)))), (6, .int (nI (32 * (q + pnN (Z r))))), (7, .int (nI i2))] → W p l e ({ frames := 3, cells := 0, slots := 0, locals := 71 } : Room) s m ([.ref m0, .int (nI r), .int (nI q), .int (nI t)] : List Value).toArray below meth c H locs 0 0 Q (F0 m 167 ls []) := by
                                intro k2
                                induction k2 with
                                | zero =>
                                  intro i2 H locs ls hi2 hP hD hS hl
                                  refine lv_iload hx hb d_Mo_write_167 (lv_at hl 7 rfl) ?_
                                  refine lv_bipush (v := nI 11) hx hb d_Mo_write_169 (by decide) ?_
                                  refine lv_icmp_ge (tgt := 197) hx hb d_Mo_write_171 (by decide) (fun c_14 => ?_) (fun c_14 => ?_)
                                  · skip
                                    rw [nI_leI (by omega) (by omega)] at c_14
                                    refine lv_iconst (v := nI 1) hx hb d_Mo_write_197 (by decide) ?_
                                    refine lv_istore (lv' := [(7, .int (nI 1)), (0, .ref m0), (1, .int (nI r)), (2, .int (nI q)), (3, .int (nI t)), (4, .int (nI (Z r))), (5, .int (nI (pnN (Z r)))), (6, .int (nI (32 * (q + pnN (Z r)))))]) hx hb d_Mo_write_198 hl (by decide) rfl (fun ls hl => ?_)
                                    have lp200 : ∀ (k3 : Nat) (io : Nat) (H : Heap) (locs : List Loc) (ls : Array Slot), (io + k3 = pnN (Z r)) → va_P (dC, dI) vwCl [(m0, .inr (5, [.int (nI 0), .ref mu, .ref mz, .ref mb, .ref mr])), (mu, .inl (cI, 510, .inl (nf U))), (mz, .inl (cI, 2, .inl (nf Z))), (mb, .inl (cI, 1024, .inl (nf (mpB (rv U r) (Z r) (suN (stN (stN B (fun _ => 0) (32 * q) (32 * (pnN (Z r)) + 32)) (tdN (rv U r) (Z r) t b) (32 * (q + pnN (Z r))) 11) (32 * (q + pnN (Z r))) 11) (32 * (q + pnN (Z r))) (pnN (Z r)) (stN (stN B (fun _ => 0) (32 * q) (32 * (pnN (Z r)) + 32)) (tdN (rv U r) (Z r) t b) (32 * (q + pnN (Z r))) 11) io)))), (mr, .inl (cI, 11, .inl (nf (tdN (rv U r) (Z r) t b))))] H → va_D A [(m0, .inr (5, [.int (nI 0), .ref mu, .ref mz, .ref mb, .ref mr])), (mu, .inl (cI, 510, .inl (nf U))), (mz, .inl (cI, 2, .inl (nf Z))), (mb, .inl (cI, 1024, .inl (nf (mpB (rv U r) (Z r) (suN (stN (stN B (fun _ => 0) (32 * q) (32 * (pnN (Z r)) + 32)) (tdN (rv U r) (Z r) t b) (32 * (q + pnN (Z r))) 11) (32 * (q + pnN (Z r))) 11) (32 * (q + pnN (Z r))) (pnN (Z r)) (stN (stN B (fun _ => 0) (32 * q) (32 * (pnN (Z r)) + 32)) (tdN (rv U r) (Z r) t b) (32 * (q + pnN (Z r))) 11) io)))), (mr, .inl (cI, 11, .inl (nf (tdN (rv U r) (Z r) t b))))] → va_S A s.heap H locs → lv_has ls 12 [(0, .ref m0), (1, .int (nI r)), (2, .int (nI q)), (3, .int (nI t)), (4, .int (nI (Z r))), (5, .int (nI (pnN (Z r)))), (6, .int (nI (32 * (q + pnN (Z r))))), (7, .int (nI (io + 1)))] → W p l e ({ frames := 3, cells := 0, slots := 0, locals := 71 } : Room) s m ([.ref m0, .int (nI r), .int (nI q), .int (nI t)] : List Value).toArray below meth c H locs 0 0 Q (F0 m 200 ls []) := by
                                      intro k3
                                      induction k3 with
                                      | zero =>
                                        intro io H locs ls hi3 hP hD hS hl
                                        refine lv_iload hx hb d_Mo_write_200 (lv_at hl 7 rfl) ?_
                                        refine lv_iload hx hb d_Mo_write_202 (lv_at hl 5 rfl) ?_
                                        refine lv_icmp_gt (tgt := 374) hx hb d_Mo_write_204 (by decide) (fun c_15 => ?_) (fun c_15 => ?_)
                                        · skip
                                          rw [nI_ltI (by omega) (by omega)] at c_15
                                          refine lv_iload hx hb d_Mo_write_374 (lv_at hl 5 rfl) ?_
                                          refine lv_iconst (v := nI 1) hx hb d_Mo_write_376 (by decide) ?_
                                          refine lv_iadd hx hb d_Mo_write_377 ?_
                                          refine mk_ti (y := nI (pnN (Z r) + 1)) (nI_add (pnN (Z r)) 1) ?_
                                          have hw9 : ([(m0, .inr (5, [.int (nI 0), .ref mu, .ref mz, .ref mb, .ref mr])), (mu, .inl (cI, 510, .inl (nf U))), (mz, .inl (cI, 2, .inl (nf Z))), (mb, .inl (cI, 1024, .inl (nf (mpB (rv U r) (Z r) (suN (stN (stN B (fun _ => 0) (32 * q) (32 * (pnN (Z r)) + 32)) (tdN (rv U r) (Z r) t b) (32 * (q + pnN (Z r))) 11) (32 * (q + pnN (Z r))) 11) (32 * (q + pnN (Z r))) (pnN (Z r)) (stN (stN B (fun _ => 0) (32 * q) (32 * (pnN (Z r)) + 32)) (tdN (rv U r) (Z r) t b) (32 * (q + pnN (Z r))) 11) io)))), (mr, .inl (cI, 11, .inl (nf (tdN (rv U r) (Z r) t b))))] : va_W) = [(m0, .inr (5, [.int (nI 0), .ref mu, .ref mz, .ref mb, .ref mr])), (mu, .inl (cI, 510, .inl (nf U))), (mz, .inl (cI, 2, .inl (nf Z))), (mb, .inl (cI, 1024, .inl (nf (mpB (rv U r) (Z r) (suN (stN (stN B (fun _ => 0) (32 * q) (32 * (pnN (Z r)) + 32)) (tdN (rv U r) (Z r) t b) (32 * (q + pnN (Z r))) 11) (32 * (q + pnN (Z r))) 11) (32 * (q + pnN (Z r))) (pnN (Z r)) (stN (stN B (fun _ => 0) (32 * q) (32 * (pnN (Z r)) + 32)) (tdN (rv U r) (Z r) t b) (32 * (q + pnN (Z r))) 11) (pnN (Z r)))))), (mr, .inl (cI, 11, .inl (nf (tdN (rv U r) (Z r) t b))))] := by rw [show io = pnN (Z r) by omega]
                                          rw [hw9] at hP hD
                                          exact hret _ _ _ _ d_Mo_write_378 hP hD hS
                                        · skip
                                          rw [nI_ltI (by omega) (by omega)] at c_15
                                          first | omega | contradiction
                                      | succ k3 ih200 =>
                                        intro io H locs ls hi3 hP hD hS hl
                                        have hsu : suN (mpB (rv U r) (Z r) (suN (stN (stN B (fun _ => 0) (32 * q) (32 * (pnN (Z r)) + 32)) (tdN (rv U r) (Z r) t b) (32 * (q + pnN (Z r))) 11) (32 * (q + pnN (Z r))) 11) (32 * (q + pnN (Z r))) (pnN (Z r)) (stN (stN B (fun _ => 0) (32 * q) (32 * (pnN (Z r)) + 32)) (tdN (rv U r) (Z r) t b) (32 * (q + pnN (Z r))) 11) io) (32 * (q + pnN (Z r))) 11 = suN (stN (stN B (fun _ => 0) (32 * q) (32 * (pnN (Z r)) + 32)) (tdN (rv U r) (Z r) t b) (32 * (q + pnN (Z r))) 11) (32 * (q + pnN (Z r))) 11 := suN_congr (fun j hj => mpB_out (by omega) io (by omega))
                                        have hM : ∀ j, (mpB (rv U r) (Z r) (suN (stN (stN B (fun _ => 0) (32 * q) (32 * (pnN (Z r)) + 32)) (tdN (rv U r) (Z r) t b) (32 * (q + pnN (Z r))) 11) (32 * (q + pnN (Z r))) 11) (32 * (q + pnN (Z r))) (pnN (Z r)) (stN (stN B (fun _ => 0) (32 * q) (32 * (pnN (Z r)) + 32)) (tdN (rv U r) (Z r) t b) (32 * (q + pnN (Z r))) 11) io) j < 65536 := mpB_lt (fun j => rv_lt hU j) hB2 hs9 io (by omega)
                                        refine lv_iload hx hb d_Mo_write_200 (lv_at hl 7 rfl) ?_
                                        refine lv_iload hx hb d_Mo_write_202 (lv_at hl 5 rfl) ?_
                                        refine lv_icmp_gt (tgt := 374) hx hb d_Mo_write_204 (by decide) (fun c_16 => ?_) (fun c_16 => ?_)
                                        · skip
                                          rw [nI_ltI (by omega) (by omega)] at c_16
                                          first | omega | contradiction
                                        · skip
                                          rw [nI_ltI (by omega) (by omega)] at c_16
                                          refine lv_iload hx hb d_Mo_write_207 (lv_at hl 6 rfl) ?_
                                          refine lv_bipush (v := nI 32) hx hb d_Mo_write_209 (by decide) ?_
                                          refine lv_iload hx hb d_Mo_write_211 (lv_at hl 7 rfl) ?_
                                          refine lv_imul hx hb d_Mo_write_213 ?_
                                          refine mk_ti (y := nI (32 * (io + 1))) (pk_mul 32 (io + 1)) ?_
                                          refine lv_isub hx hb d_Mo_write_214 ?_
                                          refine mk_ti (y := nI (32 * (q + pnN (Z r)) - (32 * (io + 1)))) (pk_sub (by omega)) ?_
                                          refine lv_istore (lv' := [(8, .int (nI (32 * (q + pnN (Z r)) - (32 * (io + 1))))), (0, .ref m0), (1, .int (nI r)), (2, .int (nI q)), (3, .int (nI t)), (4, .int (nI (Z r))), (5, .int (nI (pnN (Z r)))), (6, .int (nI (32 * (q + pnN (Z r))))), (7, .int (nI (io + 1)))]) hx hb d_Mo_write_215 hl (by decide) rfl (fun ls hl => ?_)
                                          refine lv_iconst (v := nI 0) hx hb d_Mo_write_217 (by decide) ?_
                                          refine lv_istore (lv' := [(9, .int (nI 0)), (8, .int (nI (32 * (q + pnN (Z r)) - (32 * (io + 1))))), (0, .ref m0), (1, .int (nI r)), (2, .int (nI q)), (3, .int (nI t)), (4, .int (nI (Z r))), (5, .int (nI (pnN (Z r)))), (6, .int (nI (32 * (q + pnN (Z r))))), (7, .int (nI (io + 1)))]) hx hb d_Mo_write_218 hl (by decide) rfl (fun ls hl => ?_)
                                          have lp220 : ∀ (k4 : Nat) (i4 : Nat) (H : Heap) (locs : List Loc) (ls : Array Slot), (i4 + k4 = 14) → va_P (dC, dI) vwCl [(m0, .inr (5, [.int (nI 0), .ref mu, .ref mz, .ref mb, .ref mr])), (mu, .inl (cI, 510, .inl (nf U))), (mz, .inl (cI, 2, .inl (nf Z))), (mb, .inl (cI, 1024, .inl (nf (stN (mpB (rv U r) (Z r) (suN (stN (stN B (fun _ => 0) (32 * q) (32 * (pnN (Z r)) + 32)) (tdN (rv U r) (Z r) t b) (32 * (q + pnN (Z r))) 11) (32 * (q + pnN (Z r))) 11) (32 * (q + pnN (Z r))) (pnN (Z r)) (stN (stN B (fun _ => 0) (32 * q) (32 * (pnN (Z r)) + 32)) (tdN (rv U r) (Z r) t b) (32 * (q + pnN (Z r))) 11) io) (fun b9 => duN b9 (io + 1) (if io + 1 = pnN (Z r) then 1 else 0) (suN (stN (stN B (fun _ => 0) (32 * q) (32 * (pnN (Z r)) + 32)) (tdN (rv U r) (Z r) t b) (32 * (q + pnN (Z r))) 11) (32 * (q + pnN (Z r))) 11)) (32 * (q + pnN (Z r)) - (32 * (io + 1))) i4)))), (mr, .inl (cI, 11, .inl (nf (tdN (rv U r) (Z r) t b))))] H → va_D A [(m0, .inr (5, [.int (nI 0), .ref mu, .ref mz, .ref mb, .ref mr])), (mu, .inl (cI, 510, .inl (nf U))), (mz, .inl (cI, 2, .inl (nf Z))), (mb, .inl (cI, 1024, .inl (nf (stN (mpB (rv U r) (Z r) (suN (stN (stN B (fun _ => 0) (32 * q) (32 * (pnN (Z r)) + 32)) (tdN (rv U r) (Z r) t b) (32 * (q + pnN (Z r))) 11) (32 * (q + pnN (Z r))) 11) (32 * (q + pnN (Z r))) (pnN (Z r)) (stN (stN B (fun _ => 0) (32 * q) (32 * (pnN (Z r)) + 32)) (tdN (rv U r) (Z r) t b) (32 * (q + pnN (Z r))) 11) io) (fun b9 => duN b9 (io + 1) (if io + 1 = pnN (Z r) then 1 else 0) (suN (stN (stN B (fun _ => 0) (32 * q) (32 * (pnN (Z r)) + 32)) (tdN (rv U r) (Z r) t b) (32 * (q + pnN (Z r))) 11) (32 * (q + pnN (Z r))) 11)) (32 * (q + pnN (Z r)) - (32 * (io + 1))) i4)))), (mr, .inl (cI, 11, .inl (nf (tdN (rv U r) (Z r) t b))))] → va_S A s.heap H locs → lv_has ls 12 [(0, .ref m0), (1, .int (nI r)), (2, .int (nI q)), (3, .int (nI t)), (4, .int (nI (Z r))), (5, .int (nI (pnN (Z r)))), (6, .int (nI (32 * (q + pnN (Z r))))), (7, .int (nI (io + 1))), (8, .int (nI (32 * (q + pnN (Z r)) - (32 * (io + 1))))), (9, .int (nI i4))] → W p l e ({ frames := 3, cells := 0, slots := 0, locals := 71 } : Room) s m ([.ref m0, .int (nI r), .int (nI q), .int (nI t)] : List Value).toArray below meth c H locs 0 0 Q (F0 m 220 ls []) := by
                                            intro k4
                                            induction k4 with
                                            | zero =>
                                              intro i4 H locs ls hi4 hP hD hS hl
                                              refine lv_iload hx hb d_Mo_write_220 (lv_at hl 9 rfl) ?_
                                              refine lv_bipush (v := nI 14) hx hb d_Mo_write_222 (by decide) ?_
                                              refine lv_icmp_ge (tgt := 268) hx hb d_Mo_write_224 (by decide) (fun c_17 => ?_) (fun c_17 => ?_)
                                              · skip
                                                rw [nI_leI (by omega) (by omega)] at c_17
                                                refine lv_iconst (v := nI 0) hx hb d_Mo_write_268 (by decide) ?_
                                                refine lv_istore (lv' := [(9, .int (nI 0)), (0, .ref m0), (1, .int (nI r)), (2, .int (nI q)), (3, .int (nI t)), (4, .int (nI (Z r))), (5, .int (nI (pnN (Z r)))), (6, .int (nI (32 * (q + pnN (Z r))))), (7, .int (nI (io + 1))), (8, .int (nI (32 * (q + pnN (Z r)) - (32 * (io + 1)))))]) hx hb d_Mo_write_269 hl (by decide) rfl (fun ls hl => ?_)
                                                have lp271 : ∀ (k5 : Nat) (i5 : Nat) (H : Heap) (locs : List Loc) (ls : Array Slot), (i5 + k5 = 13) → va_P (dC, dI) vwCl [(m0, .inr (5, [.int (nI 0), .ref mu, .ref mz, .ref mb, .ref mr])), (mu, .inl (cI, 510, .inl (nf U))), (mz, .inl (cI, 2, .inl (nf Z))), (mb, .inl (cI, 1024, .inl (nf (muL (rv U r) (Z r) (io + 1) (32 * (q + pnN (Z r)) - (32 * (io + 1))) (stN (mpB (rv U r) (Z r) (suN (stN (stN B (fun _ => 0) (32 * q) (32 * (pnN (Z r)) + 32)) (tdN (rv U r) (Z r) t b) (32 * (q + pnN (Z r))) 11) (32 * (q + pnN (Z r))) 11) (32 * (q + pnN (Z r))) (pnN (Z r)) (stN (stN B (fun _ => 0) (32 * q) (32 * (pnN (Z r)) + 32)) (tdN (rv U r) (Z r) t b) (32 * (q + pnN (Z r))) 11) io) (fun b9 => duN b9 (io + 1) (if io + 1 = pnN (Z r) then 1 else 0) (suN (stN (stN B (fun _ => 0) (32 * q) (32 * (pnN (Z r)) + 32)) (tdN (rv U r) (Z r) t b) (32 * (q + pnN (Z r))) 11) (32 * (q + pnN (Z r))) 11)) (32 * (q + pnN (Z r)) - (32 * (io + 1))) 14) i5)))), (mr, .inl (cI, 11, .inl (nf (tdN (rv U r) (Z r) t b))))] H → va_D A [(m0, .inr (5, [.int (nI 0), .ref mu, .ref mz, .ref mb, .ref mr])), (mu, .inl (cI, 510, .inl (nf U))), (mz, .inl (cI, 2, .inl (nf Z))), (mb, .inl (cI, 1024, .inl (nf (muL (rv U r) (Z r) (io + 1) (32 * (q + pnN (Z r)) - (32 * (io + 1))) (stN (mpB (rv U r) (Z r) (suN (stN (stN B (fun _ => 0) (32 * q) (32 * (pnN (Z r)) + 32)) (tdN (rv U r) (Z r) t b) (32 * (q + pnN (Z r))) 11) (32 * (q + pnN (Z r))) 11) (32 * (q + pnN (Z r))) (pnN (Z r)) (stN (stN B (fun _ => 0) (32 * q) (32 * (pnN (Z r)) + 32)) (tdN (rv U r) (Z r) t b) (32 * (q + pnN (Z r))) 11) io) (fun b9 => duN b9 (io + 1) (if io + 1 = pnN (Z r) then 1 else 0) (suN (stN (stN B (fun _ => 0) (32 * q) (32 * (pnN (Z r)) + 32)) (tdN (rv U r) (Z r) t b) (32 * (q + pnN (Z r))) 11) (32 * (q + pnN (Z r))) 11)) (32 * (q + pnN (Z r)) - (32 * (io + 1))) 14) i5)))), (mr, .inl (cI, 11, .inl (nf (tdN (rv U r) (Z r) t b))))] → va_S A s.heap H locs → lv_has ls 12 [(0, .ref m0), (1, .int (nI r)), (2, .int (nI q)), (3, .int (nI t)), (4, .int (nI (Z r))), (5, .int (nI (pnN (Z r)))), (6, .int (nI (32 * (q + pnN (Z r))))), (7, .int (nI (io + 1))), (8, .int (nI (32 * (q + pnN (Z r)) - (32 * (io + 1))))), (9, .int (nI i5))] → W p l e ({ frames := 3, cells := 0, slots := 0, locals := 71 } : Room) s m ([.ref m0, .int (nI r), .int (nI q), .int (nI t)] : List Value).toArray below meth c H locs 0 0 Q (F0 m 271 ls []) := by
                                                  intro k5
                                                  induction k5 with
                                                  | zero =>
                                                    intro i5 H locs ls hi5 hP hD hS hl
                                                    refine lv_iload hx hb d_Mo_write_271 (lv_at hl 9 rfl) ?_
                                                    refine lv_bipush (v := nI 13) hx hb d_Mo_write_273 (by decide) ?_
                                                    refine lv_icmp_ge (tgt := 368) hx hb d_Mo_write_275 (by decide) (fun c_18 => ?_) (fun c_18 => ?_)
                                                    · skip
                                                      rw [nI_leI (by omega) (by omega)] at c_18
                                                      refine lv_iinc (v := nI (io + 1 + 1)) (lv' := [(7, .int (nI (io + 1 + 1))), (0, .ref m0), (1, .int (nI r)), (2, .int (nI q)), (3, .int (nI t)), (4, .int (nI (Z r))), (5, .int (nI (pnN (Z r)))), (6, .int (nI (32 * (q + pnN (Z r))))), (8, .int (nI (32 * (q + pnN (Z r)) - (32 * (io + 1))))), (9, .int (nI i5))]) hx hb d_Mo_write_368 hl (k := 7) rfl (mk_i1 (io + 1)) (by decide) rfl (fun ls hl => ?_)
                                                      refine lv_goto (tgt := 200) hx hb d_Mo_write_371 (by decide) ?_
                                                      have hl : lv_has ls 12 [(0, .ref m0), (1, .int (nI r)), (2, .int (nI q)), (3, .int (nI t)), (4, .int (nI (Z r))), (5, .int (nI (pnN (Z r)))), (6, .int (nI (32 * (q + pnN (Z r))))), (7, .int (nI (io + 1 + 1)))] := lv_sub hl [1, 2, 3, 4, 5, 6, 7, 0] rfl
                                                      have hl9 : ([(0, .ref m0), (1, .int (nI r)), (2, .int (nI q)), (3, .int (nI t)), (4, .int (nI (Z r))), (5, .int (nI (pnN (Z r)))), (6, .int (nI (32 * (q + pnN (Z r))))), (7, .int (nI (io + 1 + 1)))] : List (Nat × Value)) = [(0, .ref m0), (1, .int (nI r)), (2, .int (nI q)), (3, .int (nI t)), (4, .int (nI (Z r))), (5, .int (nI (pnN (Z r)))), (6, .int (nI (32 * (q + pnN (Z r))))), (7, .int (nI ((io + 1) + 1)))] := by rfl
                                                      rw [hl9] at hl
                                                      have hw9 : ([(m0, .inr (5, [.int (nI 0), .ref mu, .ref mz, .ref mb, .ref mr])), (mu, .inl (cI, 510, .inl (nf U))), (mz, .inl (cI, 2, .inl (nf Z))), (mb, .inl (cI, 1024, .inl (nf (muL (rv U r) (Z r) (io + 1) (32 * (q + pnN (Z r)) - (32 * (io + 1))) (stN (mpB (rv U r) (Z r) (suN (stN (stN B (fun _ => 0) (32 * q) (32 * (pnN (Z r)) + 32)) (tdN (rv U r) (Z r) t b) (32 * (q + pnN (Z r))) 11) (32 * (q + pnN (Z r))) 11) (32 * (q + pnN (Z r))) (pnN (Z r)) (stN (stN B (fun _ => 0) (32 * q) (32 * (pnN (Z r)) + 32)) (tdN (rv U r) (Z r) t b) (32 * (q + pnN (Z r))) 11) io) (fun b9 => duN b9 (io + 1) (if io + 1 = pnN (Z r) then 1 else 0) (suN (stN (stN B (fun _ => 0) (32 * q) (32 * (pnN (Z r)) + 32)) (tdN (rv U r) (Z r) t b) (32 * (q + pnN (Z r))) 11) (32 * (q + pnN (Z r))) 11)) (32 * (q + pnN (Z r)) - (32 * (io + 1))) 14) i5)))), (mr, .inl (cI, 11, .inl (nf (tdN (rv U r) (Z r) t b))))] : va_W) = [(m0, .inr (5, [.int (nI 0), .ref mu, .ref mz, .ref mb, .ref mr])), (mu, .inl (cI, 510, .inl (nf U))), (mz, .inl (cI, 2, .inl (nf Z))), (mb, .inl (cI, 1024, .inl (nf (mpB (rv U r) (Z r) (suN (stN (stN B (fun _ => 0) (32 * q) (32 * (pnN (Z r)) + 32)) (tdN (rv U r) (Z r) t b) (32 * (q + pnN (Z r))) 11) (32 * (q + pnN (Z r))) 11) (32 * (q + pnN (Z r))) (pnN (Z r)) (stN (stN B (fun _ => 0) (32 * q) (32 * (pnN (Z r)) + 32)) (tdN (rv U r) (Z r) t b) (32 * (q + pnN (Z r))) 11) (io + 1))))), (mr, .inl (cI, 11, .inl (nf (tdN (rv U r) (Z r) t b))))] := by rw [show i5 = 13 by omega]; rfl
                                                      rw [hw9] at hP hD
                                                      exact ih200 (io + 1) _ _ _ (by omega) hP hD hS hl
                                                    · skip
                                                      rw [nI_leI (by omega) (by omega)] at c_18
                                                      first | omega | contradiction
                                                  | succ k5 ih271 =>
                                                    intro i5 H locs ls hi5 hP hD hS hl
                                                    refine lv_iload hx hb d_Mo_write_271 (lv_at hl 9 rfl) ?_
                                                    refine lv_bipush (v := nI 13) hx hb d_Mo_write_273 (by decide) ?_
                                                    refine lv_icmp_ge (tgt := 368) hx hb d_Mo_write_275 (by decide) (fun c_19 => ?_) (fun c_19 => ?_)
                                                    · skip
                                                      rw [nI_leI (by omega) (by omega)] at c_19
                                                      first | omega | contradiction
                                                    · skip
                                                      rw [nI_leI (by omega) (by omega)] at c_19
                                                      refine lv_bipush (v := nI 13) hx hb d_Mo_write_278 (by decide) ?_
                                                      refine lv_iload hx hb d_Mo_write_280 (lv_at hl 7 rfl) ?_
                                                      refine lv_iconst (v := nI 1) hx hb d_Mo_write_282 (by decide) ?_
                                                      refine lv_isub hx hb d_Mo_write_283 ?_
                                                      refine mk_ti (y := nI (io + 1 - 1)) (pk_sub (by omega)) ?_
                                                      refine lv_imul hx hb d_Mo_write_284 ?_
                                                      refine mk_ti (y := nI (13 * (io + 1 - 1))) (pk_mul 13 (io + 1 - 1)) ?_
                                                      refine lv_iload hx hb d_Mo_write_285 (lv_at hl 9 rfl) ?_
                                                      refine lv_iadd hx hb d_Mo_write_287 ?_
                                                      refine mk_ti (y := nI (13 * (io + 1 - 1) + i5)) (nI_add (13 * (io + 1 - 1)) i5) ?_
                                                      refine lv_istore (lv' := [(10, .int (nI (13 * (io + 1 - 1) + i5))), (0, .ref m0), (1, .int (nI r)), (2, .int (nI q)), (3, .int (nI t)), (4, .int (nI (Z r))), (5, .int (nI (pnN (Z r)))), (6, .int (nI (32 * (q + pnN (Z r))))), (7, .int (nI (io + 1))), (8, .int (nI (32 * (q + pnN (Z r)) - (32 * (io + 1))))), (9, .int (nI i5))]) hx hb d_Mo_write_288 hl (by decide) rfl (fun ls hl => ?_)
                                                      refine lv_iload hx hb d_Mo_write_290 (lv_at hl 0 rfl) ?_
                                                      refine lv_iload hx hb d_Mo_write_292 (lv_at hl 5 rfl) ?_
                                                      refine lv_icmp_ge (tgt := 307) hx hb d_Mo_write_294 (by decide) (fun c_20 => ?_) (fun c_20 => ?_)
                                                      · skip
                                                        rw [nI_leI (by omega) (by omega)] at c_20
                                                        refine lv_iload hx hb d_Mo_write_307 (lv_at hl 0 rfl) ?_
                                                        refine lv_iload hx hb d_Mo_write_309 (lv_at hl 5 rfl) ?_
                                                        refine lv_icmp_ne (tgt := 318) hx hb d_Mo_write_311 (by decide) (fun c_21 => ?_) (fun c_21 => ?_)
                                                        · skip
                                                          rw [nI_eq (by omega) (by omega)] at c_21
                                                          refine lv_ldc (v := nI 65535) hx hb hown (hts _ (List.mem_cons_of_mem _ k_549)) d_Mo_write_318 ?_
                                                          refine lv_istore (lv' := [(11, .int (nI 65535)), (10, .int (nI (13 * (io + 1 - 1) + i5))), (0, .ref m0), (1, .int (nI r)), (2, .int (nI q)), (3, .int (nI t)), (4, .int (nI (Z r))), (5, .int (nI (pnN (Z r)))), (6, .int (nI (32 * (q + pnN (Z r))))), (7, .int (nI (io + 1))), (8, .int (nI (32 * (q + pnN (Z r)) - (32 * (io + 1))))), (9, .int (nI i5))]) hx hb d_Mo_write_320 hl (by decide) rfl (fun ls hl => ?_)
                                                          refine lv_aload_n hx hb d_Mo_write_322 rfl (lv_at hl 2 rfl) ?_
                                                          refine va_get (D := (dC, dI)) (ci := 5) (v := .ref mb) (C := "LongNamesModel") (T := F_Mo) (N := 5) hx hb hts (iw_Mo _) hown hK hP 0 rfl rfl 3 (by decide) (hts _ (List.mem_cons_of_mem _ k_525)) (fun _ h9 => h9) rfl d_Mo_write_323 ?_
                                                          refine lv_iload hx hb d_Mo_write_326 (lv_at hl 10 rfl) ?_
                                                          refine lv_iload hx hb d_Mo_write_328 (lv_at hl 11 rfl) ?_
                                                          refine mk_r1 (W.runS (As := [.int (nI i5)]) (rest := [.int (nI (32 * (q + pnN (Z r)) - (32 * (io + 1)))), .ref mb]) S (c_Mo_place l dC dI cI i5 (by first | assumption | omega)) (gS 1 hts k_618 k_619 k_29 k_620 (by decide +kernel) ⟨Nat.le_of_ble_eq_true rfl, Nat.le_of_ble_eq_true rfl⟩) (mk_sR hP hK hT hS [] rfl) rfl rfl hl.1 rfl (lv_room (Nat.le_of_ble_eq_true rfl)) d_Mo_write_330 ⟨Nat.zero_le _, Nat.zero_le _⟩) ?_
                                                          have b_22 := plN_le (show i5 < 13 by omega)
                                                          refine lv_iadd hx hb d_Mo_write_333 ?_
                                                          refine mk_ti (y := nI (32 * (q + pnN (Z r)) - (32 * (io + 1)) + plN i5)) (nI_add (32 * (q + pnN (Z r)) - (32 * (io + 1))) (plN i5)) ?_
                                                          refine lv_iload hx hb d_Mo_write_334 (lv_at hl 0 rfl) ?_
                                                          refine lv_sipush (v := nI 256) hx hb d_Mo_write_336 (by decide) ?_
                                                          refine lv_irem hx hb d_Mo_write_339 (by decide) ?_
                                                          refine mk_ti (y := nI (65535 % 256)) (pk_rem (by omega) (by decide) (by decide)) ?_
                                                          refine va_iast hx hb hK hP hD hS 3 0 rfl rfl (vp_in_nI (N := 1024) (show 32 * (q + pnN (Z r)) - (32 * (io + 1)) + plN i5 < 1024 by omega) (by decide)) d_Mo_write_340 (fun H locs hP hD hS => ?_)
                                                          rw [nI_clamp (by omega), nf_up] at hP hD
                                                          have hP : va_P (dC, dI) vwCl [(m0, .inr (5, [.int (nI 0), .ref mu, .ref mz, .ref mb, .ref mr])), (mu, .inl (cI, 510, .inl (nf U))), (mz, .inl (cI, 2, .inl (nf Z))), (mb, .inl (cI, 1024, .inl (nf (uN (muL (rv U r) (Z r) (io + 1) (32 * (q + pnN (Z r)) - (32 * (io + 1))) (stN (mpB (rv U r) (Z r) (suN (stN (stN B (fun _ => 0) (32 * q) (32 * (pnN (Z r)) + 32)) (tdN (rv U r) (Z r) t b) (32 * (q + pnN (Z r))) 11) (32 * (q + pnN (Z r))) 11) (32 * (q + pnN (Z r))) (pnN (Z r)) (stN (stN B (fun _ => 0) (32 * q) (32 * (pnN (Z r)) + 32)) (tdN (rv U r) (Z r) t b) (32 * (q + pnN (Z r))) 11) io) (fun b9 => duN b9 (io + 1) (if io + 1 = pnN (Z r) then 1 else 0) (suN (stN (stN B (fun _ => 0) (32 * q) (32 * (pnN (Z r)) + 32)) (tdN (rv U r) (Z r) t b) (32 * (q + pnN (Z r))) 11) (32 * (q + pnN (Z r))) 11)) (32 * (q + pnN (Z r)) - (32 * (io + 1))) 14) i5) (32 * (q + pnN (Z r)) - (32 * (io + 1)) + plN i5) (65535 % 256))))), (mr, .inl (cI, 11, .inl (nf (tdN (rv U r) (Z r) t b))))] H := hP
                                                          have hD : va_D A [(m0, .inr (5, [.int (nI 0), .ref mu, .ref mz, .ref mb, .ref mr])), (mu, .inl (cI, 510, .inl (nf U))), (mz, .inl (cI, 2, .inl (nf Z))), (mb, .inl (cI, 1024, .inl (nf (uN (muL (rv U r) (Z r) (io + 1) (32 * (q + pnN (Z r)) - (32 * (io + 1))) (stN (mpB (rv U r) (Z r) (suN (stN (stN B (fun _ => 0) (32 * q) (32 * (pnN (Z r)) + 32)) (tdN (rv U r) (Z r) t b) (32 * (q + pnN (Z r))) 11) (32 * (q + pnN (Z r))) 11) (32 * (q + pnN (Z r))) (pnN (Z r)) (stN (stN B (fun _ => 0) (32 * q) (32 * (pnN (Z r)) + 32)) (tdN (rv U r) (Z r) t b) (32 * (q + pnN (Z r))) 11) io) (fun b9 => duN b9 (io + 1) (if io + 1 = pnN (Z r) then 1 else 0) (suN (stN (stN B (fun _ => 0) (32 * q) (32 * (pnN (Z r)) + 32)) (tdN (rv U r) (Z r) t b) (32 * (q + pnN (Z r))) 11) (32 * (q + pnN (Z r))) 11)) (32 * (q + pnN (Z r)) - (32 * (io + 1))) 14) i5) (32 * (q + pnN (Z r)) - (32 * (io + 1)) + plN i5) (65535 % 256))))), (mr, .inl (cI, 11, .inl (nf (tdN (rv U r) (Z r) t b))))] := hD
                                                          refine lv_aload_n hx hb d_Mo_write_341 rfl (lv_at hl 2 rfl) ?_
                                                          refine va_get (D := (dC, dI)) (ci := 5) (v := .ref mb) (C := "LongNamesModel") (T := F_Mo) (N := 5) hx hb hts (iw_Mo _) hown hK hP 0 rfl rfl 3 (by decide) (hts _ (List.mem_cons_of_mem _ k_525)) (fun _ h9 => h9) rfl d_Mo_write_342 ?_
                                                          refine lv_iload hx hb d_Mo_write_345 (lv_at hl 10 rfl) ?_
                                                          refine lv_iload hx hb d_Mo_write_347 (lv_at hl 11 rfl) ?_
                                                          refine mk_r1 (W.runS (As := [.int (nI i5)]) (rest := [.int (nI (32 * (q + pnN (Z r)) - (32 * (io + 1)))), .ref mb]) S (c_Mo_place l dC dI cI i5 (by first | assumption | omega)) (gS 1 hts k_618 k_619 k_29 k_620 (by decide +kernel) ⟨Nat.le_of_ble_eq_true rfl, Nat.le_of_ble_eq_true rfl⟩) (mk_sR hP hK hT hS [] rfl) rfl rfl hl.1 rfl (lv_room (Nat.le_of_ble_eq_true rfl)) d_Mo_write_349 ⟨Nat.zero_le _, Nat.zero_le _⟩) ?_
                                                          have b_23 := plN_le (show i5 < 13 by omega)
                                                          refine lv_iadd hx hb d_Mo_write_352 ?_
                                                          refine mk_ti (y := nI (32 * (q + pnN (Z r)) - (32 * (io + 1)) + plN i5)) (nI_add (32 * (q + pnN (Z r)) - (32 * (io + 1))) (plN i5)) ?_
                                                          refine lv_iconst (v := nI 1) hx hb d_Mo_write_353 (by decide) ?_
                                                          refine lv_iadd hx hb d_Mo_write_354 ?_
                                                          refine mk_ti (y := nI (32 * (q + pnN (Z r)) - (32 * (io + 1)) + plN i5 + 1)) (nI_add (32 * (q + pnN (Z r)) - (32 * (io + 1)) + plN i5) 1) ?_
                                                          refine lv_iload hx hb d_Mo_write_355 (lv_at hl 0 rfl) ?_
                                                          refine lv_sipush (v := nI 256) hx hb d_Mo_write_357 (by decide) ?_
                                                          refine lv_idiv hx hb d_Mo_write_360 (by decide) ?_
                                                          refine mk_ti (y := nI (65535 / 256)) (pk_div (by omega) (by decide) (by decide)) ?_
                                                          refine va_iast hx hb hK hP hD hS 3 0 rfl rfl (vp_in_nI (N := 1024) (show 32 * (q + pnN (Z r)) - (32 * (io + 1)) + plN i5 + 1 < 1024 by omega) (by decide)) d_Mo_write_361 (fun H locs hP hD hS => ?_)
                                                          rw [nI_clamp (by omega), nf_up] at hP hD
                                                          have hP : va_P (dC, dI) vwCl [(m0, .inr (5, [.int (nI 0), .ref mu, .ref mz, .ref mb, .ref mr])), (mu, .inl (cI, 510, .inl (nf U))), (mz, .inl (cI, 2, .inl (nf Z))), (mb, .inl (cI, 1024, .inl (nf (uN (uN (muL (rv U r) (Z r) (io + 1) (32 * (q + pnN (Z r)) - (32 * (io + 1))) (stN (mpB (rv U r) (Z r) (suN (stN (stN B (fun _ => 0) (32 * q) (32 * (pnN (Z r)) + 32)) (tdN (rv U r) (Z r) t b) (32 * (q + pnN (Z r))) 11) (32 * (q + pnN (Z r))) 11) (32 * (q + pnN (Z r))) (pnN (Z r)) (stN (stN B (fun _ => 0) (32 * q) (32 * (pnN (Z r)) + 32)) (tdN (rv U r) (Z r) t b) (32 * (q + pnN (Z r))) 11) io) (fun b9 => duN b9 (io + 1) (if io + 1 = pnN (Z r) then 1 else 0) (suN (stN (stN B (fun _ => 0) (32 * q) (32 * (pnN (Z r)) + 32)) (tdN (rv U r) (Z r) t b) (32 * (q + pnN (Z r))) 11) (32 * (q + pnN (Z r))) 11)) (32 * (q + pnN (Z r)) - (32 * (io + 1))) 14) i5) (32 * (q + pnN (Z r)) - (32 * (io + 1)) + plN i5) (65535 % 256)) (32 * (q + pnN (Z r)) - (32 * (io + 1)) + plN i5 + 1) (65535 / 256))))), (mr, .inl (cI, 11, .inl (nf (tdN (rv U r) (Z r) t b))))] H := hP
                                                          have hD : va_D A [(m0, .inr (5, [.int (nI 0), .ref mu, .ref mz, .ref mb, .ref mr])), (mu, .inl (cI, 510, .inl (nf U))), (mz, .inl (cI, 2, .inl (nf Z))), (mb, .inl (cI, 1024, .inl (nf (uN (uN (muL (rv U r) (Z r) (io + 1) (32 * (q + pnN (Z r)) - (32 * (io + 1))) (stN (mpB (rv U r) (Z r) (suN (stN (stN B (fun _ => 0) (32 * q) (32 * (pnN (Z r)) + 32)) (tdN (rv U r) (Z r) t b) (32 * (q + pnN (Z r))) 11) (32 * (q + pnN (Z r))) 11) (32 * (q + pnN (Z r))) (pnN (Z r)) (stN (stN B (fun _ => 0) (32 * q) (32 * (pnN (Z r)) + 32)) (tdN (rv U r) (Z r) t b) (32 * (q + pnN (Z r))) 11) io) (fun b9 => duN b9 (io + 1) (if io + 1 = pnN (Z r) then 1 else 0) (suN (stN (stN B (fun _ => 0) (32 * q) (32 * (pnN (Z r)) + 32)) (tdN (rv U r) (Z r) t b) (32 * (q + pnN (Z r))) 11) (32 * (q + pnN (Z r))) 11)) (32 * (q + pnN (Z r)) - (32 * (io + 1))) 14) i5) (32 * (q + pnN (Z r)) - (32 * (io + 1)) + plN i5) (65535 % 256)) (32 * (q + pnN (Z r)) - (32 * (io + 1)) + plN i5 + 1) (65535 / 256))))), (mr, .inl (cI, 11, .inl (nf (tdN (rv U r) (Z r) t b))))] := hD
                                                          refine lv_iinc (v := nI (i5 + 1)) (lv' := [(9, .int (nI (i5 + 1))), (11, .int (nI 65535)), (10, .int (nI (13 * (io + 1 - 1) + i5))), (0, .ref m0), (1, .int (nI r)), (2, .int (nI q)), (3, .int (nI t)), (4, .int (nI (Z r))), (5, .int (nI (pnN (Z r)))), (6, .int (nI (32 * (q + pnN (Z r))))), (7, .int (nI (io + 1))), (8, .int (nI (32 * (q + pnN (Z r)) - (32 * (io + 1)))))]) hx hb d_Mo_write_362 hl (k := 11) rfl (mk_i1 i5) (by decide) rfl (fun ls hl => ?_)
                                                          refine lv_goto (tgt := 271) hx hb d_Mo_write_365 (by decide) ?_
                                                          have hl : lv_has ls 12 [(0, .ref m0), (1, .int (nI r)), (2, .int (nI q)), (3, .int (nI t)), (4, .int (nI (Z r))), (5, .int (nI (pnN (Z r)))), (6, .int (nI (32 * (q + pnN (Z r))))), (7, .int (nI (io + 1))), (8, .int (nI (32 * (q + pnN (Z r)) - (32 * (io + 1))))), (9, .int (nI (i5 + 1)))] := lv_sub hl [3, 4, 5, 6, 7, 8, 9, 10, 11, 0] rfl
                                                          have hw9 : ([(m0, .inr (5, [.int (nI 0), .ref mu, .ref mz, .ref mb, .ref mr])), (mu, .inl (cI, 510, .inl (nf U))), (mz, .inl (cI, 2, .inl (nf Z))), (mb, .inl (cI, 1024, .inl (nf (uN (uN (muL (rv U r) (Z r) (io + 1) (32 * (q + pnN (Z r)) - (32 * (io + 1))) (stN (mpB (rv U r) (Z r) (suN (stN (stN B (fun _ => 0) (32 * q) (32 * (pnN (Z r)) + 32)) (tdN (rv U r) (Z r) t b) (32 * (q + pnN (Z r))) 11) (32 * (q + pnN (Z r))) 11) (32 * (q + pnN (Z r))) (pnN (Z r)) (stN (stN B (fun _ => 0) (32 * q) (32 * (pnN (Z r)) + 32)) (tdN (rv U r) (Z r) t b) (32 * (q + pnN (Z r))) 11) io) (fun b9 => duN b9 (io + 1) (if io + 1 = pnN (Z r) then 1 else 0) (suN (stN (stN B (fun _ => 0) (32 * q) (32 * (pnN (Z r)) + 32)) (tdN (rv U r) (Z r) t b) (32 * (q + pnN (Z r))) 11) (32 * (q + pnN (Z r))) 11)) (32 * (q + pnN (Z r)) - (32 * (io + 1))) 14) i5) (32 * (q + pnN (Z r)) - (32 * (io + 1)) + plN i5) (65535 % 256)) (32 * (q + pnN (Z r)) - (32 * (io + 1)) + plN i5 + 1) (65535 / 256))))), (mr, .inl (cI, 11, .inl (nf (tdN (rv U r) (Z r) t b))))] : va_W) = [(m0, .inr (5, [.int (nI 0), .ref mu, .ref mz, .ref mb, .ref mr])), (mu, .inl (cI, 510, .inl (nf U))), (mz, .inl (cI, 2, .inl (nf Z))), (mb, .inl (cI, 1024, .inl (nf (muL (rv U r) (Z r) (io + 1) (32 * (q + pnN (Z r)) - (32 * (io + 1))) (stN (mpB (rv U r) (Z r) (suN (stN (stN B (fun _ => 0) (32 * q) (32 * (pnN (Z r)) + 32)) (tdN (rv U r) (Z r) t b) (32 * (q + pnN (Z r))) 11) (32 * (q + pnN (Z r))) 11) (32 * (q + pnN (Z r))) (pnN (Z r)) (stN (stN B (fun _ => 0) (32 * q) (32 * (pnN (Z r)) + 32)) (tdN (rv U r) (Z r) t b) (32 * (q + pnN (Z r))) 11) io) (fun b9 => duN b9 (io + 1) (if io + 1 = pnN (Z r) then 1 else 0) (suN (stN (stN B (fun _ => 0) (32 * q) (32 * (pnN (Z r)) + 32)) (tdN (rv U r) (Z r) t b) (32 * (q + pnN (Z r))) 11) (32 * (q + pnN (Z r))) 11)) (32 * (q + pnN (Z r)) - (32 * (io + 1))) 14) (i5 + 1))))), (mr, .inl (cI, 11, .inl (nf (tdN (rv U r) (Z r) t b))))] := by rw [muL]; first | rw [show ufN (rv U r) (Z r) (13 * (io + 1 - 1) + i5) = rv U r (13 * (io + 1 - 1) + i5) from (by unfold ufN; rw [if_pos (by omega)])] | rw [show ufN (rv U r) (Z r) (13 * (io + 1 - 1) + i5) = 0 from (by unfold ufN; rw [if_neg (by omega), if_pos (by omega)])] | rw [show ufN (rv U r) (Z r) (13 * (io + 1 - 1) + i5) = 65535 from (by unfold ufN; rw [if_neg (by omega), if_neg (by omega)])]
                                                          rw [hw9] at hP hD
                                                          exact ih271 (i5 + 1) _ _ _ (by omega) hP hD hS hl
                                                        · skip
                                                          rw [nI_eq (by omega) (by omega)] at c_21
                                                          refine lv_iconst (v := nI 0) hx hb d_Mo_write_314 (by decide) ?_
                                                          refine lv_goto (tgt := 320) hx hb d_Mo_write_315 (by decide) ?_
                                                          refine lv_istore (lv' := [(11, .int (nI 0)), (10, .int (nI (13 * (io + 1 - 1) + i5))), (0, .ref m0), (1, .int (nI r)), (2, .int (nI q)), (3, .int (nI t)), (4, .int (nI (Z r))), (5, .int (nI (pnN (Z r)))), (6, .int (nI (32 * (q + pnN (Z r))))), (7, .int (nI (io + 1))), (8, .int (nI (32 * (q + pnN (Z r)) - (32 * (io + 1))))), (9, .int (nI i5))]) hx hb d_Mo_write_320 hl (by decide) rfl (fun ls hl => ?_)
                                                          refine lv_aload_n hx hb d_Mo_write_322 rfl (lv_at hl 2 rfl) ?_
                                                          refine va_get (D := (dC, dI)) (ci := 5) (v := .ref mb) (C := "LongNamesModel") (T := F_Mo) (N := 5) hx hb hts (iw_Mo _) hown hK hP 0 rfl rfl 3 (by decide) (hts _ (List.mem_cons_of_mem _ k_525)) (fun _ h9 => h9) rfl d_Mo_write_323 ?_
                                                          refine lv_iload hx hb d_Mo_write_326 (lv_at hl 10 rfl) ?_
                                                          refine lv_iload hx hb d_Mo_write_328 (lv_at hl 11 rfl) ?_
                                                          refine mk_r1 (W.runS (As := [.int (nI i5)]) (rest := [.int (nI (32 * (q + pnN (Z r)) - (32 * (io + 1)))), .ref mb]) S (c_Mo_place l dC dI cI i5 (by first | assumption | omega)) (gS 1 hts k_618 k_619 k_29 k_620 (by decide +kernel) ⟨Nat.le_of_ble_eq_true rfl, Nat.le_of_ble_eq_true rfl⟩) (mk_sR hP hK hT hS [] rfl) rfl rfl hl.1 rfl (lv_room (Nat.le_of_ble_eq_true rfl)) d_Mo_write_330 ⟨Nat.zero_le _, Nat.zero_le _⟩) ?_
                                                          have b_24 := plN_le (show i5 < 13 by omega)
                                                          refine lv_iadd hx hb d_Mo_write_333 ?_
                                                          refine mk_ti (y := nI (32 * (q + pnN (Z r)) - (32 * (io + 1)) + plN i5)) (nI_add (32 * (q + pnN (Z r)) - (32 * (io + 1))) (plN i5)) ?_
                                                          refine lv_iload hx hb d_Mo_write_334 (lv_at hl 0 rfl) ?_
                                                          refine lv_sipush (v := nI 256) hx hb d_Mo_write_336 (by decide) ?_
                                                          refine lv_irem hx hb d_Mo_write_339 (by decide) ?_
                                                          refine mk_ti (y := nI (0 % 256)) (pk_rem (by omega) (by decide) (by decide)) ?_
                                                          refine va_iast hx hb hK hP hD hS 3 0 rfl rfl (vp_in_nI (N := 1024) (show 32 * (q + pnN (Z r)) - (32 * (io + 1)) + plN i5 < 1024 by omega) (by decide)) d_Mo_write_340 (fun H locs hP hD hS => ?_)
                                                          rw [nI_clamp (by omega), nf_up] at hP hD
                                                          have hP : va_P (dC, dI) vwCl [(m0, .inr (5, [.int (nI 0), .ref mu, .ref mz, .ref mb, .ref mr])), (mu, .inl (cI, 510, .inl (nf U))), (mz, .inl (cI, 2, .inl (nf Z))), (mb, .inl (cI, 1024, .inl (nf (uN (muL (rv U r) (Z r) (io + 1) (32 * (q + pnN (Z r)) - (32 * (io + 1))) (stN (mpB (rv U r) (Z r) (suN (stN (stN B (fun _ => 0) (32 * q) (32 * (pnN (Z r)) + 32)) (tdN (rv U r) (Z r) t b) (32 * (q + pnN (Z r))) 11) (32 * (q + pnN (Z r))) 11) (32 * (q + pnN (Z r))) (pnN (Z r)) (stN (stN B (fun _ => 0) (32 * q) (32 * (pnN (Z r)) + 32)) (tdN (rv U r) (Z r) t b) (32 * (q + pnN (Z r))) 11) io) (fun b9 => duN b9 (io + 1) (if io + 1 = pnN (Z r) then 1 else 0) (suN (stN (stN B (fun _ => 0) (32 * q) (32 * (pnN (Z r)) + 32)) (tdN (rv U r) (Z r) t b) (32 * (q + pnN (Z r))) 11) (32 * (q + pnN (Z r))) 11)) (32 * (q + pnN (Z r)) - (32 * (io + 1))) 14) i5) (32 * (q + pnN (Z r)) - (32 * (io + 1)) + plN i5) (0 % 256))))), (mr, .inl (cI, 11, .inl (nf (tdN (rv U r) (Z r) t b))))] H := hP
                                                          have hD : va_D A [(m0, .inr (5, [.int (nI 0), .ref mu, .ref mz, .ref mb, .ref mr])), (mu, .inl (cI, 510, .inl (nf U))), (mz, .inl (cI, 2, .inl (nf Z))), (mb, .inl (cI, 1024, .inl (nf (uN (muL (rv U r) (Z r) (io + 1) (32 * (q + pnN (Z r)) - (32 * (io + 1))) (stN (mpB (rv U r) (Z r) (suN (stN (stN B (fun _ => 0) (32 * q) (32 * (pnN (Z r)) + 32)) (tdN (rv U r) (Z r) t b) (32 * (q + pnN (Z r))) 11) (32 * (q + pnN (Z r))) 11) (32 * (q + pnN (Z r))) (pnN (Z r)) (stN (stN B (fun _ => 0) (32 * q) (32 * (pnN (Z r)) + 32)) (tdN (rv U r) (Z r) t b) (32 * (q + pnN (Z r))) 11) io) (fun b9 => duN b9 (io + 1) (if io + 1 = pnN (Z r) then 1 else 0) (suN (stN (stN B (fun _ => 0) (32 * q) (32 * (pnN (Z r)) + 32)) (tdN (rv U r) (Z r) t b) (32 * (q + pnN (Z r))) 11) (32 * (q + pnN (Z r))) 11)) (32 * (q + pnN (Z r)) - (32 * (io + 1))) 14) i5) (32 * (q + pnN (Z r)) - (32 * (io + 1)) + plN i5) (0 % 256))))), (mr, .inl (cI, 11, .inl (nf (tdN (rv U r) (Z r) t b))))] := hD
                                                          refine lv_aload_n hx hb d_Mo_write_341 rfl (lv_at hl 2 rfl) ?_
                                                          refine va_get (D := (dC, dI)) (ci := 5) (v := .ref mb) (C := "LongNamesModel") (T := F_Mo) (N := 5) hx hb hts (iw_Mo _) hown hK hP 0 rfl rfl 3 (by decide) (hts _ (List.mem_cons_of_mem _ k_525)) (fun _ h9 => h9) rfl d_Mo_write_342 ?_
                                                          refine lv_iload hx hb d_Mo_write_345 (lv_at hl 10 rfl) ?_
                                                          refine lv_iload hx hb d_Mo_write_347 (lv_at hl 11 rfl) ?_
                                                          refine mk_r1 (W.runS (As := [.int (nI i5)]) (rest := [.int (nI (32 * (q + pnN (Z r)) - (32 * (io + 1)))), .ref mb]) S (c_Mo_place l dC dI cI i5 (by first | assumption | omega)) (gS 1 hts k_618 k_619 k_29 k_620 (by decide +kernel) ⟨Nat.le_of_ble_eq_true rfl, Nat.le_of_ble_eq_true rfl⟩) (mk_sR hP hK hT hS [] rfl) rfl rfl hl.1 rfl (lv_room (Nat.le_of_ble_eq_true rfl)) d_Mo_write_349 ⟨Nat.zero_le _, Nat.zero_le _⟩) ?_
                                                          have b_25 := plN_le (show i5 < 13 by omega)
                                                          refine lv_iadd hx hb d_Mo_write_352 ?_
                                                          refine mk_ti (y := nI (32 * (q + pnN (Z r)) - (32 * (io + 1)) + plN i5)) (nI_add (32 * (q + pnN (Z r)) - (32 * (io + 1))) (plN i5)) ?_
                                                          refine lv_iconst (v := nI 1) hx hb d_Mo_write_353 (by decide) ?_
                                                          refine lv_iadd hx hb d_Mo_write_354 ?_
                                                          refine mk_ti (y := nI (32 * (q + pnN (Z r)) - (32 * (io + 1)) + plN i5 + 1)) (nI_add (32 * (q + pnN (Z r)) - (32 * (io + 1)) + plN i5) 1) ?_
                                                          refine lv_iload hx hb d_Mo_write_355 (lv_at hl 0 rfl) ?_
                                                          refine lv_sipush (v := nI 256) hx hb d_Mo_write_357 (by decide) ?_
                                                          refine lv_idiv hx hb d_Mo_write_360 (by decide) ?_
                                                          refine mk_ti (y := nI (0 / 256)) (pk_div (by omega) (by decide) (by decide)) ?_
                                                          refine va_iast hx hb hK hP hD hS 3 0 rfl rfl (vp_in_nI (N := 1024) (show 32 * (q + pnN (Z r)) - (32 * (io + 1)) + plN i5 + 1 < 1024 by omega) (by decide)) d_Mo_write_361 (fun H locs hP hD hS => ?_)
                                                          rw [nI_clamp (by omega), nf_up] at hP hD
                                                          have hP : va_P (dC, dI) vwCl [(m0, .inr (5, [.int (nI 0), .ref mu, .ref mz, .ref mb, .ref mr])), (mu, .inl (cI, 510, .inl (nf U))), (mz, .inl (cI, 2, .inl (nf Z))), (mb, .inl (cI, 1024, .inl (nf (uN (uN (muL (rv U r) (Z r) (io + 1) (32 * (q + pnN (Z r)) - (32 * (io + 1))) (stN (mpB (rv U r) (Z r) (suN (stN (stN B (fun _ => 0) (32 * q) (32 * (pnN (Z r)) + 32)) (tdN (rv U r) (Z r) t b) (32 * (q + pnN (Z r))) 11) (32 * (q + pnN (Z r))) 11) (32 * (q + pnN (Z r))) (pnN (Z r)) (stN (stN B (fun _ => 0) (32 * q) (32 * (pnN (Z r)) + 32)) (tdN (rv U r) (Z r) t b) (32 * (q + pnN (Z r))) 11) io) (fun b9 => duN b9 (io + 1) (if io + 1 = pnN (Z r) then 1 else 0) (suN (stN (stN B (fun _ => 0) (32 * q) (32 * (pnN (Z r)) + 32)) (tdN (rv U r) (Z r) t b) (32 * (q + pnN (Z r))) 11) (32 * (q + pnN (Z r))) 11)) (32 * (q + pnN (Z r)) - (32 * (io + 1))) 14) i5) (32 * (q + pnN (Z r)) - (32 * (io + 1)) + plN i5) (0 % 256)) (32 * (q + pnN (Z r)) - (32 * (io + 1)) + plN i5 + 1) (0 / 256))))), (mr, .inl (cI, 11, .inl (nf (tdN (rv U r) (Z r) t b))))] H := hP
                                                          have hD : va_D A [(m0, .inr (5, [.int (nI 0), .ref mu, .ref mz, .ref mb, .ref mr])), (mu, .inl (cI, 510, .inl (nf U))), (mz, .inl (cI, 2, .inl (nf Z))), (mb, .inl (cI, 1024, .inl (nf (uN (uN (muL (rv U r) (Z r) (io + 1) (32 * (q + pnN (Z r)) - (32 * (io + 1))) (stN (mpB (rv U r) (Z r) (suN (stN (stN B (fun _ => 0) (32 * q) (32 * (pnN (Z r)) + 32)) (tdN (rv U r) (Z r) t b) (32 * (q + pnN (Z r))) 11) (32 * (q + pnN (Z r))) 11) (32 * (q + pnN (Z r))) (pnN (Z r)) (stN (stN B (fun _ => 0) (32 * q) (32 * (pnN (Z r)) + 32)) (tdN (rv U r) (Z r) t b) (32 * (q + pnN (Z r))) 11) io) (fun b9 => duN b9 (io + 1) (if io + 1 = pnN (Z r) then 1 else 0) (suN (stN (stN B (fun _ => 0) (32 * q) (32 * (pnN (Z r)) + 32)) (tdN (rv U r) (Z r) t b) (32 * (q + pnN (Z r))) 11) (32 * (q + pnN (Z r))) 11)) (32 * (q + pnN (Z r)) - (32 * (io + 1))) 14) i5) (32 * (q + pnN (Z r)) - (32 * (io + 1)) + plN i5) (0 % 256)) (32 * (q + pnN (Z r)) - (32 * (io + 1)) + plN i5 + 1) (0 / 256))))), (mr, .inl (cI, 11, .inl (nf (tdN (rv U r) (Z r) t b))))] := hD
                                                          refine lv_iinc (v := nI (i5 + 1)) (lv' := [(9, .int (nI (i5 + 1))), (11, .int (nI 0)), (10, .int (nI (13 * (io + 1 - 1) + i5))), (0, .ref m0), (1, .int (nI r)), (2, .int (nI q)), (3, .int (nI t)), (4, .int (nI (Z r))), (5, .int (nI (pnN (Z r)))), (6, .int (nI (32 * (q + pnN (Z r))))), (7, .int (nI (io + 1))), (8, .int (nI (32 * (q + pnN (Z r)) - (32 * (io + 1)))))]) hx hb d_Mo_write_362 hl (k := 11) rfl (mk_i1 i5) (by decide) rfl (fun ls hl => ?_)
                                                          refine lv_goto (tgt := 271) hx hb d_Mo_write_365 (by decide) ?_
                                                          have hl : lv_has ls 12 [(0, .ref m0), (1, .int (nI r)), (2, .int (nI q)), (3, .int (nI t)), (4, .int (nI (Z r))), (5, .int (nI (pnN (Z r)))), (6, .int (nI (32 * (q + pnN (Z r))))), (7, .int (nI (io + 1))), (8, .int (nI (32 * (q + pnN (Z r)) - (32 * (io + 1))))), (9, .int (nI (i5 + 1)))] := lv_sub hl [3, 4, 5, 6, 7, 8, 9, 10, 11, 0] rfl
                                                          have hw9 : ([(m0, .inr (5, [.int (nI 0), .ref mu, .ref mz, .ref mb, .ref mr])), (mu, .inl (cI, 510, .inl (nf U))), (mz, .inl (cI, 2, .inl (nf Z))), (mb, .inl (cI, 1024, .inl (nf (uN (uN (muL (rv U r) (Z r) (io + 1) (32 * (q + pnN (Z r)) - (32 * (io + 1))) (stN (mpB (rv U r) (Z r) (suN (stN (stN B (fun _ => 0) (32 * q) (32 * (pnN (Z r)) + 32)) (tdN (rv U r) (Z r) t b) (32 * (q + pnN (Z r))) 11) (32 * (q + pnN (Z r))) 11) (32 * (q + pnN (Z r))) (pnN (Z r)) (stN (stN B (fun _ => 0) (32 * q) (32 * (pnN (Z r)) + 32)) (tdN (rv U r) (Z r) t b) (32 * (q + pnN (Z r))) 11) io) (fun b9 => duN b9 (io + 1) (if io + 1 = pnN (Z r) then 1 else 0) (suN (stN (stN B (fun _ => 0) (32 * q) (32 * (pnN (Z r)) + 32)) (tdN (rv U r) (Z r) t b) (32 * (q + pnN (Z r))) 11) (32 * (q + pnN (Z r))) 11)) (32 * (q + pnN (Z r)) - (32 * (io + 1))) 14) i5) (32 * (q + pnN (Z r)) - (32 * (io + 1)) + plN i5) (0 % 256)) (32 * (q + pnN (Z r)) - (32 * (io + 1)) + plN i5 + 1) (0 / 256))))), (mr, .inl (cI, 11, .inl (nf (tdN (rv U r) (Z r) t b))))] : va_W) = [(m0, .inr (5, [.int (nI 0), .ref mu, .ref mz, .ref mb, .ref mr])), (mu, .inl (cI, 510, .inl (nf U))), (mz, .inl (cI, 2, .inl (nf Z))), (mb, .inl (cI, 1024, .inl (nf (muL (rv U r) (Z r) (io + 1) (32 * (q + pnN (Z r)) - (32 * (io + 1))) (stN (mpB (rv U r) (Z r) (suN (stN (stN B (fun _ => 0) (32 * q) (32 * (pnN (Z r)) + 32)) (tdN (rv U r) (Z r) t b) (32 * (q + pnN (Z r))) 11) (32 * (q + pnN (Z r))) 11) (32 * (q + pnN (Z r))) (pnN (Z r)) (stN (stN B (fun _ => 0) (32 * q) (32 * (pnN (Z r)) + 32)) (tdN (rv U r) (Z r) t b) (32 * (q + pnN (Z r))) 11) io) (fun b9 => duN b9 (io + 1) (if io + 1 = pnN (Z r) then 1 else 0) (suN (stN (stN B (fun _ => 0) (32 * q) (32 * (pnN (Z r)) + 32)) (tdN (rv U r) (Z r) t b) (32 * (q + pnN (Z r))) 11) (32 * (q + pnN (Z r))) 11)) (32 * (q + pnN (Z r)) - (32 * (io + 1))) 14) (i5 + 1))))), (mr, .inl (cI, 11, .inl (nf (tdN (rv U r) (Z r) t b))))] := by rw [muL]; first | rw [show ufN (rv U r) (Z r) (13 * (io + 1 - 1) + i5) = rv U r (13 * (io + 1 - 1) + i5) from (by unfold ufN; rw [if_pos (by omega)])] | rw [show ufN (rv U r) (Z r) (13 * (io + 1 - 1) + i5) = 0 from (by unfold ufN; rw [if_neg (by omega), if_pos (by omega)])] | rw [show ufN (rv U r) (Z r) (13 * (io + 1 - 1) + i5) = 65535 from (by unfold ufN; rw [if_neg (by omega), if_neg (by omega)])]
                                                          rw [hw9] at hP hD
                                                          exact ih271 (i5 + 1) _ _ _ (by omega) hP hD hS hl
                                                      · skip
                                                        rw [nI_leI (by omega) (by omega)] at c_20
                                                        refine lv_aload_n hx hb d_Mo_write_297 rfl (lv_at hl 1 rfl) ?_
                                                        refine lv_iload_n hx hb d_Mo_write_298 rfl (lv_at hl 2 rfl) ?_
                                                        refine lv_iload hx hb d_Mo_write_299 (lv_at hl 0 rfl) ?_
                                                        refine mk_r1 (W.runV (As := [.int (nI r), .int (nI (13 * (io + 1 - 1) + i5))]) (rest := []) S (c_Mo_at l dC dI cI m0 (nI 0) mu mz mb mr U r (13 * (io + 1 - 1) + i5) (by first | assumption | omega) (by first | assumption | omega)) (gV 2 hts k_562 k_564 k_14 k_29 k_565 (by decide +kernel) ⟨Nat.le_of_ble_eq_true rfl, Nat.le_of_ble_eq_true rfl⟩) (mk_vR hP hK hT hS [0, 1] rfl (q0 := 0) (ci := 5) rfl rfl) rfl rfl hl.1 rfl (lv_room (Nat.le_of_ble_eq_true rfl)) d_Mo_write_301 ⟨Nat.zero_le _, Nat.zero_le _⟩) ?_
                                                        have b_26 := (show rv U r (13 * (io + 1 - 1) + i5) < 65536 from rv_lt (show ∀ j9, U j9 < 65536 by assumption) (13 * (io + 1 - 1) + i5))
                                                        refine lv_goto (tgt := 320) hx hb d_Mo_write_304 (by decide) ?_
                                                        refine lv_istore (lv' := [(11, .int (nI (rv U r (13 * (io + 1 - 1) + i5)))), (10, .int (nI (13 * (io + 1 - 1) + i5))), (0, .ref m0), (1, .int (nI r)), (2, .int (nI q)), (3, .int (nI t)), (4, .int (nI (Z r))), (5, .int (nI (pnN (Z r)))), (6, .int (nI (32 * (q + pnN (Z r))))), (7, .int (nI (io + 1))), (8, .int (nI (32 * (q + pnN (Z r)) - (32 * (io + 1))))), (9, .int (nI i5))]) hx hb d_Mo_write_320 hl (by decide) rfl (fun ls hl => ?_)
                                                        refine lv_aload_n hx hb d_Mo_write_322 rfl (lv_at hl 2 rfl) ?_
                                                        refine va_get (D := (dC, dI)) (ci := 5) (v := .ref mb) (C := "LongNamesModel") (T := F_Mo) (N := 5) hx hb hts (iw_Mo _) hown hK hP 0 rfl rfl 3 (by decide) (hts _ (List.mem_cons_of_mem _ k_525)) (fun _ h9 => h9) rfl d_Mo_write_323 ?_
                                                        refine lv_iload hx hb d_Mo_write_326 (lv_at hl 10 rfl) ?_
                                                        refine lv_iload hx hb d_Mo_write_328 (lv_at hl 11 rfl) ?_
                                                        refine mk_r1 (W.runS (As := [.int (nI i5)]) (rest := [.int (nI (32 * (q + pnN (Z r)) - (32 * (io + 1)))), .ref mb]) S (c_Mo_place l dC dI cI i5 (by first | assumption | omega)) (gS 1 hts k_618 k_619 k_29 k_620 (by decide +kernel) ⟨Nat.le_of_ble_eq_true rfl, Nat.le_of_ble_eq_true rfl⟩) (mk_sR hP hK hT hS [] rfl) rfl rfl hl.1 rfl (lv_room (Nat.le_of_ble_eq_true rfl)) d_Mo_write_330 ⟨Nat.zero_le _, Nat.zero_le _⟩) ?_
                                                        have b_27 := plN_le (show i5 < 13 by omega)
                                                        refine lv_iadd hx hb d_Mo_write_333 ?_
                                                        refine mk_ti (y := nI (32 * (q + pnN (Z r)) - (32 * (io + 1)) + plN i5)) (nI_add (32 * (q + pnN (Z r)) - (32 * (io + 1))) (plN i5)) ?_
                                                        refine lv_iload hx hb d_Mo_write_334 (lv_at hl 0 rfl) ?_
                                                        refine lv_sipush (v := nI 256) hx hb d_Mo_write_336 (by decide) ?_
                                                        refine lv_irem hx hb d_Mo_write_339 (by decide) ?_
                                                        refine mk_ti (y := nI ((rv U r (13 * (io + 1 - 1) + i5)) % 256)) (pk_rem (by omega) (by decide) (by decide)) ?_
                                                        refine va_iast hx hb hK hP hD hS 3 0 rfl rfl (vp_in_nI (N := 1024) (show 32 * (q + pnN (Z r)) - (32 * (io + 1)) + plN i5 < 1024 by omega) (by decide)) d_Mo_write_340 (fun H locs hP hD hS => ?_)
                                                        rw [nI_clamp (by omega), nf_up] at hP hD
                                                        have hP : va_P (dC, dI) vwCl [(m0, .inr (5, [.int (nI 0), .ref mu, .ref mz, .ref mb, .ref mr])), (mu, .inl (cI, 510, .inl (nf U))), (mz, .inl (cI, 2, .inl (nf Z))), (mb, .inl (cI, 1024, .inl (nf (uN (muL (rv U r) (Z r) (io + 1) (32 * (q + pnN (Z r)) - (32 * (io + 1))) (stN (mpB (rv U r) (Z r) (suN (stN (stN B (fun _ => 0) (32 * q) (32 * (pnN (Z r)) + 32)) (tdN (rv U r) (Z r) t b) (32 * (q + pnN (Z r))) 11) (32 * (q + pnN (Z r))) 11) (32 * (q + pnN (Z r))) (pnN (Z r)) (stN (stN B (fun _ => 0) (32 * q) (32 * (pnN (Z r)) + 32)) (tdN (rv U r) (Z r) t b) (32 * (q + pnN (Z r))) 11) io) (fun b9 => duN b9 (io + 1) (if io + 1 = pnN (Z r) then 1 else 0) (suN (stN (stN B (fun _ => 0) (32 * q) (32 * (pnN (Z r)) + 32)) (tdN (rv U r) (Z r) t b) (32 * (q + pnN (Z r))) 11) (32 * (q + pnN (Z r))) 11)) (32 * (q + pnN (Z r)) - (32 * (io + 1))) 14) i5) (32 * (q + pnN (Z r)) - (32 * (io + 1)) + plN i5) ((rv U r (13 * (io + 1 - 1) + i5)) % 256))))), (mr, .inl (cI, 11, .inl (nf (tdN (rv U r) (Z r) t b))))] H := hP
                                                        have hD : va_D A [(m0, .inr (5, [.int (nI 0), .ref mu, .ref mz, .ref mb, .ref mr])), (mu, .inl (cI, 510, .inl (nf U))), (mz, .inl (cI, 2, .inl (nf Z))), (mb, .inl (cI, 1024, .inl (nf (uN (muL (rv U r) (Z r) (io + 1) (32 * (q + pnN (Z r)) - (32 * (io + 1))) (stN (mpB (rv U r) (Z r) (suN (stN (stN B (fun _ => 0) (32 * q) (32 * (pnN (Z r)) + 32)) (tdN (rv U r) (Z r) t b) (32 * (q + pnN (Z r))) 11) (32 * (q + pnN (Z r))) 11) (32 * (q + pnN (Z r))) (pnN (Z r)) (stN (stN B (fun _ => 0) (32 * q) (32 * (pnN (Z r)) + 32)) (tdN (rv U r) (Z r) t b) (32 * (q + pnN (Z r))) 11) io) (fun b9 => duN b9 (io + 1) (if io + 1 = pnN (Z r) then 1 else 0) (suN (stN (stN B (fun _ => 0) (32 * q) (32 * (pnN (Z r)) + 32)) (tdN (rv U r) (Z r) t b) (32 * (q + pnN (Z r))) 11) (32 * (q + pnN (Z r))) 11)) (32 * (q + pnN (Z r)) - (32 * (io + 1))) 14) i5) (32 * (q + pnN (Z r)) - (32 * (io + 1)) + plN i5) ((rv U r (13 * (io + 1 - 1) + i5)) % 256))))), (mr, .inl (cI, 11, .inl (nf (tdN (rv U r) (Z r) t b))))] := hD
                                                        refine lv_aload_n hx hb d_Mo_write_341 rfl (lv_at hl 2 rfl) ?_
                                                        refine va_get (D := (dC, dI)) (ci := 5) (v := .ref mb) (C := "LongNamesModel") (T := F_Mo) (N := 5) hx hb hts (iw_Mo _) hown hK hP 0 rfl rfl 3 (by decide) (hts _ (List.mem_cons_of_mem _ k_525)) (fun _ h9 => h9) rfl d_Mo_write_342 ?_
                                                        refine lv_iload hx hb d_Mo_write_345 (lv_at hl 10 rfl) ?_
                                                        refine lv_iload hx hb d_Mo_write_347 (lv_at hl 11 rfl) ?_
                                                        refine mk_r1 (W.runS (As := [.int (nI i5)]) (rest := [.int (nI (32 * (q + pnN (Z r)) - (32 * (io + 1)))), .ref mb]) S (c_Mo_place l dC dI cI i5 (by first | assumption | omega)) (gS 1 hts k_618 k_619 k_29 k_620 (by decide +kernel) ⟨Nat.le_of_ble_eq_true rfl, Nat.le_of_ble_eq_true rfl⟩) (mk_sR hP hK hT hS [] rfl) rfl rfl hl.1 rfl (lv_room (Nat.le_of_ble_eq_true rfl)) d_Mo_write_349 ⟨Nat.zero_le _, Nat.zero_le _⟩) ?_
                                                        have b_28 := plN_le (show i5 < 13 by omega)
                                                        refine lv_iadd hx hb d_Mo_write_352 ?_
                                                        refine mk_ti (y := nI (32 * (q + pnN (Z r)) - (32 * (io + 1)) + plN i5)) (nI_add (32 * (q + pnN (Z r)) - (32 * (io + 1))) (plN i5)) ?_
                                                        refine lv_iconst (v := nI 1) hx hb d_Mo_write_353 (by decide) ?_
                                                        refine lv_iadd hx hb d_Mo_write_354 ?_
                                                        refine mk_ti (y := nI (32 * (q + pnN (Z r)) - (32 * (io + 1)) + plN i5 + 1)) (nI_add (32 * (q + pnN (Z r)) - (32 * (io + 1)) + plN i5) 1) ?_
                                                        refine lv_iload hx hb d_Mo_write_355 (lv_at hl 0 rfl) ?_
                                                        refine lv_sipush (v := nI 256) hx hb d_Mo_write_357 (by decide) ?_
                                                        refine lv_idiv hx hb d_Mo_write_360 (by decide) ?_
                                                        refine mk_ti (y := nI ((rv U r (13 * (io + 1 - 1) + i5)) / 256)) (pk_div (by omega) (by decide) (by decide)) ?_
                                                        refine va_iast hx hb hK hP hD hS 3 0 rfl rfl (vp_in_nI (N := 1024) (show 32 * (q + pnN (Z r)) - (32 * (io + 1)) + plN i5 + 1 < 1024 by omega) (by decide)) d_Mo_write_361 (fun H locs hP hD hS => ?_)
                                                        rw [nI_clamp (by omega), nf_up] at hP hD
                                                        have hP : va_P (dC, dI) vwCl [(m0, .inr (5, [.int (nI 0), .ref mu, .ref mz, .ref mb, .ref mr])), (mu, .inl (cI, 510, .inl (nf U))), (mz, .inl (cI, 2, .inl (nf Z))), (mb, .inl (cI, 1024, .inl (nf (uN (uN (muL (rv U r) (Z r) (io + 1) (32 * (q + pnN (Z r)) - (32 * (io + 1))) (stN (mpB (rv U r) (Z r) (suN (stN (stN B (fun _ => 0) (32 * q) (32 * (pnN (Z r)) + 32)) (tdN (rv U r) (Z r) t b) (32 * (q + pnN (Z r))) 11) (32 * (q + pnN (Z r))) 11) (32 * (q + pnN (Z r))) (pnN (Z r)) (stN (stN B (fun _ => 0) (32 * q) (32 * (pnN (Z r)) + 32)) (tdN (rv U r) (Z r) t b) (32 * (q + pnN (Z r))) 11) io) (fun b9 => duN b9 (io + 1) (if io + 1 = pnN (Z r) then 1 else 0) (suN (stN (stN B (fun _ => 0) (32 * q) (32 * (pnN (Z r)) + 32)) (tdN (rv U r) (Z r) t b) (32 * (q + pnN (Z r))) 11) (32 * (q + pnN (Z r))) 11)) (32 * (q + pnN (Z r)) - (32 * (io + 1))) 14) i5) (32 * (q + pnN (Z r)) - (32 * (io + 1)) + plN i5) ((rv U r (13 * (io + 1 - 1) + i5)) % 256)) (32 * (q + pnN (Z r)) - (32 * (io + 1)) + plN i5 + 1) ((rv U r (13 * (io + 1 - 1) + i5)) / 256))))), (mr, .inl (cI, 11, .inl (nf (tdN (rv U r) (Z r) t b))))] H := hP
                                                        have hD : va_D A [(m0, .inr (5, [.int (nI 0), .ref mu, .ref mz, .ref mb, .ref mr])), (mu, .inl (cI, 510, .inl (nf U))), (mz, .inl (cI, 2, .inl (nf Z))), (mb, .inl (cI, 1024, .inl (nf (uN (uN (muL (rv U r) (Z r) (io + 1) (32 * (q + pnN (Z r)) - (32 * (io + 1))) (stN (mpB (rv U r) (Z r) (suN (stN (stN B (fun _ => 0) (32 * q) (32 * (pnN (Z r)) + 32)) (tdN (rv U r) (Z r) t b) (32 * (q + pnN (Z r))) 11) (32 * (q + pnN (Z r))) 11) (32 * (q + pnN (Z r))) (pnN (Z r)) (stN (stN B (fun _ => 0) (32 * q) (32 * (pnN (Z r)) + 32)) (tdN (rv U r) (Z r) t b) (32 * (q + pnN (Z r))) 11) io) (fun b9 => duN b9 (io + 1) (if io + 1 = pnN (Z r) then 1 else 0) (suN (stN (stN B (fun _ => 0) (32 * q) (32 * (pnN (Z r)) + 32)) (tdN (rv U r) (Z r) t b) (32 * (q + pnN (Z r))) 11) (32 * (q + pnN (Z r))) 11)) (32 * (q + pnN (Z r)) - (32 * (io + 1))) 14) i5) (32 * (q + pnN (Z r)) - (32 * (io + 1)) + plN i5) ((rv U r (13 * (io + 1 - 1) + i5)) % 256)) (32 * (q + pnN (Z r)) - (32 * (io + 1)) + plN i5 + 1) ((rv U r (13 * (io + 1 - 1) + i5)) / 256))))), (mr, .inl (cI, 11, .inl (nf (tdN (rv U r) (Z r) t b))))] := hD
                                                        refine lv_iinc (v := nI (i5 + 1)) (lv' := [(9, .int (nI (i5 + 1))), (11, .int (nI (rv U r (13 * (io + 1 - 1) + i5)))), (10, .int (nI (13 * (io + 1 - 1) + i5))), (0, .ref m0), (1, .int (nI r)), (2, .int (nI q)), (3, .int (nI t)), (4, .int (nI (Z r))), (5, .int (nI (pnN (Z r)))), (6, .int (nI (32 * (q + pnN (Z r))))), (7, .int (nI (io + 1))), (8, .int (nI (32 * (q + pnN (Z r)) - (32 * (io + 1)))))]) hx hb d_Mo_write_362 hl (k := 11) rfl (mk_i1 i5) (by decide) rfl (fun ls hl => ?_)
                                                        refine lv_goto (tgt := 271) hx hb d_Mo_write_365 (by decide) ?_
                                                        have hl : lv_has ls 12 [(0, .ref m0), (1, .int (nI r)), (2, .int (nI q)), (3, .int (nI t)), (4, .int (nI (Z r))), (5, .int (nI (pnN (Z r)))), (6, .int (nI (32 * (q + pnN (Z r))))), (7, .int (nI (io + 1))), (8, .int (nI (32 * (q + pnN (Z r)) - (32 * (io + 1))))), (9, .int (nI (i5 + 1)))] := lv_sub hl [3, 4, 5, 6, 7, 8, 9, 10, 11, 0] rfl
                                                        have hw9 : ([(m0, .inr (5, [.int (nI 0), .ref mu, .ref mz, .ref mb, .ref mr])), (mu, .inl (cI, 510, .inl (nf U))), (mz, .inl (cI, 2, .inl (nf Z))), (mb, .inl (cI, 1024, .inl (nf (uN (uN (muL (rv U r) (Z r) (io + 1) (32 * (q + pnN (Z r)) - (32 * (io + 1))) (stN (mpB (rv U r) (Z r) (suN (stN (stN B (fun _ => 0) (32 * q) (32 * (pnN (Z r)) + 32)) (tdN (rv U r) (Z r) t b) (32 * (q + pnN (Z r))) 11) (32 * (q + pnN (Z r))) 11) (32 * (q + pnN (Z r))) (pnN (Z r)) (stN (stN B (fun _ => 0) (32 * q) (32 * (pnN (Z r)) + 32)) (tdN (rv U r) (Z r) t b) (32 * (q + pnN (Z r))) 11) io) (fun b9 => duN b9 (io + 1) (if io + 1 = pnN (Z r) then 1 else 0) (suN (stN (stN B (fun _ => 0) (32 * q) (32 * (pnN (Z r)) + 32)) (tdN (rv U r) (Z r) t b) (32 * (q + pnN (Z r))) 11) (32 * (q + pnN (Z r))) 11)) (32 * (q + pnN (Z r)) - (32 * (io + 1))) 14) i5) (32 * (q + pnN (Z r)) - (32 * (io + 1)) + plN i5) ((rv U r (13 * (io + 1 - 1) + i5)) % 256)) (32 * (q + pnN (Z r)) - (32 * (io + 1)) + plN i5 + 1) ((rv U r (13 * (io + 1 - 1) + i5)) / 256))))), (mr, .inl (cI, 11, .inl (nf (tdN (rv U r) (Z r) t b))))] : va_W) = [(m0, .inr (5, [.int (nI 0), .ref mu, .ref mz, .ref mb, .ref mr])), (mu, .inl (cI, 510, .inl (nf U))), (mz, .inl (cI, 2, .inl (nf Z))), (mb, .inl (cI, 1024, .inl (nf (muL (rv U r) (Z r) (io + 1) (32 * (q + pnN (Z r)) - (32 * (io + 1))) (stN (mpB (rv U r) (Z r) (suN (stN (stN B (fun _ => 0) (32 * q) (32 * (pnN (Z r)) + 32)) (tdN (rv U r) (Z r) t b) (32 * (q + pnN (Z r))) 11) (32 * (q + pnN (Z r))) 11) (32 * (q + pnN (Z r))) (pnN (Z r)) (stN (stN B (fun _ => 0) (32 * q) (32 * (pnN (Z r)) + 32)) (tdN (rv U r) (Z r) t b) (32 * (q + pnN (Z r))) 11) io) (fun b9 => duN b9 (io + 1) (if io + 1 = pnN (Z r) then 1 else 0) (suN (stN (stN B (fun _ => 0) (32 * q) (32 * (pnN (Z r)) + 32)) (tdN (rv U r) (Z r) t b) (32 * (q + pnN (Z r))) 11) (32 * (q + pnN (Z r))) 11)) (32 * (q + pnN (Z r)) - (32 * (io + 1))) 14) (i5 + 1))))), (mr, .inl (cI, 11, .inl (nf (tdN (rv U r) (Z r) t b))))] := by rw [muL]; first | rw [show ufN (rv U r) (Z r) (13 * (io + 1 - 1) + i5) = rv U r (13 * (io + 1 - 1) + i5) from (by unfold ufN; rw [if_pos (by omega)])] | rw [show ufN (rv U r) (Z r) (13 * (io + 1 - 1) + i5) = 0 from (by unfold ufN; rw [if_neg (by omega), if_pos (by omega)])] | rw [show ufN (rv U r) (Z r) (13 * (io + 1 - 1) + i5) = 65535 from (by unfold ufN; rw [if_neg (by omega), if_neg (by omega)])]
                                                        rw [hw9] at hP hD
                                                        exact ih271 (i5 + 1) _ _ _ (by omega) hP hD hS hl
                                                have hl : lv_has ls 12 [(0, .ref m0), (1, .int (nI r)), (2, .int (nI q)), (3, .int (nI t)), (4, .int (nI (Z r))), (5, .int (nI (pnN (Z r)))), (6, .int (nI (32 * (q + pnN (Z r))))), (7, .int (nI (io + 1))), (8, .int (nI (32 * (q + pnN (Z r)) - (32 * (io + 1))))), (9, .int (nI 0))] := lv_sub hl [1, 2, 3, 4, 5, 6, 7, 8, 9, 0] rfl
                                                have hw9 : ([(m0, .inr (5, [.int (nI 0), .ref mu, .ref mz, .ref mb, .ref mr])), (mu, .inl (cI, 510, .inl (nf U))), (mz, .inl (cI, 2, .inl (nf Z))), (mb, .inl (cI, 1024, .inl (nf (stN (mpB (rv U r) (Z r) (suN (stN (stN B (fun _ => 0) (32 * q) (32 * (pnN (Z r)) + 32)) (tdN (rv U r) (Z r) t b) (32 * (q + pnN (Z r))) 11) (32 * (q + pnN (Z r))) 11) (32 * (q + pnN (Z r))) (pnN (Z r)) (stN (stN B (fun _ => 0) (32 * q) (32 * (pnN (Z r)) + 32)) (tdN (rv U r) (Z r) t b) (32 * (q + pnN (Z r))) 11) io) (fun b9 => duN b9 (io + 1) (if io + 1 = pnN (Z r) then 1 else 0) (suN (stN (stN B (fun _ => 0) (32 * q) (32 * (pnN (Z r)) + 32)) (tdN (rv U r) (Z r) t b) (32 * (q + pnN (Z r))) 11) (32 * (q + pnN (Z r))) 11)) (32 * (q + pnN (Z r)) - (32 * (io + 1))) i4)))), (mr, .inl (cI, 11, .inl (nf (tdN (rv U r) (Z r) t b))))] : va_W) = [(m0, .inr (5, [.int (nI 0), .ref mu, .ref mz, .ref mb, .ref mr])), (mu, .inl (cI, 510, .inl (nf U))), (mz, .inl (cI, 2, .inl (nf Z))), (mb, .inl (cI, 1024, .inl (nf (muL (rv U r) (Z r) (io + 1) (32 * (q + pnN (Z r)) - (32 * (io + 1))) (stN (mpB (rv U r) (Z r) (suN (stN (stN B (fun _ => 0) (32 * q) (32 * (pnN (Z r)) + 32)) (tdN (rv U r) (Z r) t b) (32 * (q + pnN (Z r))) 11) (32 * (q + pnN (Z r))) 11) (32 * (q + pnN (Z r))) (pnN (Z r)) (stN (stN B (fun _ => 0) (32 * q) (32 * (pnN (Z r)) + 32)) (tdN (rv U r) (Z r) t b) (32 * (q + pnN (Z r))) 11) io) (fun b9 => duN b9 (io + 1) (if io + 1 = pnN (Z r) then 1 else 0) (suN (stN (stN B (fun _ => 0) (32 * q) (32 * (pnN (Z r)) + 32)) (tdN (rv U r) (Z r) t b) (32 * (q + pnN (Z r))) 11) (32 * (q + pnN (Z r))) 11)) (32 * (q + pnN (Z r)) - (32 * (io + 1))) 14) 0)))), (mr, .inl (cI, 11, .inl (nf (tdN (rv U r) (Z r) t b))))] := by rw [show i4 = 14 by omega]; rfl
                                                rw [hw9] at hP hD
                                                exact lp271 13 0 _ _ _ rfl hP hD hS hl
                                              · skip
                                                rw [nI_leI (by omega) (by omega)] at c_17
                                                first | omega | contradiction
                                            | succ k4 ih220 =>
                                              intro i4 H locs ls hi4 hP hD hS hl
                                              have hQ : ∀ j, (stN (mpB (rv U r) (Z r) (suN (stN (stN B (fun _ => 0) (32 * q) (32 * (pnN (Z r)) + 32)) (tdN (rv U r) (Z r) t b) (32 * (q + pnN (Z r))) 11) (32 * (q + pnN (Z r))) 11) (32 * (q + pnN (Z r))) (pnN (Z r)) (stN (stN B (fun _ => 0) (32 * q) (32 * (pnN (Z r)) + 32)) (tdN (rv U r) (Z r) t b) (32 * (q + pnN (Z r))) 11) io) (fun b9 => duN b9 (io + 1) (if io + 1 = pnN (Z r) then 1 else 0) (suN (stN (stN B (fun _ => 0) (32 * q) (32 * (pnN (Z r)) + 32)) (tdN (rv U r) (Z r) t b) (32 * (q + pnN (Z r))) 11) (32 * (q + pnN (Z r))) 11)) (32 * (q + pnN (Z r)) - (32 * (io + 1))) i4) j < 65536 := stN_lt hM (fun j => duN_lt (by omega) hs9)
                                              refine lv_iload hx hb d_Mo_write_220 (lv_at hl 9 rfl) ?_
                                              refine lv_bipush (v := nI 14) hx hb d_Mo_write_222 (by decide) ?_
                                              refine lv_icmp_ge (tgt := 268) hx hb d_Mo_write_224 (by decide) (fun c_29 => ?_) (fun c_29 => ?_)
                                              · skip
                                                rw [nI_leI (by omega) (by omega)] at c_29
                                                first | omega | contradiction
                                              · skip
                                                rw [nI_leI (by omega) (by omega)] at c_29
                                                refine lv_aload_n hx hb d_Mo_write_227 rfl (lv_at hl 0 rfl) ?_
                                                refine va_get (D := (dC, dI)) (ci := 5) (v := .ref mb) (C := "LongNamesModel") (T := F_Mo) (N := 5) hx hb hts (iw_Mo _) hown hK hP 0 rfl rfl 3 (by decide) (hts _ (List.mem_cons_of_mem _ k_525)) (fun _ h9 => h9) rfl d_Mo_write_228 ?_
                                                refine lv_iload hx hb d_Mo_write_231 (lv_at hl 8 rfl) ?_
                                                refine lv_iload hx hb d_Mo_write_233 (lv_at hl 9 rfl) ?_
                                                refine lv_iadd hx hb d_Mo_write_235 ?_
                                                refine mk_ti (y := nI (32 * (q + pnN (Z r)) - (32 * (io + 1)) + i4)) (nI_add (32 * (q + pnN (Z r)) - (32 * (io + 1))) i4) ?_
                                                refine lv_iload hx hb d_Mo_write_236 (lv_at hl 9 rfl) ?_
                                                refine lv_iload hx hb d_Mo_write_238 (lv_at hl 7 rfl) ?_
                                                refine lv_iload hx hb d_Mo_write_240 (lv_at hl 7 rfl) ?_
                                                refine lv_iload hx hb d_Mo_write_242 (lv_at hl 5 rfl) ?_
                                                refine lv_icmp_ne (tgt := 251) hx hb d_Mo_write_244 (by decide) (fun c_30 => ?_) (fun c_30 => ?_)
                                                · skip
                                                  rw [nI_eq (by omega) (by omega)] at c_30
                                                  refine lv_iconst (v := nI 0) hx hb d_Mo_write_251 (by decide) ?_
                                                  refine lv_aload_n hx hb d_Mo_write_252 rfl (lv_at hl 0 rfl) ?_
                                                  refine lv_iload hx hb d_Mo_write_253 (lv_at hl 6 rfl) ?_
                                                  refine mk_r1 (W.runV (As := [.int (nI (32 * (q + pnN (Z r))))]) (rest := [.int (nI 0), .int (nI (io + 1)), .int (nI i4), .int (nI (32 * (q + pnN (Z r)) - (32 * (io + 1)) + i4)), .ref mb]) S (c_Mo_sumOf l dC dI cI m0 (nI 0) mu mz mb mr (stN (mpB (rv U r) (Z r) (suN (stN (stN B (fun _ => 0) (32 * q) (32 * (pnN (Z r)) + 32)) (tdN (rv U r) (Z r) t b) (32 * (q + pnN (Z r))) 11) (32 * (q + pnN (Z r))) 11) (32 * (q + pnN (Z r))) (pnN (Z r)) (stN (stN B (fun _ => 0) (32 * q) (32 * (pnN (Z r)) + 32)) (tdN (rv U r) (Z r) t b) (32 * (q + pnN (Z r))) 11) io) (fun b9 => duN b9 (io + 1) (if io + 1 = pnN (Z r) then 1 else 0) (suN (stN (stN B (fun _ => 0) (32 * q) (32 * (pnN (Z r)) + 32)) (tdN (rv U r) (Z r) t b) (32 * (q + pnN (Z r))) 11) (32 * (q + pnN (Z r))) 11)) (32 * (q + pnN (Z r)) - (32 * (io + 1))) i4) (32 * (q + pnN (Z r))) (by first | assumption | omega) (by first | assumption | omega)) (gV 1 hts k_611 k_613 k_18 k_29 k_614 (by decide +kernel) ⟨Nat.le_of_ble_eq_true rfl, Nat.le_of_ble_eq_true rfl⟩) (mk_vR hP hK hT hS [0, 3] rfl (q0 := 0) (ci := 5) rfl rfl) rfl rfl hl.1 rfl (lv_room (Nat.le_of_ble_eq_true rfl)) d_Mo_write_255 ⟨Nat.zero_le _, Nat.zero_le _⟩) ?_
                                                  refine mk_ti (y := nI (suN (stN (stN B (fun _ => 0) (32 * q) (32 * (pnN (Z r)) + 32)) (tdN (rv U r) (Z r) t b) (32 * (q + pnN (Z r))) 11) (32 * (q + pnN (Z r))) 11)) (by rw [su_st (by omega) hsu]) ?_
                                                  have b_31 := suN_lt (stN (mpB (rv U r) (Z r) (suN (stN (stN B (fun _ => 0) (32 * q) (32 * (pnN (Z r)) + 32)) (tdN (rv U r) (Z r) t b) (32 * (q + pnN (Z r))) 11) (32 * (q + pnN (Z r))) 11) (32 * (q + pnN (Z r))) (pnN (Z r)) (stN (stN B (fun _ => 0) (32 * q) (32 * (pnN (Z r)) + 32)) (tdN (rv U r) (Z r) t b) (32 * (q + pnN (Z r))) 11) io) (fun b9 => duN b9 (io + 1) (if io + 1 = pnN (Z r) then 1 else 0) (suN (stN (stN B (fun _ => 0) (32 * q) (32 * (pnN (Z r)) + 32)) (tdN (rv U r) (Z r) t b) (32 * (q + pnN (Z r))) 11) (32 * (q + pnN (Z r))) 11)) (32 * (q + pnN (Z r)) - (32 * (io + 1))) i4) (32 * (q + pnN (Z r))) 11
                                                  refine mk_r1 (W.runS (As := [.int (nI i4), .int (nI (io + 1)), .int (nI 0), .int (nI (suN (stN (stN B (fun _ => 0) (32 * q) (32 * (pnN (Z r)) + 32)) (tdN (rv U r) (Z r) t b) (32 * (q + pnN (Z r))) 11) (32 * (q + pnN (Z r))) 11))]) (rest := [.int (nI (32 * (q + pnN (Z r)) - (32 * (io + 1)) + i4)), .ref mb]) S (c_Mo_due l dC dI cI i4 (io + 1) 0 (suN (stN (stN B (fun _ => 0) (32 * q) (32 * (pnN (Z r)) + 32)) (tdN (rv U r) (Z r) t b) (32 * (q + pnN (Z r))) 11) (32 * (q + pnN (Z r))) 11) (by first | assumption | omega) (by first | assumption | omega)) (gS 4 hts k_615 k_616 k_29 k_617 (by decide +kernel) ⟨Nat.le_of_ble_eq_true rfl, Nat.le_of_ble_eq_true rfl⟩) (mk_sR hP hK hT hS [] rfl) rfl rfl hl.1 rfl (lv_room (Nat.le_of_ble_eq_true rfl)) d_Mo_write_258 ⟨Nat.zero_le _, Nat.zero_le _⟩) ?_
                                                  refine va_iast hx hb hK hP hD hS 3 0 rfl rfl (vp_in_nI (N := 1024) (show 32 * (q + pnN (Z r)) - (32 * (io + 1)) + i4 < 1024 by omega) (by decide)) d_Mo_write_261 (fun H locs hP hD hS => ?_)
                                                  rw [nI_clamp (by omega), nf_up] at hP hD
                                                  have hP : va_P (dC, dI) vwCl [(m0, .inr (5, [.int (nI 0), .ref mu, .ref mz, .ref mb, .ref mr])), (mu, .inl (cI, 510, .inl (nf U))), (mz, .inl (cI, 2, .inl (nf Z))), (mb, .inl (cI, 1024, .inl (nf (uN (stN (mpB (rv U r) (Z r) (suN (stN (stN B (fun _ => 0) (32 * q) (32 * (pnN (Z r)) + 32)) (tdN (rv U r) (Z r) t b) (32 * (q + pnN (Z r))) 11) (32 * (q + pnN (Z r))) 11) (32 * (q + pnN (Z r))) (pnN (Z r)) (stN (stN B (fun _ => 0) (32 * q) (32 * (pnN (Z r)) + 32)) (tdN (rv U r) (Z r) t b) (32 * (q + pnN (Z r))) 11) io) (fun b9 => duN b9 (io + 1) (if io + 1 = pnN (Z r) then 1 else 0) (suN (stN (stN B (fun _ => 0) (32 * q) (32 * (pnN (Z r)) + 32)) (tdN (rv U r) (Z r) t b) (32 * (q + pnN (Z r))) 11) (32 * (q + pnN (Z r))) 11)) (32 * (q + pnN (Z r)) - (32 * (io + 1))) i4) (32 * (q + pnN (Z r)) - (32 * (io + 1)) + i4) (duN i4 (io + 1) 0 (suN (stN (stN B (fun _ => 0) (32 * q) (32 * (pnN (Z r)) + 32)) (tdN (rv U r) (Z r) t b) (32 * (q + pnN (Z r))) 11) (32 * (q + pnN (Z r))) 11)))))), (mr, .inl (cI, 11, .inl (nf (tdN (rv U r) (Z r) t b))))] H := hP
                                                  have hD : va_D A [(m0, .inr (5, [.int (nI 0), .ref mu, .ref mz, .ref mb, .ref mr])), (mu, .inl (cI, 510, .inl (nf U))), (mz, .inl (cI, 2, .inl (nf Z))), (mb, .inl (cI, 1024, .inl (nf (uN (stN (mpB (rv U r) (Z r) (suN (stN (stN B (fun _ => 0) (32 * q) (32 * (pnN (Z r)) + 32)) (tdN (rv U r) (Z r) t b) (32 * (q + pnN (Z r))) 11) (32 * (q + pnN (Z r))) 11) (32 * (q + pnN (Z r))) (pnN (Z r)) (stN (stN B (fun _ => 0) (32 * q) (32 * (pnN (Z r)) + 32)) (tdN (rv U r) (Z r) t b) (32 * (q + pnN (Z r))) 11) io) (fun b9 => duN b9 (io + 1) (if io + 1 = pnN (Z r) then 1 else 0) (suN (stN (stN B (fun _ => 0) (32 * q) (32 * (pnN (Z r)) + 32)) (tdN (rv U r) (Z r) t b) (32 * (q + pnN (Z r))) 11) (32 * (q + pnN (Z r))) 11)) (32 * (q + pnN (Z r)) - (32 * (io + 1))) i4) (32 * (q + pnN (Z r)) - (32 * (io + 1)) + i4) (duN i4 (io + 1) 0 (suN (stN (stN B (fun _ => 0) (32 * q) (32 * (pnN (Z r)) + 32)) (tdN (rv U r) (Z r) t b) (32 * (q + pnN (Z r))) 11) (32 * (q + pnN (Z r))) 11)))))), (mr, .inl (cI, 11, .inl (nf (tdN (rv U r) (Z r) t b))))] := hD
                                                  refine lv_iinc (v := nI (i4 + 1)) (lv' := [(9, .int (nI (i4 + 1))), (0, .ref m0), (1, .int (nI r)), (2, .int (nI q)), (3, .int (nI t)), (4, .int (nI (Z r))), (5, .int (nI (pnN (Z r)))), (6, .int (nI (32 * (q + pnN (Z r))))), (7, .int (nI (io + 1))), (8, .int (nI (32 * (q + pnN (Z r)) - (32 * (io + 1)))))]) hx hb d_Mo_write_262 hl (k := 9) rfl (mk_i1 i4) (by decide) rfl (fun ls hl => ?_)
                                                  refine lv_goto (tgt := 220) hx hb d_Mo_write_265 (by decide) ?_
                                                  have hl : lv_has ls 12 [(0, .ref m0), (1, .int (nI r)), (2, .int (nI q)), (3, .int (nI t)), (4, .int (nI (Z r))), (5, .int (nI (pnN (Z r)))), (6, .int (nI (32 * (q + pnN (Z r))))), (7, .int (nI (io + 1))), (8, .int (nI (32 * (q + pnN (Z r)) - (32 * (io + 1))))), (9, .int (nI (i4 + 1)))] := lv_sub hl [1, 2, 3, 4, 5, 6, 7, 8, 9, 0] rfl
                                                  have hw9 : ([(m0, .inr (5, [.int (nI 0), .ref mu, .ref mz, .ref mb, .ref mr])), (mu, .inl (cI, 510, .inl (nf U))), (mz, .inl (cI, 2, .inl (nf Z))), (mb, .inl (cI, 1024, .inl (nf (uN (stN (mpB (rv U r) (Z r) (suN (stN (stN B (fun _ => 0) (32 * q) (32 * (pnN (Z r)) + 32)) (tdN (rv U r) (Z r) t b) (32 * (q + pnN (Z r))) 11) (32 * (q + pnN (Z r))) 11) (32 * (q + pnN (Z r))) (pnN (Z r)) (stN (stN B (fun _ => 0) (32 * q) (32 * (pnN (Z r)) + 32)) (tdN (rv U r) (Z r) t b) (32 * (q + pnN (Z r))) 11) io) (fun b9 => duN b9 (io + 1) (if io + 1 = pnN (Z r) then 1 else 0) (suN (stN (stN B (fun _ => 0) (32 * q) (32 * (pnN (Z r)) + 32)) (tdN (rv U r) (Z r) t b) (32 * (q + pnN (Z r))) 11) (32 * (q + pnN (Z r))) 11)) (32 * (q + pnN (Z r)) - (32 * (io + 1))) i4) (32 * (q + pnN (Z r)) - (32 * (io + 1)) + i4) (duN i4 (io + 1) 0 (suN (stN (stN B (fun _ => 0) (32 * q) (32 * (pnN (Z r)) + 32)) (tdN (rv U r) (Z r) t b) (32 * (q + pnN (Z r))) 11) (32 * (q + pnN (Z r))) 11)))))), (mr, .inl (cI, 11, .inl (nf (tdN (rv U r) (Z r) t b))))] : va_W) = [(m0, .inr (5, [.int (nI 0), .ref mu, .ref mz, .ref mb, .ref mr])), (mu, .inl (cI, 510, .inl (nf U))), (mz, .inl (cI, 2, .inl (nf Z))), (mb, .inl (cI, 1024, .inl (nf (stN (mpB (rv U r) (Z r) (suN (stN (stN B (fun _ => 0) (32 * q) (32 * (pnN (Z r)) + 32)) (tdN (rv U r) (Z r) t b) (32 * (q + pnN (Z r))) 11) (32 * (q + pnN (Z r))) 11) (32 * (q + pnN (Z r))) (pnN (Z r)) (stN (stN B (fun _ => 0) (32 * q) (32 * (pnN (Z r)) + 32)) (tdN (rv U r) (Z r) t b) (32 * (q + pnN (Z r))) 11) io) (fun b9 => duN b9 (io + 1) (if io + 1 = pnN (Z r) then 1 else 0) (suN (stN (stN B (fun _ => 0) (32 * q) (32 * (pnN (Z r)) + 32)) (tdN (rv U r) (Z r) t b) (32 * (q + pnN (Z r))) 11) (32 * (q + pnN (Z r))) 11)) (32 * (q + pnN (Z r)) - (32 * (io + 1))) (i4 + 1))))), (mr, .inl (cI, 11, .inl (nf (tdN (rv U r) (Z r) t b))))] := by rw [stN_s (by show _ = duN i4 (io + 1) (if io + 1 = pnN (Z r) then 1 else 0) _; first | rw [if_pos (by omega)] | rw [if_neg (by omega)])]
                                                  rw [hw9] at hP hD
                                                  exact ih220 (i4 + 1) _ _ _ (by omega) hP hD hS hl
                                                · skip
                                                  rw [nI_eq (by omega) (by omega)] at c_30
                                                  refine lv_iconst (v := nI 1) hx hb d_Mo_write_247 (by decide) ?_
                                                  refine lv_goto (tgt := 252) hx hb d_Mo_write_248 (by decide) ?_
                                                  refine lv_aload_n hx hb d_Mo_write_252 rfl (lv_at hl 0 rfl) ?_
                                                  refine lv_iload hx hb d_Mo_write_253 (lv_at hl 6 rfl) ?_
                                                  refine mk_r1 (W.runV (As := [.int (nI (32 * (q + pnN (Z r))))]) (rest := [.int (nI 1), .int (nI (io + 1)), .int (nI i4), .int (nI (32 * (q + pnN (Z r)) - (32 * (io + 1)) + i4)), .ref mb]) S (c_Mo_sumOf l dC dI cI m0 (nI 0) mu mz mb mr (stN (mpB (rv U r) (Z r) (suN (stN (stN B (fun _ => 0) (32 * q) (32 * (pnN (Z r)) + 32)) (tdN (rv U r) (Z r) t b) (32 * (q + pnN (Z r))) 11) (32 * (q + pnN (Z r))) 11) (32 * (q + pnN (Z r))) (pnN (Z r)) (stN (stN B (fun _ => 0) (32 * q) (32 * (pnN (Z r)) + 32)) (tdN (rv U r) (Z r) t b) (32 * (q + pnN (Z r))) 11) io) (fun b9 => duN b9 (io + 1) (if io + 1 = pnN (Z r) then 1 else 0) (suN (stN (stN B (fun _ => 0) (32 * q) (32 * (pnN (Z r)) + 32)) (tdN (rv U r) (Z r) t b) (32 * (q + pnN (Z r))) 11) (32 * (q + pnN (Z r))) 11)) (32 * (q + pnN (Z r)) - (32 * (io + 1))) i4) (32 * (q + pnN (Z r))) (by first | assumption | omega) (by first | assumption | omega)) (gV 1 hts k_611 k_613 k_18 k_29 k_614 (by decide +kernel) ⟨Nat.le_of_ble_eq_true rfl, Nat.le_of_ble_eq_true rfl⟩) (mk_vR hP hK hT hS [0, 3] rfl (q0 := 0) (ci := 5) rfl rfl) rfl rfl hl.1 rfl (lv_room (Nat.le_of_ble_eq_true rfl)) d_Mo_write_255 ⟨Nat.zero_le _, Nat.zero_le _⟩) ?_
                                                  refine mk_ti (y := nI (suN (stN (stN B (fun _ => 0) (32 * q) (32 * (pnN (Z r)) + 32)) (tdN (rv U r) (Z r) t b) (32 * (q + pnN (Z r))) 11) (32 * (q + pnN (Z r))) 11)) (by rw [su_st (by omega) hsu]) ?_
                                                  have b_32 := suN_lt (stN (mpB (rv U r) (Z r) (suN (stN (stN B (fun _ => 0) (32 * q) (32 * (pnN (Z r)) + 32)) (tdN (rv U r) (Z r) t b) (32 * (q + pnN (Z r))) 11) (32 * (q + pnN (Z r))) 11) (32 * (q + pnN (Z r))) (pnN (Z r)) (stN (stN B (fun _ => 0) (32 * q) (32 * (pnN (Z r)) + 32)) (tdN (rv U r) (Z r) t b) (32 * (q + pnN (Z r))) 11) io) (fun b9 => duN b9 (io + 1) (if io + 1 = pnN (Z r) then 1 else 0) (suN (stN (stN B (fun _ => 0) (32 * q) (32 * (pnN (Z r)) + 32)) (tdN (rv U r) (Z r) t b) (32 * (q + pnN (Z r))) 11) (32 * (q + pnN (Z r))) 11)) (32 * (q + pnN (Z r)) - (32 * (io + 1))) i4) (32 * (q + pnN (Z r))) 11
                                                  refine mk_r1 (W.runS (As := [.int (nI i4), .int (nI (io + 1)), .int (nI 1), .int (nI (suN (stN (stN B (fun _ => 0) (32 * q) (32 * (pnN (Z r)) + 32)) (tdN (rv U r) (Z r) t b) (32 * (q + pnN (Z r))) 11) (32 * (q + pnN (Z r))) 11))]) (rest := [.int (nI (32 * (q + pnN (Z r)) - (32 * (io + 1)) + i4)), .ref mb]) S (c_Mo_due l dC dI cI i4 (io + 1) 1 (suN (stN (stN B (fun _ => 0) (32 * q) (32 * (pnN (Z r)) + 32)) (tdN (rv U r) (Z r) t b) (32 * (q + pnN (Z r))) 11) (32 * (q + pnN (Z r))) 11) (by first | assumption | omega) (by first | assumption | omega)) (gS 4 hts k_615 k_616 k_29 k_617 (by decide +kernel) ⟨Nat.le_of_ble_eq_true rfl, Nat.le_of_ble_eq_true rfl⟩) (mk_sR hP hK hT hS [] rfl) rfl rfl hl.1 rfl (lv_room (Nat.le_of_ble_eq_true rfl)) d_Mo_write_258 ⟨Nat.zero_le _, Nat.zero_le _⟩) ?_
                                                  refine va_iast hx hb hK hP hD hS 3 0 rfl rfl (vp_in_nI (N := 1024) (show 32 * (q + pnN (Z r)) - (32 * (io + 1)) + i4 < 1024 by omega) (by decide)) d_Mo_write_261 (fun H locs hP hD hS => ?_)
                                                  rw [nI_clamp (by omega), nf_up] at hP hD
                                                  have hP : va_P (dC, dI) vwCl [(m0, .inr (5, [.int (nI 0), .ref mu, .ref mz, .ref mb, .ref mr])), (mu, .inl (cI, 510, .inl (nf U))), (mz, .inl (cI, 2, .inl (nf Z))), (mb, .inl (cI, 1024, .inl (nf (uN (stN (mpB (rv U r) (Z r) (suN (stN (stN B (fun _ => 0) (32 * q) (32 * (pnN (Z r)) + 32)) (tdN (rv U r) (Z r) t b) (32 * (q + pnN (Z r))) 11) (32 * (q + pnN (Z r))) 11) (32 * (q + pnN (Z r))) (pnN (Z r)) (stN (stN B (fun _ => 0) (32 * q) (32 * (pnN (Z r)) + 32)) (tdN (rv U r) (Z r) t b) (32 * (q + pnN (Z r))) 11) io) (fun b9 => duN b9 (io + 1) (if io + 1 = pnN (Z r) then 1 else 0) (suN (stN (stN B (fun _ => 0) (32 * q) (32 * (pnN (Z r)) + 32)) (tdN (rv U r) (Z r) t b) (32 * (q + pnN (Z r))) 11) (32 * (q + pnN (Z r))) 11)) (32 * (q + pnN (Z r)) - (32 * (io + 1))) i4) (32 * (q + pnN (Z r)) - (32 * (io + 1)) + i4) (duN i4 (io + 1) 1 (suN (stN (stN B (fun _ => 0) (32 * q) (32 * (pnN (Z r)) + 32)) (tdN (rv U r) (Z r) t b) (32 * (q + pnN (Z r))) 11) (32 * (q + pnN (Z r))) 11)))))), (mr, .inl (cI, 11, .inl (nf (tdN (rv U r) (Z r) t b))))] H := hP
                                                  have hD : va_D A [(m0, .inr (5, [.int (nI 0), .ref mu, .ref mz, .ref mb, .ref mr])), (mu, .inl (cI, 510, .inl (nf U))), (mz, .inl (cI, 2, .inl (nf Z))), (mb, .inl (cI, 1024, .inl (nf (uN (stN (mpB (rv U r) (Z r) (suN (stN (stN B (fun _ => 0) (32 * q) (32 * (pnN (Z r)) + 32)) (tdN (rv U r) (Z r) t b) (32 * (q + pnN (Z r))) 11) (32 * (q + pnN (Z r))) 11) (32 * (q + pnN (Z r))) (pnN (Z r)) (stN (stN B (fun _ => 0) (32 * q) (32 * (pnN (Z r)) + 32)) (tdN (rv U r) (Z r) t b) (32 * (q + pnN (Z r))) 11) io) (fun b9 => duN b9 (io + 1) (if io + 1 = pnN (Z r) then 1 else 0) (suN (stN (stN B (fun _ => 0) (32 * q) (32 * (pnN (Z r)) + 32)) (tdN (rv U r) (Z r) t b) (32 * (q + pnN (Z r))) 11) (32 * (q + pnN (Z r))) 11)) (32 * (q + pnN (Z r)) - (32 * (io + 1))) i4) (32 * (q + pnN (Z r)) - (32 * (io + 1)) + i4) (duN i4 (io + 1) 1 (suN (stN (stN B (fun _ => 0) (32 * q) (32 * (pnN (Z r)) + 32)) (tdN (rv U r) (Z r) t b) (32 * (q + pnN (Z r))) 11) (32 * (q + pnN (Z r))) 11)))))), (mr, .inl (cI, 11, .inl (nf (tdN (rv U r) (Z r) t b))))] := hD
                                                  refine lv_iinc (v := nI (i4 + 1)) (lv' := [(9, .int (nI (i4 + 1))), (0, .ref m0), (1, .int (nI r)), (2, .int (nI q)), (3, .int (nI t)), (4, .int (nI (Z r))), (5, .int (nI (pnN (Z r)))), (6, .int (nI (32 * (q + pnN (Z r))))), (7, .int (nI (io + 1))), (8, .int (nI (32 * (q + pnN (Z r)) - (32 * (io + 1)))))]) hx hb d_Mo_write_262 hl (k := 9) rfl (mk_i1 i4) (by decide) rfl (fun ls hl => ?_)
                                                  refine lv_goto (tgt := 220) hx hb d_Mo_write_265 (by decide) ?_
                                                  have hl : lv_has ls 12 [(0, .ref m0), (1, .int (nI r)), (2, .int (nI q)), (3, .int (nI t)), (4, .int (nI (Z r))), (5, .int (nI (pnN (Z r)))), (6, .int (nI (32 * (q + pnN (Z r))))), (7, .int (nI (io + 1))), (8, .int (nI (32 * (q + pnN (Z r)) - (32 * (io + 1))))), (9, .int (nI (i4 + 1)))] := lv_sub hl [1, 2, 3, 4, 5, 6, 7, 8, 9, 0] rfl
                                                  have hw9 : ([(m0, .inr (5, [.int (nI 0), .ref mu, .ref mz, .ref mb, .ref mr])), (mu, .inl (cI, 510, .inl (nf U))), (mz, .inl (cI, 2, .inl (nf Z))), (mb, .inl (cI, 1024, .inl (nf (uN (stN (mpB (rv U r) (Z r) (suN (stN (stN B (fun _ => 0) (32 * q) (32 * (pnN (Z r)) + 32)) (tdN (rv U r) (Z r) t b) (32 * (q + pnN (Z r))) 11) (32 * (q + pnN (Z r))) 11) (32 * (q + pnN (Z r))) (pnN (Z r)) (stN (stN B (fun _ => 0) (32 * q) (32 * (pnN (Z r)) + 32)) (tdN (rv U r) (Z r) t b) (32 * (q + pnN (Z r))) 11) io) (fun b9 => duN b9 (io + 1) (if io + 1 = pnN (Z r) then 1 else 0) (suN (stN (stN B (fun _ => 0) (32 * q) (32 * (pnN (Z r)) + 32)) (tdN (rv U r) (Z r) t b) (32 * (q + pnN (Z r))) 11) (32 * (q + pnN (Z r))) 11)) (32 * (q + pnN (Z r)) - (32 * (io + 1))) i4) (32 * (q + pnN (Z r)) - (32 * (io + 1)) + i4) (duN i4 (io + 1) 1 (suN (stN (stN B (fun _ => 0) (32 * q) (32 * (pnN (Z r)) + 32)) (tdN (rv U r) (Z r) t b) (32 * (q + pnN (Z r))) 11) (32 * (q + pnN (Z r))) 11)))))), (mr, .inl (cI, 11, .inl (nf (tdN (rv U r) (Z r) t b))))] : va_W) = [(m0, .inr (5, [.int (nI 0), .ref mu, .ref mz, .ref mb, .ref mr])), (mu, .inl (cI, 510, .inl (nf U))), (mz, .inl (cI, 2, .inl (nf Z))), (mb, .inl (cI, 1024, .inl (nf (stN (mpB (rv U r) (Z r) (suN (stN (stN B (fun _ => 0) (32 * q) (32 * (pnN (Z r)) + 32)) (tdN (rv U r) (Z r) t b) (32 * (q + pnN (Z r))) 11) (32 * (q + pnN (Z r))) 11) (32 * (q + pnN (Z r))) (pnN (Z r)) (stN (stN B (fun _ => 0) (32 * q) (32 * (pnN (Z r)) + 32)) (tdN (rv U r) (Z r) t b) (32 * (q + pnN (Z r))) 11) io) (fun b9 => duN b9 (io + 1) (if io + 1 = pnN (Z r) then 1 else 0) (suN (stN (stN B (fun _ => 0) (32 * q) (32 * (pnN (Z r)) + 32)) (tdN (rv U r) (Z r) t b) (32 * (q + pnN (Z r))) 11) (32 * (q + pnN (Z r))) 11)) (32 * (q + pnN (Z r)) - (32 * (io + 1))) (i4 + 1))))), (mr, .inl (cI, 11, .inl (nf (tdN (rv U r) (Z r) t b))))] := by rw [stN_s (by show _ = duN i4 (io + 1) (if io + 1 = pnN (Z r) then 1 else 0) _; first | rw [if_pos (by omega)] | rw [if_neg (by omega)])]
                                                  rw [hw9] at hP hD
                                                  exact ih220 (i4 + 1) _ _ _ (by omega) hP hD hS hl
                                          have hl : lv_has ls 12 [(0, .ref m0), (1, .int (nI r)), (2, .int (nI q)), (3, .int (nI t)), (4, .int (nI (Z r))), (5, .int (nI (pnN (Z r)))), (6, .int (nI (32 * (q + pnN (Z r))))), (7, .int (nI (io + 1))), (8, .int (nI (32 * (q + pnN (Z r)) - (32 * (io + 1))))), (9, .int (nI 0))] := lv_sub hl [2, 3, 4, 5, 6, 7, 8, 9, 1, 0] rfl
                                          have hw9 : ([(m0, .inr (5, [.int (nI 0), .ref mu, .ref mz, .ref mb, .ref mr])), (mu, .inl (cI, 510, .inl (nf U))), (mz, .inl (cI, 2, .inl (nf Z))), (mb, .inl (cI, 1024, .inl (nf (mpB (rv U r) (Z r) (suN (stN (stN B (fun _ => 0) (32 * q) (32 * (pnN (Z r)) + 32)) (tdN (rv U r) (Z r) t b) (32 * (q + pnN (Z r))) 11) (32 * (q + pnN (Z r))) 11) (32 * (q + pnN (Z r))) (pnN (Z r)) (stN (stN B (fun _ => 0) (32 * q) (32 * (pnN (Z r)) + 32)) (tdN (rv U r) (Z r) t b) (32 * (q + pnN (Z r))) 11) io)))), (mr, .inl (cI, 11, .inl (nf (tdN (rv U r) (Z r) t b))))] : va_W) = [(m0, .inr (5, [.int (nI 0), .ref mu, .ref mz, .ref mb, .ref mr])), (mu, .inl (cI, 510, .inl (nf U))), (mz, .inl (cI, 2, .inl (nf Z))), (mb, .inl (cI, 1024, .inl (nf (stN (mpB (rv U r) (Z r) (suN (stN (stN B (fun _ => 0) (32 * q) (32 * (pnN (Z r)) + 32)) (tdN (rv U r) (Z r) t b) (32 * (q + pnN (Z r))) 11) (32 * (q + pnN (Z r))) 11) (32 * (q + pnN (Z r))) (pnN (Z r)) (stN (stN B (fun _ => 0) (32 * q) (32 * (pnN (Z r)) + 32)) (tdN (rv U r) (Z r) t b) (32 * (q + pnN (Z r))) 11) io) (fun b9 => duN b9 (io + 1) (if io + 1 = pnN (Z r) then 1 else 0) (suN (stN (stN B (fun _ => 0) (32 * q) (32 * (pnN (Z r)) + 32)) (tdN (rv U r) (Z r) t b) (32 * (q + pnN (Z r))) 11) (32 * (q + pnN (Z r))) 11)) (32 * (q + pnN (Z r)) - (32 * (io + 1))) 0)))), (mr, .inl (cI, 11, .inl (nf (tdN (rv U r) (Z r) t b))))] := by rw [stN_0]
                                          rw [hw9] at hP hD
                                          exact lp220 14 0 _ _ _ rfl hP hD hS hl
                                    have hl : lv_has ls 12 [(0, .ref m0), (1, .int (nI r)), (2, .int (nI q)), (3, .int (nI t)), (4, .int (nI (Z r))), (5, .int (nI (pnN (Z r)))), (6, .int (nI (32 * (q + pnN (Z r))))), (7, .int (nI 1))] := lv_sub hl [1, 2, 3, 4, 5, 6, 7, 0] rfl
                                    have hl9 : ([(0, .ref m0), (1, .int (nI r)), (2, .int (nI q)), (3, .int (nI t)), (4, .int (nI (Z r))), (5, .int (nI (pnN (Z r)))), (6, .int (nI (32 * (q + pnN (Z r))))), (7, .int (nI 1))] : List (Nat × Value)) = [(0, .ref m0), (1, .int (nI r)), (2, .int (nI q)), (3, .int (nI t)), (4, .int (nI (Z r))), (5, .int (nI (pnN (Z r)))), (6, .int (nI (32 * (q + pnN (Z r))))), (7, .int (nI (0 + 1)))] := by rfl
                                    rw [hl9] at hl
                                    have hw9 : ([(m0, .inr (5, [.int (nI 0), .ref mu, .ref mz, .ref mb, .ref mr])), (mu, .inl (cI, 510, .inl (nf U))), (mz, .inl (cI, 2, .inl (nf Z))), (mb, .inl (cI, 1024, .inl (nf (stN (stN B (fun _ => 0) (32 * q) (32 * (pnN (Z r)) + 32)) (tdN (rv U r) (Z r) t b) (32 * (q + pnN (Z r))) i2)))), (mr, .inl (cI, 11, .inl (nf (tdN (rv U r) (Z r) t b))))] : va_W) = [(m0, .inr (5, [.int (nI 0), .ref mu, .ref mz, .ref mb, .ref mr])), (mu, .inl (cI, 510, .inl (nf U))), (mz, .inl (cI, 2, .inl (nf Z))), (mb, .inl (cI, 1024, .inl (nf (mpB (rv U r) (Z r) (suN (stN (stN B (fun _ => 0) (32 * q) (32 * (pnN (Z r)) + 32)) (tdN (rv U r) (Z r) t b) (32 * (q + pnN (Z r))) 11) (32 * (q + pnN (Z r))) 11) (32 * (q + pnN (Z r))) (pnN (Z r)) (stN (stN B (fun _ => 0) (32 * q) (32 * (pnN (Z r)) + 32)) (tdN (rv U r) (Z r) t b) (32 * (q + pnN (Z r))) 11) 0)))), (mr, .inl (cI, 11, .inl (nf (tdN (rv U r) (Z r) t b))))] := by rw [show i2 = 11 by omega]; rfl
                                    rw [hw9] at hP hD
                                    exact lp200 (pnN (Z r)) 0 _ _ _ (by omega) hP hD hS hl
                                  · skip
                                    rw [nI_leI (by omega) (by omega)] at c_14
                                    first | omega | contradiction
                                | succ k2 ih167 =>
                                  intro i2 H locs ls hi2 hP hD hS hl
                                  refine lv_iload hx hb d_Mo_write_167 (lv_at hl 7 rfl) ?_
                                  refine lv_bipush (v := nI 11) hx hb d_Mo_write_169 (by decide) ?_
                                  refine lv_icmp_ge (tgt := 197) hx hb d_Mo_write_171 (by decide) (fun c_33 => ?_) (fun c_33 => ?_)
                                  · skip
                                    rw [nI_leI (by omega) (by omega)] at c_33
                                    first | omega | contradiction
                                  · skip
                                    rw [nI_leI (by omega) (by omega)] at c_33
                                    refine lv_aload_n hx hb d_Mo_write_174 rfl (lv_at hl 0 rfl) ?_
                                    refine va_get (D := (dC, dI)) (ci := 5) (v := .ref mb) (C := "LongNamesModel") (T := F_Mo) (N := 5) hx hb hts (iw_Mo _) hown hK hP 0 rfl rfl 3 (by decide) (hts _ (List.mem_cons_of_mem _ k_525)) (fun _ h9 => h9) rfl d_Mo_write_175 ?_
                                    refine lv_iload hx hb d_Mo_write_178 (lv_at hl 6 rfl) ?_
                                    refine lv_iload hx hb d_Mo_write_180 (lv_at hl 7 rfl) ?_
                                    refine lv_iadd hx hb d_Mo_write_182 ?_
                                    refine mk_ti (y := nI (32 * (q + pnN (Z r)) + i2)) (nI_add (32 * (q + pnN (Z r))) i2) ?_
                                    refine lv_aload_n hx hb d_Mo_write_183 rfl (lv_at hl 0 rfl) ?_
                                    refine va_get (D := (dC, dI)) (ci := 5) (v := .ref mr) (C := "LongNamesModel") (T := F_Mo) (N := 5) hx hb hts (iw_Mo _) hown hK hP 0 rfl rfl 4 (by decide) (hts _ (List.mem_cons_of_mem _ k_526)) (fun _ h9 => h9) rfl d_Mo_write_184 ?_
                                    refine lv_iload hx hb d_Mo_write_187 (lv_at hl 7 rfl) ?_
                                    refine va_iald hx hb hK hP 4 0 rfl rfl (vp_in_nI (N := 11) (show i2 < 11 by omega) (by decide)) d_Mo_write_189 ?_
                                    refine mk_ti (y := nI ((tdN (rv U r) (Z r) t b) i2)) (by rw [nI_clamp (by omega)]; rfl) ?_
                                    refine va_iast hx hb hK hP hD hS 3 0 rfl rfl (vp_in_nI (N := 1024) (show 32 * (q + pnN (Z r)) + i2 < 1024 by omega) (by decide)) d_Mo_write_190 (fun H locs hP hD hS => ?_)
                                    rw [nI_clamp (by omega), nf_up] at hP hD
                                    have hP : va_P (dC, dI) vwCl [(m0, .inr (5, [.int (nI 0), .ref mu, .ref mz, .ref mb, .ref mr])), (mu, .inl (cI, 510, .inl (nf U))), (mz, .inl (cI, 2, .inl (nf Z))), (mb, .inl (cI, 1024, .inl (nf (uN (stN (stN B (fun _ => 0) (32 * q) (32 * (pnN (Z r)) + 32)) (tdN (rv U r) (Z r) t b) (32 * (q + pnN (Z r))) i2) (32 * (q + pnN (Z r)) + i2) ((tdN (rv U r) (Z r) t b) i2))))), (mr, .inl (cI, 11, .inl (nf (tdN (rv U r) (Z r) t b))))] H := hP
                                    have hD : va_D A [(m0, .inr (5, [.int (nI 0), .ref mu, .ref mz, .ref mb, .ref mr])), (mu, .inl (cI, 510, .inl (nf U))), (mz, .inl (cI, 2, .inl (nf Z))), (mb, .inl (cI, 1024, .inl (nf (uN (stN (stN B (fun _ => 0) (32 * q) (32 * (pnN (Z r)) + 32)) (tdN (rv U r) (Z r) t b) (32 * (q + pnN (Z r))) i2) (32 * (q + pnN (Z r)) + i2) ((tdN (rv U r) (Z r) t b) i2))))), (mr, .inl (cI, 11, .inl (nf (tdN (rv U r) (Z r) t b))))] := hD
                                    refine lv_iinc (v := nI (i2 + 1)) (lv' := [(7, .int (nI (i2 + 1))), (0, .ref m0), (1, .int (nI r)), (2, .int (nI q)), (3, .int (nI t)), (4, .int (nI (Z r))), (5, .int (nI (pnN (Z r)))), (6, .int (nI (32 * (q + pnN (Z r)))))]) hx hb d_Mo_write_191 hl (k := 7) rfl (mk_i1 i2) (by decide) rfl (fun ls hl => ?_)
                                    refine lv_goto (tgt := 167) hx hb d_Mo_write_194 (by decide) ?_
                                    have hl : lv_has ls 12 [(0, .ref m0), (1, .int (nI r)), (2, .int (nI q)), (3, .int (nI t)), (4, .int (nI (Z r))), (5, .int (nI (pnN (Z r)))), (6, .int (nI (32 * (q + pnN (Z r))))), (7, .int (nI (i2 + 1)))] := lv_sub hl [1, 2, 3, 4, 5, 6, 7, 0] rfl
                                    have hw9 : ([(m0, .inr (5, [.int (nI 0), .ref mu, .ref mz, .ref mb, .ref mr])), (mu, .inl (cI, 510, .inl (nf U))), (mz, .inl (cI, 2, .inl (nf Z))), (mb, .inl (cI, 1024, .inl (nf (uN (stN (stN B (fun _ => 0) (32 * q) (32 * (pnN (Z r)) + 32)) (tdN (rv U r) (Z r) t b) (32 * (q + pnN (Z r))) i2) (32 * (q + pnN (Z r)) + i2) ((tdN (rv U r) (Z r) t b) i2))))), (mr, .inl (cI, 11, .inl (nf (tdN (rv U r) (Z r) t b))))] : va_W) = [(m0, .inr (5, [.int (nI 0), .ref mu, .ref mz, .ref mb, .ref mr])), (mu, .inl (cI, 510, .inl (nf U))), (mz, .inl (cI, 2, .inl (nf Z))), (mb, .inl (cI, 1024, .inl (nf (stN (stN B (fun _ => 0) (32 * q) (32 * (pnN (Z r)) + 32)) (tdN (rv U r) (Z r) t b) (32 * (q + pnN (Z r))) (i2 + 1))))), (mr, .inl (cI, 11, .inl (nf (tdN (rv U r) (Z r) t b))))] := by rw [stN_s (by rfl)]
                                    rw [hw9] at hP hD
                                    exact ih167 (i2 + 1) _ _ _ (by omega) hP hD hS hl
                              have hl : lv_has ls 12 [(0, .ref m0), (1, .int (nI r)), (2, .int (nI q)), (3, .int (nI t)), (4, .int (nI (Z r))), (5, .int (nI (pnN (Z r)))), (6, .int (nI (32 * (q + pnN (Z r))))), (7, .int (nI 0))] := lv_sub hl [2, 3, 4, 5, 6, 7, 1, 0] rfl
                              have hw9 : ([(m0, .inr (5, [.int (nI 0), .ref mu, .ref mz, .ref mb, .ref mr])), (mu, .inl (cI, 510, .inl (nf U))), (mz, .inl (cI, 2, .inl (nf Z))), (mb, .inl (cI, 1024, .inl (nf (stN B (fun _ => 0) (32 * q) i)))), (mr, .inl (cI, 11, .inl (nf (tdN (rv U r) (Z r) t b))))] : va_W) = [(m0, .inr (5, [.int (nI 0), .ref mu, .ref mz, .ref mb, .ref mr])), (mu, .inl (cI, 510, .inl (nf U))), (mz, .inl (cI, 2, .inl (nf Z))), (mb, .inl (cI, 1024, .inl (nf (stN (stN B (fun _ => 0) (32 * q) (32 * (pnN (Z r)) + 32)) (tdN (rv U r) (Z r) t b) (32 * (q + pnN (Z r))) 0)))), (mr, .inl (cI, 11, .inl (nf (tdN (rv U r) (Z r) t b))))] := by rw [show i = 32 * (pnN (Z r)) + 32 by omega, stN_0]
                              rw [hw9] at hP hD
                              exact lp167 11 0 _ _ _ rfl hP hD hS hl
                            · skip
                              rw [nI_leI (by omega) (by omega)] at c_13
                              first | omega | contradiction
                          | succ k ih123 =>
                            intro i H locs ls hi hP hD hS hl
                            refine lv_iload hx hb d_Mo_write_123 (lv_at hl 6 rfl) ?_
                            refine lv_bipush (v := nI 32) hx hb d_Mo_write_125 (by decide) ?_
                            refine lv_iload hx hb d_Mo_write_127 (lv_at hl 5 rfl) ?_
                            refine lv_imul hx hb d_Mo_write_129 ?_
                            refine mk_ti (y := nI (32 * (pnN (Z r)))) (pk_mul 32 (pnN (Z r))) ?_
                            refine lv_bipush (v := nI 32) hx hb d_Mo_write_130 (by decide) ?_
                            refine lv_iadd hx hb d_Mo_write_132 ?_
                            refine mk_ti (y := nI (32 * (pnN (Z r)) + 32)) (nI_add (32 * (pnN (Z r))) 32) ?_
                            refine lv_icmp_ge (tgt := 155) hx hb d_Mo_write_133 (by decide) (fun c_34 => ?_) (fun c_34 => ?_)
                            · skip
                              rw [nI_leI (by omega) (by omega)] at c_34
                              first | omega | contradiction
                            · skip
                              rw [nI_leI (by omega) (by omega)] at c_34
                              refine lv_aload_n hx hb d_Mo_write_136 rfl (lv_at hl 0 rfl) ?_
                              refine va_get (D := (dC, dI)) (ci := 5) (v := .ref mb) (C := "LongNamesModel") (T := F_Mo) (N := 5) hx hb hts (iw_Mo _) hown hK hP 0 rfl rfl 3 (by decide) (hts _ (List.mem_cons_of_mem _ k_525)) (fun _ h9 => h9) rfl d_Mo_write_137 ?_
                              refine lv_bipush (v := nI 32) hx hb d_Mo_write_140 (by decide) ?_
                              refine lv_iload_n hx hb d_Mo_write_142 rfl (lv_at hl 2 rfl) ?_
                              refine lv_imul hx hb d_Mo_write_143 ?_
                              refine mk_ti (y := nI (32 * q)) (pk_mul 32 q) ?_
                              refine lv_iload hx hb d_Mo_write_144 (lv_at hl 6 rfl) ?_
                              refine lv_iadd hx hb d_Mo_write_146 ?_
                              refine mk_ti (y := nI (32 * q + i)) (nI_add (32 * q) i) ?_
                              refine lv_iconst (v := nI 0) hx hb d_Mo_write_147 (by decide) ?_
                              refine va_iast hx hb hK hP hD hS 3 0 rfl rfl (vp_in_nI (N := 1024) (show 32 * q + i < 1024 by omega) (by decide)) d_Mo_write_148 (fun H locs hP hD hS => ?_)
                              rw [nI_clamp (by omega), nf_up] at hP hD
                              have hP : va_P (dC, dI) vwCl [(m0, .inr (5, [.int (nI 0), .ref mu, .ref mz, .ref mb, .ref mr])), (mu, .inl (cI, 510, .inl (nf U))), (mz, .inl (cI, 2, .inl (nf Z))), (mb, .inl (cI, 1024, .inl (nf (uN (stN B (fun _ => 0) (32 * q) i) (32 * q + i) 0)))), (mr, .inl (cI, 11, .inl (nf (tdN (rv U r) (Z r) t b))))] H := hP
                              have hD : va_D A [(m0, .inr (5, [.int (nI 0), .ref mu, .ref mz, .ref mb, .ref mr])), (mu, .inl (cI, 510, .inl (nf U))), (mz, .inl (cI, 2, .inl (nf Z))), (mb, .inl (cI, 1024, .inl (nf (uN (stN B (fun _ => 0) (32 * q) i) (32 * q + i) 0)))), (mr, .inl (cI, 11, .inl (nf (tdN (rv U r) (Z r) t b))))] := hD
                              refine lv_iinc (v := nI (i + 1)) (lv' := [(6, .int (nI (i + 1))), (0, .ref m0), (1, .int (nI r)), (2, .int (nI q)), (3, .int (nI t)), (4, .int (nI (Z r))), (5, .int (nI (pnN (Z r))))]) hx hb d_Mo_write_149 hl (k := 6) rfl (mk_i1 i) (by decide) rfl (fun ls hl => ?_)
                              refine lv_goto (tgt := 123) hx hb d_Mo_write_152 (by decide) ?_
                              have hl : lv_has ls 12 [(0, .ref m0), (1, .int (nI r)), (2, .int (nI q)), (3, .int (nI t)), (4, .int (nI (Z r))), (5, .int (nI (pnN (Z r)))), (6, .int (nI (i + 1)))] := lv_sub hl [1, 2, 3, 4, 5, 6, 0] rfl
                              have hw9 : ([(m0, .inr (5, [.int (nI 0), .ref mu, .ref mz, .ref mb, .ref mr])), (mu, .inl (cI, 510, .inl (nf U))), (mz, .inl (cI, 2, .inl (nf Z))), (mb, .inl (cI, 1024, .inl (nf (uN (stN B (fun _ => 0) (32 * q) i) (32 * q + i) 0)))), (mr, .inl (cI, 11, .inl (nf (tdN (rv U r) (Z r) t b))))] : va_W) = [(m0, .inr (5, [.int (nI 0), .ref mu, .ref mz, .ref mb, .ref mr])), (mu, .inl (cI, 510, .inl (nf U))), (mz, .inl (cI, 2, .inl (nf Z))), (mb, .inl (cI, 1024, .inl (nf (stN B (fun _ => 0) (32 * q) (i + 1))))), (mr, .inl (cI, 11, .inl (nf (tdN (rv U r) (Z r) t b))))] := by rw [stN_s (by rfl)]
                              rw [hw9] at hP hD
                              exact ih123 (i + 1) _ _ _ (by omega) hP hD hS hl
                        have hl : lv_has ls 12 [(0, .ref m0), (1, .int (nI r)), (2, .int (nI q)), (3, .int (nI t)), (4, .int (nI (Z r))), (5, .int (nI (pnN (Z r)))), (6, .int (nI 0))] := lv_sub hl [3, 4, 5, 6, 2, 1, 0] rfl
                        have hw9 : ([(m0, .inr (5, [.int (nI 0), .ref mu, .ref mz, .ref mb, .ref mr])), (mu, .inl (cI, 510, .inl (nf U))), (mz, .inl (cI, 2, .inl (nf Z))), (mb, .inl (cI, 1024, .inl (nf B))), (mr, .inl (cI, 11, .inl (nf (tdN (rv U r) (Z r) t b))))] : va_W) = [(m0, .inr (5, [.int (nI 0), .ref mu, .ref mz, .ref mb, .ref mr])), (mu, .inl (cI, 510, .inl (nf U))), (mz, .inl (cI, 2, .inl (nf Z))), (mb, .inl (cI, 1024, .inl (nf (stN B (fun _ => 0) (32 * q) 0)))), (mr, .inl (cI, 11, .inl (nf (tdN (rv U r) (Z r) t b))))] := by rw [stN_0]
                        rw [hw9] at hP hD
                        exact lp123 (32 * (pnN (Z r)) + 32) 0 _ _ _ (by omega) hP hD hS hl
                    · skip
                      rw [mk_cle (by omega)] at c_11
                      first | omega | contradiction
                  · skip
                    rw [nI_leI (by omega) (by omega)] at c_10
                    first | omega | contradiction
              · skip
                rw [mk_ceq (by omega)] at c_7
                first | omega | contradiction
            · skip
              rw [mk_cle (by omega)] at c_6
              first | omega | contradiction
          · skip
            rw [mk_ceq (by omega)] at c_5
            first | omega | contradiction

