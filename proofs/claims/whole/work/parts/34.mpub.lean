set_option maxHeartbeats 1000000 in
set_option maxRecDepth 100000 in
theorem c_Mo_unit (l : Launch) (dC : Nat → ClassId) (dI : Nat → Nat → Nat) (cI : ClassId) (m0 : Nat) (th : Int32) (mu mz mb mr : Nat) (U Z B b : Nat → Nat) (r u : Nat) (hU : ∀ j, U j < 65536) (hZ : ∀ j, Z j ≤ 255) (hB : ∀ j, B j < 65536) (hb9 : ∀ j, b j < 65536) (hr : r < 2) (hu : u < 65536) (hf : Z r < 255) : mM l y_Mo_unit w_Mo_unit ({ frames := 1, cells := 0, slots := 0, locals := 20 } : Room) [.ref m0, .int (nI r), .int (nI u)] (dC, dI) vwCl [(cI, .int)] [(m0, .inr (5, [.int th, .ref mu, .ref mz, .ref mb, .ref mr])), (mu, .inl (cI, 510, .inl (nf U))), (mz, .inl (cI, 2, .inl (nf Z))), (mb, .inl (cI, 1024, .inl (nf B))), (mr, .inl (cI, 11, .inl (nf b)))] (some (.int (nI 1))) [(m0, .inr (5, [.int (nI 0), .ref mu, .ref mz, .ref mb, .ref mr])), (mu, .inl (cI, 510, .inl (nf (uN U (255 * r + Z r) u)))), (mz, .inl (cI, 2, .inl (nf (uN Z r (Z r + 1))))), (mb, .inl (cI, 1024, .inl (nf B))), (mr, .inl (cI, 11, .inl (nf b)))] := by
  have hZr := hZ r
  refine mk_Mi (cc := b_Mo_unit) (maxL := 3) (by decide) rfl (Nat.le_of_ble_eq_true rfl) (rfl) ?_
  intro p e s m below meth c Q A ls S hP hK hT hS hl hD hA hret
  obtain ⟨hx, hb, hml, hown, hts⟩ := id S
  have hl : lv_has ls 3 [(0, .ref m0), (1, .int (nI r)), (2, .int (nI u))] := hl
  refine lv_aload_n hx hb d_Mo_unit_0 rfl (lv_at hl 0 rfl) ?_
  refine lv_iconst (v := nI 0) hx hb d_Mo_unit_1 (by decide) ?_
  refine va_put (D := (dC, dI)) (ci := 5) (v := .int (nI 0)) (ty := .int) (C := "LongNamesModel") (T := F_Mo) (N := 5) hx hb hts (iw_Mo _) t_Mo t_Mo_ok n_Mo hown hK hP hD hS 0 rfl rfl 0 (by decide) (hts _ (List.mem_cons_of_mem _ k_522)) (fun _ h9 => h9) rfl (by decide +kernel) rfl rfl (Nat.le_of_ble_eq_true rfl) d_Mo_unit_2 (fun H locs hP hD hS => ?_)
  have hP : va_P (dC, dI) vwCl [(m0, .inr (5, [.int (nI 0), .ref mu, .ref mz, .ref mb, .ref mr])), (mu, .inl (cI, 510, .inl (nf U))), (mz, .inl (cI, 2, .inl (nf Z))), (mb, .inl (cI, 1024, .inl (nf B))), (mr, .inl (cI, 11, .inl (nf b)))] H := hP
  have hD : va_D A [(m0, .inr (5, [.int (nI 0), .ref mu, .ref mz, .ref mb, .ref mr])), (mu, .inl (cI, 510, .inl (nf U))), (mz, .inl (cI, 2, .inl (nf Z))), (mb, .inl (cI, 1024, .inl (nf B))), (mr, .inl (cI, 11, .inl (nf b)))] := hD
  refine lv_iload_n hx hb d_Mo_unit_5 rfl (lv_at hl 1 rfl) ?_
  refine mk_r1 (W.runS (As := [.int (nI r)]) (rest := []) S (c_Mo_rowN l dC dI cI r (by first | assumption | omega)) (gS 1 hts k_546 k_547 k_29 k_548 (by decide +kernel) ⟨Nat.le_of_ble_eq_true rfl, Nat.le_of_ble_eq_true rfl⟩) (mk_sR hP hK hT hS [] rfl) rfl rfl hl.1 rfl (lv_room (Nat.le_of_ble_eq_true rfl)) d_Mo_unit_6 ⟨Nat.zero_le _, Nat.zero_le _⟩) ?_
  refine lv_if_eq (tgt := 34) hx hb d_Mo_unit_9 (by decide) (fun c_1 => ?_) (fun c_1 => ?_)
  · skip
    rw [mk_ceq (by omega)] at c_1
    first | omega | contradiction
  · skip
    rw [mk_ceq (by omega)] at c_1
    refine lv_iload_n hx hb d_Mo_unit_12 rfl (lv_at hl 2 rfl) ?_
    refine lv_if_lt (tgt := 34) hx hb d_Mo_unit_13 (by decide) (fun c_2 => ?_) (fun c_2 => ?_)
    · skip
      rw [mk_clt (by omega)] at c_2
      first | omega | contradiction
    · skip
      rw [mk_clt (by omega)] at c_2
      refine lv_iload_n hx hb d_Mo_unit_16 rfl (lv_at hl 2 rfl) ?_
      refine lv_ldc (v := nI 65535) hx hb hown (hts _ (List.mem_cons_of_mem _ k_549)) d_Mo_unit_17 ?_
      refine lv_icmp_gt (tgt := 34) hx hb d_Mo_unit_19 (by decide) (fun c_3 => ?_) (fun c_3 => ?_)
      · skip
        rw [nI_ltI (by omega) (by omega)] at c_3
        first | omega | contradiction
      · skip
        rw [nI_ltI (by omega) (by omega)] at c_3
        refine lv_aload_n hx hb d_Mo_unit_22 rfl (lv_at hl 0 rfl) ?_
        refine va_get (D := (dC, dI)) (ci := 5) (v := .ref mz) (C := "LongNamesModel") (T := F_Mo) (N := 5) hx hb hts (iw_Mo _) hown hK hP 0 rfl rfl 2 (by decide) (hts _ (List.mem_cons_of_mem _ k_524)) (fun _ h9 => h9) rfl d_Mo_unit_23 ?_
        refine lv_iload_n hx hb d_Mo_unit_26 rfl (lv_at hl 1 rfl) ?_
        refine va_iald hx hb hK hP 2 0 rfl rfl (vp_in_nI (N := 2) (show r < 2 by omega) (by decide)) d_Mo_unit_27 ?_
        refine mk_ti (y := nI (Z r)) (by rw [nI_clamp (by omega)]; rfl) ?_
        refine lv_sipush (v := nI 255) hx hb d_Mo_unit_28 (by decide) ?_
        refine lv_icmp_ne (tgt := 36) hx hb d_Mo_unit_31 (by decide) (fun c_4 => ?_) (fun c_4 => ?_)
        · skip
          rw [nI_eq (by omega) (by omega)] at c_4
          refine lv_aload_n hx hb d_Mo_unit_36 rfl (lv_at hl 0 rfl) ?_
          refine va_get (D := (dC, dI)) (ci := 5) (v := .ref mu) (C := "LongNamesModel") (T := F_Mo) (N := 5) hx hb hts (iw_Mo _) hown hK hP 0 rfl rfl 1 (by decide) (hts _ (List.mem_cons_of_mem _ k_523)) (fun _ h9 => h9) rfl d_Mo_unit_37 ?_
          refine lv_sipush (v := nI 255) hx hb d_Mo_unit_40 (by decide) ?_
          refine lv_iload_n hx hb d_Mo_unit_43 rfl (lv_at hl 1 rfl) ?_
          refine lv_imul hx hb d_Mo_unit_44 ?_
          refine mk_ti (y := nI (255 * r)) (pk_mul 255 r) ?_
          refine lv_aload_n hx hb d_Mo_unit_45 rfl (lv_at hl 0 rfl) ?_
          refine va_get (D := (dC, dI)) (ci := 5) (v := .ref mz) (C := "LongNamesModel") (T := F_Mo) (N := 5) hx hb hts (iw_Mo _) hown hK hP 0 rfl rfl 2 (by decide) (hts _ (List.mem_cons_of_mem _ k_524)) (fun _ h9 => h9) rfl d_Mo_unit_46 ?_
          refine lv_iload_n hx hb d_Mo_unit_49 rfl (lv_at hl 1 rfl) ?_
          refine va_iald hx hb hK hP 2 0 rfl rfl (vp_in_nI (N := 2) (show r < 2 by omega) (by decide)) d_Mo_unit_50 ?_
          refine mk_ti (y := nI (Z r)) (by rw [nI_clamp (by omega)]; rfl) ?_
          refine lv_iadd hx hb d_Mo_unit_51 ?_
          refine mk_ti (y := nI (255 * r + Z r)) (nI_add (255 * r) (Z r)) ?_
          refine lv_iload_n hx hb d_Mo_unit_52 rfl (lv_at hl 2 rfl) ?_
          refine va_iast hx hb hK hP hD hS 1 0 rfl rfl (vp_in_nI (N := 510) (show 255 * r + Z r < 510 by omega) (by decide)) d_Mo_unit_53 (fun H locs hP hD hS => ?_)
          rw [nI_clamp (by omega), nf_up] at hP hD
          have hP : va_P (dC, dI) vwCl [(m0, .inr (5, [.int (nI 0), .ref mu, .ref mz, .ref mb, .ref mr])), (mu, .inl (cI, 510, .inl (nf (uN U (255 * r + Z r) u)))), (mz, .inl (cI, 2, .inl (nf Z))), (mb, .inl (cI, 1024, .inl (nf B))), (mr, .inl (cI, 11, .inl (nf b)))] H := hP
          have hD : va_D A [(m0, .inr (5, [.int (nI 0), .ref mu, .ref mz, .ref mb, .ref mr])), (mu, .inl (cI, 510, .inl (nf (uN U (255 * r + Z r) u)))), (mz, .inl (cI, 2, .inl (nf Z))), (mb, .inl (cI, 1024, .inl (nf B))), (mr, .inl (cI, 11, .inl (nf b)))] := hD
          refine lv_aload_n hx hb d_Mo_unit_54 rfl (lv_at hl 0 rfl) ?_
          refine va_get (D := (dC, dI)) (ci := 5) (v := .ref mz) (C := "LongNamesModel") (T := F_Mo) (N := 5) hx hb hts (iw_Mo _) hown hK hP 0 rfl rfl 2 (by decide) (hts _ (List.mem_cons_of_mem _ k_524)) (fun _ h9 => h9) rfl d_Mo_unit_55 ?_
          refine lv_iload_n hx hb d_Mo_unit_58 rfl (lv_at hl 1 rfl) ?_
          refine lv_dup2_11 hx hb d_Mo_unit_59 rfl rfl ?_
          refine va_iald hx hb hK hP 2 0 rfl rfl (vp_in_nI (N := 2) (show r < 2 by omega) (by decide)) d_Mo_unit_60 ?_
          refine mk_ti (y := nI (Z r)) (by rw [nI_clamp (by omega)]; rfl) ?_
          refine lv_iconst (v := nI 1) hx hb d_Mo_unit_61 (by decide) ?_
          refine lv_iadd hx hb d_Mo_unit_62 ?_
          refine mk_ti (y := nI (Z r + 1)) (nI_add (Z r) 1) ?_
          refine va_iast hx hb hK hP hD hS 2 0 rfl rfl (vp_in_nI (N := 2) (show r < 2 by omega) (by decide)) d_Mo_unit_63 (fun H locs hP hD hS => ?_)
          rw [nI_clamp (by omega), nf_up] at hP hD
          have hP : va_P (dC, dI) vwCl [(m0, .inr (5, [.int (nI 0), .ref mu, .ref mz, .ref mb, .ref mr])), (mu, .inl (cI, 510, .inl (nf (uN U (255 * r + Z r) u)))), (mz, .inl (cI, 2, .inl (nf (uN Z r (Z r + 1))))), (mb, .inl (cI, 1024, .inl (nf B))), (mr, .inl (cI, 11, .inl (nf b)))] H := hP
          have hD : va_D A [(m0, .inr (5, [.int (nI 0), .ref mu, .ref mz, .ref mb, .ref mr])), (mu, .inl (cI, 510, .inl (nf (uN U (255 * r + Z r) u)))), (mz, .inl (cI, 2, .inl (nf (uN Z r (Z r + 1))))), (mb, .inl (cI, 1024, .inl (nf B))), (mr, .inl (cI, 11, .inl (nf b)))] := hD
          refine lv_iconst (v := nI 1) hx hb d_Mo_unit_64 (by decide) ?_
          exact hret _ _ _ _ d_Mo_unit_65 hP hD hS
        · skip
          rw [nI_eq (by omega) (by omega)] at c_4
          first | omega | contradiction

set_option maxHeartbeats 1000000 in
set_option maxRecDepth 100000 in
theorem c_Mo_unitf (l : Launch) (dC : Nat → ClassId) (dI : Nat → Nat → Nat) (cI : ClassId) (m0 : Nat) (th : Int32) (mu mz mb mr : Nat) (U Z B b : Nat → Nat) (r u : Nat) (hU : ∀ j, U j < 65536) (hZ : ∀ j, Z j ≤ 255) (hB : ∀ j, B j < 65536) (hb9 : ∀ j, b j < 65536) (hr : r < 2) (hu : u < 65536) (hf : Z r = 255) : mM l y_Mo_unit w_Mo_unit ({ frames := 1, cells := 0, slots := 0, locals := 20 } : Room) [.ref m0, .int (nI r), .int (nI u)] (dC, dI) vwCl [(cI, .int)] [(m0, .inr (5, [.int th, .ref mu, .ref mz, .ref mb, .ref mr])), (mu, .inl (cI, 510, .inl (nf U))), (mz, .inl (cI, 2, .inl (nf Z))), (mb, .inl (cI, 1024, .inl (nf B))), (mr, .inl (cI, 11, .inl (nf b)))] (some (.int (nI 0))) [(m0, .inr (5, [.int (nI 0), .ref mu, .ref mz, .ref mb, .ref mr])), (mu, .inl (cI, 510, .inl (nf U))), (mz, .inl (cI, 2, .inl (nf Z))), (mb, .inl (cI, 1024, .inl (nf B))), (mr, .inl (cI, 11, .inl (nf b)))] := by
  have hZr := hZ r
  refine mk_Mi (cc := b_Mo_unit) (maxL := 3) (by decide) rfl (Nat.le_of_ble_eq_true rfl) (rfl) ?_
  intro p e s m below meth c Q A ls S hP hK hT hS hl hD hA hret
  obtain ⟨hx, hb, hml, hown, hts⟩ := id S
  have hl : lv_has ls 3 [(0, .ref m0), (1, .int (nI r)), (2, .int (nI u))] := hl
  refine lv_aload_n hx hb d_Mo_unit_0 rfl (lv_at hl 0 rfl) ?_
  refine lv_iconst (v := nI 0) hx hb d_Mo_unit_1 (by decide) ?_
  refine va_put (D := (dC, dI)) (ci := 5) (v := .int (nI 0)) (ty := .int) (C := "LongNamesModel") (T := F_Mo) (N := 5) hx hb hts (iw_Mo _) t_Mo t_Mo_ok n_Mo hown hK hP hD hS 0 rfl rfl 0 (by decide) (hts _ (List.mem_cons_of_mem _ k_522)) (fun _ h9 => h9) rfl (by decide +kernel) rfl rfl (Nat.le_of_ble_eq_true rfl) d_Mo_unit_2 (fun H locs hP hD hS => ?_)
  have hP : va_P (dC, dI) vwCl [(m0, .inr (5, [.int (nI 0), .ref mu, .ref mz, .ref mb, .ref mr])), (mu, .inl (cI, 510, .inl (nf U))), (mz, .inl (cI, 2, .inl (nf Z))), (mb, .inl (cI, 1024, .inl (nf B))), (mr, .inl (cI, 11, .inl (nf b)))] H := hP
  have hD : va_D A [(m0, .inr (5, [.int (nI 0), .ref mu, .ref mz, .ref mb, .ref mr])), (mu, .inl (cI, 510, .inl (nf U))), (mz, .inl (cI, 2, .inl (nf Z))), (mb, .inl (cI, 1024, .inl (nf B))), (mr, .inl (cI, 11, .inl (nf b)))] := hD
  refine lv_iload_n hx hb d_Mo_unit_5 rfl (lv_at hl 1 rfl) ?_
  refine mk_r1 (W.runS (As := [.int (nI r)]) (rest := []) S (c_Mo_rowN l dC dI cI r (by first | assumption | omega)) (gS 1 hts k_546 k_547 k_29 k_548 (by decide +kernel) ⟨Nat.le_of_ble_eq_true rfl, Nat.le_of_ble_eq_true rfl⟩) (mk_sR hP hK hT hS [] rfl) rfl rfl hl.1 rfl (lv_room (Nat.le_of_ble_eq_true rfl)) d_Mo_unit_6 ⟨Nat.zero_le _, Nat.zero_le _⟩) ?_
  refine lv_if_eq (tgt := 34) hx hb d_Mo_unit_9 (by decide) (fun c_1 => ?_) (fun c_1 => ?_)
  · skip
    rw [mk_ceq (by omega)] at c_1
    first | omega | contradiction
  · skip
    rw [mk_ceq (by omega)] at c_1
    refine lv_iload_n hx hb d_Mo_unit_12 rfl (lv_at hl 2 rfl) ?_
    refine lv_if_lt (tgt := 34) hx hb d_Mo_unit_13 (by decide) (fun c_2 => ?_) (fun c_2 => ?_)
    · skip
      rw [mk_clt (by omega)] at c_2
      first | omega | contradiction
    · skip
      rw [mk_clt (by omega)] at c_2
      refine lv_iload_n hx hb d_Mo_unit_16 rfl (lv_at hl 2 rfl) ?_
      refine lv_ldc (v := nI 65535) hx hb hown (hts _ (List.mem_cons_of_mem _ k_549)) d_Mo_unit_17 ?_
      refine lv_icmp_gt (tgt := 34) hx hb d_Mo_unit_19 (by decide) (fun c_3 => ?_) (fun c_3 => ?_)
      · skip
        rw [nI_ltI (by omega) (by omega)] at c_3
        first | omega | contradiction
      · skip
        rw [nI_ltI (by omega) (by omega)] at c_3
        refine lv_aload_n hx hb d_Mo_unit_22 rfl (lv_at hl 0 rfl) ?_
        refine va_get (D := (dC, dI)) (ci := 5) (v := .ref mz) (C := "LongNamesModel") (T := F_Mo) (N := 5) hx hb hts (iw_Mo _) hown hK hP 0 rfl rfl 2 (by decide) (hts _ (List.mem_cons_of_mem _ k_524)) (fun _ h9 => h9) rfl d_Mo_unit_23 ?_
        refine lv_iload_n hx hb d_Mo_unit_26 rfl (lv_at hl 1 rfl) ?_
        refine va_iald hx hb hK hP 2 0 rfl rfl (vp_in_nI (N := 2) (show r < 2 by omega) (by decide)) d_Mo_unit_27 ?_
        refine mk_ti (y := nI (Z r)) (by rw [nI_clamp (by omega)]; rfl) ?_
        refine lv_sipush (v := nI 255) hx hb d_Mo_unit_28 (by decide) ?_
        refine lv_icmp_ne (tgt := 36) hx hb d_Mo_unit_31 (by decide) (fun c_4 => ?_) (fun c_4 => ?_)
        · skip
          rw [nI_eq (by omega) (by omega)] at c_4
          first | omega | contradiction
        · skip
          rw [nI_eq (by omega) (by omega)] at c_4
          refine lv_iconst (v := nI 0) hx hb d_Mo_unit_34 (by decide) ?_
          exact hret _ _ _ _ d_Mo_unit_35 hP hD hS

set_option maxHeartbeats 1000000 in
set_option maxRecDepth 100000 in
theorem c_Mo_unitb (l : Launch) (dC : Nat → ClassId) (dI : Nat → Nat → Nat) (cI : ClassId) (m0 : Nat) (th : Int32) (mu mz mb mr : Nat) (U Z B b : Nat → Nat) (r : Nat) (u : Int32) (hU : ∀ j, U j < 65536) (hZ : ∀ j, Z j ≤ 255) (hB : ∀ j, B j < 65536) (hb9 : ∀ j, b j < 65536) (hr : r < 2) (hu : u < 0 ∨ ¬ u ≤ nI 65535) : mM l y_Mo_unit w_Mo_unit ({ frames := 1, cells := 0, slots := 0, locals := 20 } : Room) [.ref m0, .int (nI r), .int u] (dC, dI) vwCl [(cI, .int)] [(m0, .inr (5, [.int th, .ref mu, .ref mz, .ref mb, .ref mr])), (mu, .inl (cI, 510, .inl (nf U))), (mz, .inl (cI, 2, .inl (nf Z))), (mb, .inl (cI, 1024, .inl (nf B))), (mr, .inl (cI, 11, .inl (nf b)))] (some (.int (nI 0))) [(m0, .inr (5, [.int (nI 0), .ref mu, .ref mz, .ref mb, .ref mr])), (mu, .inl (cI, 510, .inl (nf U))), (mz, .inl (cI, 2, .inl (nf Z))), (mb, .inl (cI, 1024, .inl (nf B))), (mr, .inl (cI, 11, .inl (nf b)))] := by
  have hZr := hZ r
  refine mk_Mi (cc := b_Mo_unit) (maxL := 3) (by decide) rfl (Nat.le_of_ble_eq_true rfl) (rfl) ?_
  intro p e s m below meth c Q A ls S hP hK hT hS hl hD hA hret
  obtain ⟨hx, hb, hml, hown, hts⟩ := id S
  have hl : lv_has ls 3 [(0, .ref m0), (1, .int (nI r)), (2, .int u)] := hl
  refine lv_aload_n hx hb d_Mo_unit_0 rfl (lv_at hl 0 rfl) ?_
  refine lv_iconst (v := nI 0) hx hb d_Mo_unit_1 (by decide) ?_
  refine va_put (D := (dC, dI)) (ci := 5) (v := .int (nI 0)) (ty := .int) (C := "LongNamesModel") (T := F_Mo) (N := 5) hx hb hts (iw_Mo _) t_Mo t_Mo_ok n_Mo hown hK hP hD hS 0 rfl rfl 0 (by decide) (hts _ (List.mem_cons_of_mem _ k_522)) (fun _ h9 => h9) rfl (by decide +kernel) rfl rfl (Nat.le_of_ble_eq_true rfl) d_Mo_unit_2 (fun H locs hP hD hS => ?_)
  have hP : va_P (dC, dI) vwCl [(m0, .inr (5, [.int (nI 0), .ref mu, .ref mz, .ref mb, .ref mr])), (mu, .inl (cI, 510, .inl (nf U))), (mz, .inl (cI, 2, .inl (nf Z))), (mb, .inl (cI, 1024, .inl (nf B))), (mr, .inl (cI, 11, .inl (nf b)))] H := hP
  have hD : va_D A [(m0, .inr (5, [.int (nI 0), .ref mu, .ref mz, .ref mb, .ref mr])), (mu, .inl (cI, 510, .inl (nf U))), (mz, .inl (cI, 2, .inl (nf Z))), (mb, .inl (cI, 1024, .inl (nf B))), (mr, .inl (cI, 11, .inl (nf b)))] := hD
  refine lv_iload_n hx hb d_Mo_unit_5 rfl (lv_at hl 1 rfl) ?_
  refine mk_r1 (W.runS (As := [.int (nI r)]) (rest := []) S (c_Mo_rowN l dC dI cI r (by first | assumption | omega)) (gS 1 hts k_546 k_547 k_29 k_548 (by decide +kernel) ⟨Nat.le_of_ble_eq_true rfl, Nat.le_of_ble_eq_true rfl⟩) (mk_sR hP hK hT hS [] rfl) rfl rfl hl.1 rfl (lv_room (Nat.le_of_ble_eq_true rfl)) d_Mo_unit_6 ⟨Nat.zero_le _, Nat.zero_le _⟩) ?_
  refine lv_if_eq (tgt := 34) hx hb d_Mo_unit_9 (by decide) (fun c_1 => ?_) (fun c_1 => ?_)
  · skip
    rw [mk_ceq (by omega)] at c_1
    first | omega | contradiction
  · skip
    rw [mk_ceq (by omega)] at c_1
    refine lv_iload_n hx hb d_Mo_unit_12 rfl (lv_at hl 2 rfl) ?_
    refine lv_if_lt (tgt := 34) hx hb d_Mo_unit_13 (by decide) (fun c_2 => ?_) (fun c_2 => ?_)
    · skip
      refine lv_iconst (v := nI 0) hx hb d_Mo_unit_34 (by decide) ?_
      exact hret _ _ _ _ d_Mo_unit_35 hP hD hS
    · skip
      refine lv_iload_n hx hb d_Mo_unit_16 rfl (lv_at hl 2 rfl) ?_
      refine lv_ldc (v := nI 65535) hx hb hown (hts _ (List.mem_cons_of_mem _ k_549)) d_Mo_unit_17 ?_
      refine lv_icmp_gt (tgt := 34) hx hb d_Mo_unit_19 (by decide) (fun c_3 => ?_) (fun c_3 => ?_)
      · skip
        refine lv_iconst (v := nI 0) hx hb d_Mo_unit_34 (by decide) ?_
        exact hret _ _ _ _ d_Mo_unit_35 hP hD hS
      · skip
        rcases hu with h9 | h9 <;> first | contradiction | exact absurd (Int32.not_lt.mp c_3) h9

set_option maxHeartbeats 1000000 in
set_option maxRecDepth 100000 in
theorem c_Mo_unitx (l : Launch) (dC : Nat → ClassId) (dI : Nat → Nat → Nat) (cI : ClassId) (m0 : Nat) (th : Int32) (mu mz mb mr : Nat) (U Z B b : Nat → Nat) (r u : Int32) (hU : ∀ j, U j < 65536) (hZ : ∀ j, Z j ≤ 255) (hB : ∀ j, B j < 65536) (hb9 : ∀ j, b j < 65536) (hr0 : ¬ r = 0) (hr1 : ¬ r = nI 1)  : mM l y_Mo_unit w_Mo_unit ({ frames := 1, cells := 0, slots := 0, locals := 20 } : Room) [.ref m0, .int r, .int u] (dC, dI) vwCl [(cI, .int)] [(m0, .inr (5, [.int th, .ref mu, .ref mz, .ref mb, .ref mr])), (mu, .inl (cI, 510, .inl (nf U))), (mz, .inl (cI, 2, .inl (nf Z))), (mb, .inl (cI, 1024, .inl (nf B))), (mr, .inl (cI, 11, .inl (nf b)))] (some (.int (nI 0))) [(m0, .inr (5, [.int (nI 0), .ref mu, .ref mz, .ref mb, .ref mr])), (mu, .inl (cI, 510, .inl (nf U))), (mz, .inl (cI, 2, .inl (nf Z))), (mb, .inl (cI, 1024, .inl (nf B))), (mr, .inl (cI, 11, .inl (nf b)))] := by
  refine mk_Mi (cc := b_Mo_unit) (maxL := 3) (by decide) rfl (Nat.le_of_ble_eq_true rfl) (rfl) ?_
  intro p e s m below meth c Q A ls S hP hK hT hS hl hD hA hret
  obtain ⟨hx, hb, hml, hown, hts⟩ := id S
  have hl : lv_has ls 3 [(0, .ref m0), (1, .int r), (2, .int u)] := hl
  refine lv_aload_n hx hb d_Mo_unit_0 rfl (lv_at hl 0 rfl) ?_
  refine lv_iconst (v := nI 0) hx hb d_Mo_unit_1 (by decide) ?_
  refine va_put (D := (dC, dI)) (ci := 5) (v := .int (nI 0)) (ty := .int) (C := "LongNamesModel") (T := F_Mo) (N := 5) hx hb hts (iw_Mo _) t_Mo t_Mo_ok n_Mo hown hK hP hD hS 0 rfl rfl 0 (by decide) (hts _ (List.mem_cons_of_mem _ k_522)) (fun _ h9 => h9) rfl (by decide +kernel) rfl rfl (Nat.le_of_ble_eq_true rfl) d_Mo_unit_2 (fun H locs hP hD hS => ?_)
  have hP : va_P (dC, dI) vwCl [(m0, .inr (5, [.int (nI 0), .ref mu, .ref mz, .ref mb, .ref mr])), (mu, .inl (cI, 510, .inl (nf U))), (mz, .inl (cI, 2, .inl (nf Z))), (mb, .inl (cI, 1024, .inl (nf B))), (mr, .inl (cI, 11, .inl (nf b)))] H := hP
  have hD : va_D A [(m0, .inr (5, [.int (nI 0), .ref mu, .ref mz, .ref mb, .ref mr])), (mu, .inl (cI, 510, .inl (nf U))), (mz, .inl (cI, 2, .inl (nf Z))), (mb, .inl (cI, 1024, .inl (nf B))), (mr, .inl (cI, 11, .inl (nf b)))] := hD
  refine lv_iload_n hx hb d_Mo_unit_5 rfl (lv_at hl 1 rfl) ?_
  refine mk_r1 (W.runS (As := [.int r]) (rest := []) S (c_Mo_rowX l dC dI cI r (by first | assumption | omega) (by first | assumption | omega)) (gS 1 hts k_546 k_547 k_29 k_548 (by decide +kernel) ⟨Nat.le_of_ble_eq_true rfl, Nat.le_of_ble_eq_true rfl⟩) (mk_sR hP hK hT hS [] rfl) rfl rfl hl.1 rfl (lv_room (Nat.le_of_ble_eq_true rfl)) d_Mo_unit_6 ⟨Nat.zero_le _, Nat.zero_le _⟩) ?_
  refine lv_if_eq (tgt := 34) hx hb d_Mo_unit_9 (by decide) (fun c_1 => ?_) (fun c_1 => ?_)
  · skip
    rw [mk_ceq (by omega)] at c_1
    refine lv_iconst (v := nI 0) hx hb d_Mo_unit_34 (by decide) ?_
    exact hret _ _ _ _ d_Mo_unit_35 hP hD hS
  · skip
    rw [mk_ceq (by omega)] at c_1
    first | omega | contradiction

set_option maxHeartbeats 1000000 in
set_option maxRecDepth 100000 in
theorem c_Mo_clear (l : Launch) (dC : Nat → ClassId) (dI : Nat → Nat → Nat) (cI : ClassId) (m0 : Nat) (th : Int32) (mu mz mb mr : Nat) (U Z B b : Nat → Nat) (r : Nat) (hU : ∀ j, U j < 65536) (hZ : ∀ j, Z j ≤ 255) (hB : ∀ j, B j < 65536) (hb9 : ∀ j, b j < 65536) (hr : r < 2)  : mM l y_Mo_clear w_Mo_clear ({ frames := 1, cells := 0, slots := 0, locals := 20 } : Room) [.ref m0, .int (nI r)] (dC, dI) vwCl [(cI, .int)] [(m0, .inr (5, [.int th, .ref mu, .ref mz, .ref mb, .ref mr])), (mu, .inl (cI, 510, .inl (nf U))), (mz, .inl (cI, 2, .inl (nf Z))), (mb, .inl (cI, 1024, .inl (nf B))), (mr, .inl (cI, 11, .inl (nf b)))] (some (.int (nI (Z r)))) [(m0, .inr (5, [.int (nI 0), .ref mu, .ref mz, .ref mb, .ref mr])), (mu, .inl (cI, 510, .inl (nf U))), (mz, .inl (cI, 2, .inl (nf (uN Z r 0)))), (mb, .inl (cI, 1024, .inl (nf B))), (mr, .inl (cI, 11, .inl (nf b)))] := by
  have hZr := hZ r
  refine mk_Mi (cc := b_Mo_clear) (maxL := 3) (by decide) rfl (Nat.le_of_ble_eq_true rfl) rfl ?_
  intro p e s m below meth c Q A ls S hP hK hT hS hl hD hA hret
  obtain ⟨hx, hb, hml, hown, hts⟩ := id S
  have hl : lv_has ls 3 [(0, .ref m0), (1, .int (nI r))] := hl
  refine lv_aload_n hx hb d_Mo_clear_0 rfl (lv_at hl 0 rfl) ?_
  refine lv_iconst (v := nI 0) hx hb d_Mo_clear_1 (by decide) ?_
  refine va_put (D := (dC, dI)) (ci := 5) (v := .int (nI 0)) (ty := .int) (C := "LongNamesModel") (T := F_Mo) (N := 5) hx hb hts (iw_Mo _) t_Mo t_Mo_ok n_Mo hown hK hP hD hS 0 rfl rfl 0 (by decide) (hts _ (List.mem_cons_of_mem _ k_522)) (fun _ h9 => h9) rfl (by decide +kernel) rfl rfl (Nat.le_of_ble_eq_true rfl) d_Mo_clear_2 (fun H locs hP hD hS => ?_)
  have hP : va_P (dC, dI) vwCl [(m0, .inr (5, [.int (nI 0), .ref mu, .ref mz, .ref mb, .ref mr])), (mu, .inl (cI, 510, .inl (nf U))), (mz, .inl (cI, 2, .inl (nf Z))), (mb, .inl (cI, 1024, .inl (nf B))), (mr, .inl (cI, 11, .inl (nf b)))] H := hP
  have hD : va_D A [(m0, .inr (5, [.int (nI 0), .ref mu, .ref mz, .ref mb, .ref mr])), (mu, .inl (cI, 510, .inl (nf U))), (mz, .inl (cI, 2, .inl (nf Z))), (mb, .inl (cI, 1024, .inl (nf B))), (mr, .inl (cI, 11, .inl (nf b)))] := hD
  refine lv_iload_n hx hb d_Mo_clear_5 rfl (lv_at hl 1 rfl) ?_
  refine mk_r1 (W.runS (As := [.int (nI r)]) (rest := []) S (c_Mo_rowN l dC dI cI r (by first | assumption | omega)) (gS 1 hts k_546 k_547 k_29 k_548 (by decide +kernel) ⟨Nat.le_of_ble_eq_true rfl, Nat.le_of_ble_eq_true rfl⟩) (mk_sR hP hK hT hS [] rfl) rfl rfl hl.1 rfl (lv_room (Nat.le_of_ble_eq_true rfl)) d_Mo_clear_6 ⟨Nat.zero_le _, Nat.zero_le _⟩) ?_
  refine lv_if_ne (tgt := 14) hx hb d_Mo_clear_9 (by decide) (fun c_1 => ?_) (fun c_1 => ?_)
  · skip
    rw [mk_ceq (by omega)] at c_1
    refine lv_aload_n hx hb d_Mo_clear_14 rfl (lv_at hl 0 rfl) ?_
    refine va_get (D := (dC, dI)) (ci := 5) (v := .ref mz) (C := "LongNamesModel") (T := F_Mo) (N := 5) hx hb hts (iw_Mo _) hown hK hP 0 rfl rfl 2 (by decide) (hts _ (List.mem_cons_of_mem _ k_524)) (fun _ h9 => h9) rfl d_Mo_clear_15 ?_
    refine lv_iload_n hx hb d_Mo_clear_18 rfl (lv_at hl 1 rfl) ?_
    refine va_iald hx hb hK hP 2 0 rfl rfl (vp_in_nI (N := 2) (show r < 2 by omega) (by decide)) d_Mo_clear_19 ?_
    refine mk_ti (y := nI (Z r)) (by rw [nI_clamp (by omega)]; rfl) ?_
    refine lv_istore_n (lv' := [(2, .int (nI (Z r))), (0, .ref m0), (1, .int (nI r))]) hx hb d_Mo_clear_20 rfl hl (by decide) rfl (fun ls hl => ?_)
    refine lv_aload_n hx hb d_Mo_clear_21 rfl (lv_at hl 1 rfl) ?_
    refine va_get (D := (dC, dI)) (ci := 5) (v := .ref mz) (C := "LongNamesModel") (T := F_Mo) (N := 5) hx hb hts (iw_Mo _) hown hK hP 0 rfl rfl 2 (by decide) (hts _ (List.mem_cons_of_mem _ k_524)) (fun _ h9 => h9) rfl d_Mo_clear_22 ?_
    refine lv_iload_n hx hb d_Mo_clear_25 rfl (lv_at hl 2 rfl) ?_
    refine lv_iconst (v := nI 0) hx hb d_Mo_clear_26 (by decide) ?_
    refine va_iast hx hb hK hP hD hS 2 0 rfl rfl (vp_in_nI (N := 2) (show r < 2 by omega) (by decide)) d_Mo_clear_27 (fun H locs hP hD hS => ?_)
    rw [nI_clamp (by omega), nf_up] at hP hD
    have hP : va_P (dC, dI) vwCl [(m0, .inr (5, [.int (nI 0), .ref mu, .ref mz, .ref mb, .ref mr])), (mu, .inl (cI, 510, .inl (nf U))), (mz, .inl (cI, 2, .inl (nf (uN Z r 0)))), (mb, .inl (cI, 1024, .inl (nf B))), (mr, .inl (cI, 11, .inl (nf b)))] H := hP
    have hD : va_D A [(m0, .inr (5, [.int (nI 0), .ref mu, .ref mz, .ref mb, .ref mr])), (mu, .inl (cI, 510, .inl (nf U))), (mz, .inl (cI, 2, .inl (nf (uN Z r 0)))), (mb, .inl (cI, 1024, .inl (nf B))), (mr, .inl (cI, 11, .inl (nf b)))] := hD
    refine lv_iload_n hx hb d_Mo_clear_28 rfl (lv_at hl 0 rfl) ?_
    exact hret _ _ _ _ d_Mo_clear_29 hP hD hS
  · skip
    rw [mk_ceq (by omega)] at c_1
    first | omega | contradiction

set_option maxHeartbeats 1000000 in
set_option maxRecDepth 100000 in
theorem c_Mo_clearx (l : Launch) (dC : Nat → ClassId) (dI : Nat → Nat → Nat) (cI : ClassId) (m0 : Nat) (th : Int32) (mu mz mb mr : Nat) (U Z B b : Nat → Nat) (r : Int32) (hU : ∀ j, U j < 65536) (hZ : ∀ j, Z j ≤ 255) (hB : ∀ j, B j < 65536) (hb9 : ∀ j, b j < 65536) (hr0 : ¬ r = 0) (hr1 : ¬ r = nI 1)  : mM l y_Mo_clear w_Mo_clear ({ frames := 1, cells := 0, slots := 0, locals := 20 } : Room) [.ref m0, .int r] (dC, dI) vwCl [(cI, .int)] [(m0, .inr (5, [.int th, .ref mu, .ref mz, .ref mb, .ref mr])), (mu, .inl (cI, 510, .inl (nf U))), (mz, .inl (cI, 2, .inl (nf Z))), (mb, .inl (cI, 1024, .inl (nf B))), (mr, .inl (cI, 11, .inl (nf b)))] (some (.int (-1))) [(m0, .inr (5, [.int (nI 0), .ref mu, .ref mz, .ref mb, .ref mr])), (mu, .inl (cI, 510, .inl (nf U))), (mz, .inl (cI, 2, .inl (nf Z))), (mb, .inl (cI, 1024, .inl (nf B))), (mr, .inl (cI, 11, .inl (nf b)))] := by
  refine mk_Mi (cc := b_Mo_clear) (maxL := 3) (by decide) rfl (Nat.le_of_ble_eq_true rfl) rfl ?_
  intro p e s m below meth c Q A ls S hP hK hT hS hl hD hA hret
  obtain ⟨hx, hb, hml, hown, hts⟩ := id S
  have hl : lv_has ls 3 [(0, .ref m0), (1, .int r)] := hl
  refine lv_aload_n hx hb d_Mo_clear_0 rfl (lv_at hl 0 rfl) ?_
  refine lv_iconst (v := nI 0) hx hb d_Mo_clear_1 (by decide) ?_
  refine va_put (D := (dC, dI)) (ci := 5) (v := .int (nI 0)) (ty := .int) (C := "LongNamesModel") (T := F_Mo) (N := 5) hx hb hts (iw_Mo _) t_Mo t_Mo_ok n_Mo hown hK hP hD hS 0 rfl rfl 0 (by decide) (hts _ (List.mem_cons_of_mem _ k_522)) (fun _ h9 => h9) rfl (by decide +kernel) rfl rfl (Nat.le_of_ble_eq_true rfl) d_Mo_clear_2 (fun H locs hP hD hS => ?_)
  have hP : va_P (dC, dI) vwCl [(m0, .inr (5, [.int (nI 0), .ref mu, .ref mz, .ref mb, .ref mr])), (mu, .inl (cI, 510, .inl (nf U))), (mz, .inl (cI, 2, .inl (nf Z))), (mb, .inl (cI, 1024, .inl (nf B))), (mr, .inl (cI, 11, .inl (nf b)))] H := hP
  have hD : va_D A [(m0, .inr (5, [.int (nI 0), .ref mu, .ref mz, .ref mb, .ref mr])), (mu, .inl (cI, 510, .inl (nf U))), (mz, .inl (cI, 2, .inl (nf Z))), (mb, .inl (cI, 1024, .inl (nf B))), (mr, .inl (cI, 11, .inl (nf b)))] := hD
  refine lv_iload_n hx hb d_Mo_clear_5 rfl (lv_at hl 1 rfl) ?_
  refine mk_r1 (W.runS (As := [.int r]) (rest := []) S (c_Mo_rowX l dC dI cI r (by first | assumption | omega) (by first | assumption | omega)) (gS 1 hts k_546 k_547 k_29 k_548 (by decide +kernel) ⟨Nat.le_of_ble_eq_true rfl, Nat.le_of_ble_eq_true rfl⟩) (mk_sR hP hK hT hS [] rfl) rfl rfl hl.1 rfl (lv_room (Nat.le_of_ble_eq_true rfl)) d_Mo_clear_6 ⟨Nat.zero_le _, Nat.zero_le _⟩) ?_
  refine lv_if_ne (tgt := 14) hx hb d_Mo_clear_9 (by decide) (fun c_1 => ?_) (fun c_1 => ?_)
  · skip
    rw [mk_ceq (by omega)] at c_1
    first | omega | contradiction
  · skip
    rw [mk_ceq (by omega)] at c_1
    refine lv_iconst (v := (-1)) hx hb d_Mo_clear_12 (by decide) ?_
    exact hret _ _ _ _ d_Mo_clear_13 hP hD hS

set_option maxHeartbeats 1000000 in
set_option maxRecDepth 100000 in
theorem c_Mo_about0 (l : Launch) (dC : Nat → ClassId) (dI : Nat → Nat → Nat) (cI : ClassId) (m0 : Nat) (th : Int32) (mu mz mb mr : Nat) (U Z B b : Nat → Nat) (r : Nat) (hU : ∀ j, U j < 65536) (hZ : ∀ j, Z j ≤ 255) (hB : ∀ j, B j < 65536) (hb9 : ∀ j, b j < 65536) (hr : r < 2)  : mM l y_Mo_about w_Mo_about ({ frames := 1, cells := 0, slots := 0, locals := 20 } : Room) [.ref m0, .int (nI r), .int (nI 0)] (dC, dI) vwCl [(cI, .int)] [(m0, .inr (5, [.int th, .ref mu, .ref mz, .ref mb, .ref mr])), (mu, .inl (cI, 510, .inl (nf U))), (mz, .inl (cI, 2, .inl (nf Z))), (mb, .inl (cI, 1024, .inl (nf B))), (mr, .inl (cI, 11, .inl (nf b)))] (some (.int (nI (Z r)))) [(m0, .inr (5, [.int (nI 0), .ref mu, .ref mz, .ref mb, .ref mr])), (mu, .inl (cI, 510, .inl (nf U))), (mz, .inl (cI, 2, .inl (nf Z))), (mb, .inl (cI, 1024, .inl (nf B))), (mr, .inl (cI, 11, .inl (nf b)))] := by
  have hZr := hZ r
  refine mk_Mi (cc := b_Mo_about) (maxL := 6) (by decide) rfl (Nat.le_of_ble_eq_true rfl) rfl ?_
  intro p e s m below meth c Q A ls S hP hK hT hS hl hD hA hret
  obtain ⟨hx, hb, hml, hown, hts⟩ := id S
  have hl : lv_has ls 6 [(0, .ref m0), (1, .int (nI r)), (2, .int (nI 0))] := hl
  refine lv_aload_n hx hb d_Mo_about_0 rfl (lv_at hl 0 rfl) ?_
  refine lv_iconst (v := nI 0) hx hb d_Mo_about_1 (by decide) ?_
  refine va_put (D := (dC, dI)) (ci := 5) (v := .int (nI 0)) (ty := .int) (C := "LongNamesModel") (T := F_Mo) (N := 5) hx hb hts (iw_Mo _) t_Mo t_Mo_ok n_Mo hown hK hP hD hS 0 rfl rfl 0 (by decide) (hts _ (List.mem_cons_of_mem _ k_522)) (fun _ h9 => h9) rfl (by decide +kernel) rfl rfl (Nat.le_of_ble_eq_true rfl) d_Mo_about_2 (fun H locs hP hD hS => ?_)
  have hP : va_P (dC, dI) vwCl [(m0, .inr (5, [.int (nI 0), .ref mu, .ref mz, .ref mb, .ref mr])), (mu, .inl (cI, 510, .inl (nf U))), (mz, .inl (cI, 2, .inl (nf Z))), (mb, .inl (cI, 1024, .inl (nf B))), (mr, .inl (cI, 11, .inl (nf b)))] H := hP
  have hD : va_D A [(m0, .inr (5, [.int (nI 0), .ref mu, .ref mz, .ref mb, .ref mr])), (mu, .inl (cI, 510, .inl (nf U))), (mz, .inl (cI, 2, .inl (nf Z))), (mb, .inl (cI, 1024, .inl (nf B))), (mr, .inl (cI, 11, .inl (nf b)))] := hD
  refine lv_iload_n hx hb d_Mo_about_5 rfl (lv_at hl 1 rfl) ?_
  refine mk_r1 (W.runS (As := [.int (nI r)]) (rest := []) S (c_Mo_rowN l dC dI cI r (by first | assumption | omega)) (gS 1 hts k_546 k_547 k_29 k_548 (by decide +kernel) ⟨Nat.le_of_ble_eq_true rfl, Nat.le_of_ble_eq_true rfl⟩) (mk_sR hP hK hT hS [] rfl) rfl rfl hl.1 rfl (lv_room (Nat.le_of_ble_eq_true rfl)) d_Mo_about_6 ⟨Nat.zero_le _, Nat.zero_le _⟩) ?_
  refine lv_if_ne (tgt := 14) hx hb d_Mo_about_9 (by decide) (fun c_1 => ?_) (fun c_1 => ?_)
  · skip
    rw [mk_ceq (by omega)] at c_1
    refine lv_aload_n hx hb d_Mo_about_14 rfl (lv_at hl 0 rfl) ?_
    refine va_get (D := (dC, dI)) (ci := 5) (v := .ref mz) (C := "LongNamesModel") (T := F_Mo) (N := 5) hx hb hts (iw_Mo _) hown hK hP 0 rfl rfl 2 (by decide) (hts _ (List.mem_cons_of_mem _ k_524)) (fun _ h9 => h9) rfl d_Mo_about_15 ?_
    refine lv_iload_n hx hb d_Mo_about_18 rfl (lv_at hl 1 rfl) ?_
    refine va_iald hx hb hK hP 2 0 rfl rfl (vp_in_nI (N := 2) (show r < 2 by omega) (by decide)) d_Mo_about_19 ?_
    refine mk_ti (y := nI (Z r)) (by rw [nI_clamp (by omega)]; rfl) ?_
    refine lv_istore_n (lv' := [(3, .int (nI (Z r))), (0, .ref m0), (1, .int (nI r)), (2, .int (nI 0))]) hx hb d_Mo_about_20 rfl hl (by decide) rfl (fun ls hl => ?_)
    refine lv_iload_n hx hb d_Mo_about_21 rfl (lv_at hl 3 rfl) ?_
    refine lv_tableIn (tgt := 56) (off := 34) hx hb d_Mo_about_22 (by decide) (by decide) (by rfl) (by decide) ?_
    refine lv_iload_n hx hb d_Mo_about_56 rfl (lv_at hl 0 rfl) ?_
    exact hret _ _ _ _ d_Mo_about_57 hP hD hS
  · skip
    rw [mk_ceq (by omega)] at c_1
    first | omega | contradiction

set_option maxHeartbeats 1000000 in
set_option maxRecDepth 100000 in
theorem c_Mo_about1 (l : Launch) (dC : Nat → ClassId) (dI : Nat → Nat → Nat) (cI : ClassId) (m0 : Nat) (th : Int32) (mu mz mb mr : Nat) (U Z B b : Nat → Nat) (r : Nat) (hU : ∀ j, U j < 65536) (hZ : ∀ j, Z j ≤ 255) (hB : ∀ j, B j < 65536) (hb9 : ∀ j, b j < 65536) (hr : r < 2)  : mM l y_Mo_about w_Mo_about ({ frames := 2, cells := 0, slots := 0, locals := 45 } : Room) [.ref m0, .int (nI r), .int (nI 1)] (dC, dI) vwCl [(cI, .int)] [(m0, .inr (5, [.int th, .ref mu, .ref mz, .ref mb, .ref mr])), (mu, .inl (cI, 510, .inl (nf U))), (mz, .inl (cI, 2, .inl (nf Z))), (mb, .inl (cI, 1024, .inl (nf B))), (mr, .inl (cI, 11, .inl (nf b)))] (some (.int (bI (nameN (rv U r) (Z r))))) [(m0, .inr (5, [.int (nI 0), .ref mu, .ref mz, .ref mb, .ref mr])), (mu, .inl (cI, 510, .inl (nf U))), (mz, .inl (cI, 2, .inl (nf Z))), (mb, .inl (cI, 1024, .inl (nf B))), (mr, .inl (cI, 11, .inl (nf b)))] := by
  have hZr := hZ r
  refine mk_Mi (cc := b_Mo_about) (maxL := 6) (by decide) rfl (Nat.le_of_ble_eq_true rfl) rfl ?_
  intro p e s m below meth c Q A ls S hP hK hT hS hl hD hA hret
  obtain ⟨hx, hb, hml, hown, hts⟩ := id S
  have hl : lv_has ls 6 [(0, .ref m0), (1, .int (nI r)), (2, .int (nI 1))] := hl
  refine lv_aload_n hx hb d_Mo_about_0 rfl (lv_at hl 0 rfl) ?_
  refine lv_iconst (v := nI 0) hx hb d_Mo_about_1 (by decide) ?_
  refine va_put (D := (dC, dI)) (ci := 5) (v := .int (nI 0)) (ty := .int) (C := "LongNamesModel") (T := F_Mo) (N := 5) hx hb hts (iw_Mo _) t_Mo t_Mo_ok n_Mo hown hK hP hD hS 0 rfl rfl 0 (by decide) (hts _ (List.mem_cons_of_mem _ k_522)) (fun _ h9 => h9) rfl (by decide +kernel) rfl rfl (Nat.le_of_ble_eq_true rfl) d_Mo_about_2 (fun H locs hP hD hS => ?_)
  have hP : va_P (dC, dI) vwCl [(m0, .inr (5, [.int (nI 0), .ref mu, .ref mz, .ref mb, .ref mr])), (mu, .inl (cI, 510, .inl (nf U))), (mz, .inl (cI, 2, .inl (nf Z))), (mb, .inl (cI, 1024, .inl (nf B))), (mr, .inl (cI, 11, .inl (nf b)))] H := hP
  have hD : va_D A [(m0, .inr (5, [.int (nI 0), .ref mu, .ref mz, .ref mb, .ref mr])), (mu, .inl (cI, 510, .inl (nf U))), (mz, .inl (cI, 2, .inl (nf Z))), (mb, .inl (cI, 1024, .inl (nf B))), (mr, .inl (cI, 11, .inl (nf b)))] := hD
  refine lv_iload_n hx hb d_Mo_about_5 rfl (lv_at hl 1 rfl) ?_
  refine mk_r1 (W.runS (As := [.int (nI r)]) (rest := []) S (c_Mo_rowN l dC dI cI r (by first | assumption | omega)) (gS 1 hts k_546 k_547 k_29 k_548 (by decide +kernel) ⟨Nat.le_of_ble_eq_true rfl, Nat.le_of_ble_eq_true rfl⟩) (mk_sR hP hK hT hS [] rfl) rfl rfl hl.1 rfl (lv_room (Nat.le_of_ble_eq_true rfl)) d_Mo_about_6 ⟨Nat.zero_le _, Nat.zero_le _⟩) ?_
  refine lv_if_ne (tgt := 14) hx hb d_Mo_about_9 (by decide) (fun c_1 => ?_) (fun c_1 => ?_)
  · skip
    rw [mk_ceq (by omega)] at c_1
    refine lv_aload_n hx hb d_Mo_about_14 rfl (lv_at hl 0 rfl) ?_
    refine va_get (D := (dC, dI)) (ci := 5) (v := .ref mz) (C := "LongNamesModel") (T := F_Mo) (N := 5) hx hb hts (iw_Mo _) hown hK hP 0 rfl rfl 2 (by decide) (hts _ (List.mem_cons_of_mem _ k_524)) (fun _ h9 => h9) rfl d_Mo_about_15 ?_
    refine lv_iload_n hx hb d_Mo_about_18 rfl (lv_at hl 1 rfl) ?_
    refine va_iald hx hb hK hP 2 0 rfl rfl (vp_in_nI (N := 2) (show r < 2 by omega) (by decide)) d_Mo_about_19 ?_
    refine mk_ti (y := nI (Z r)) (by rw [nI_clamp (by omega)]; rfl) ?_
    refine lv_istore_n (lv' := [(3, .int (nI (Z r))), (0, .ref m0), (1, .int (nI r)), (2, .int (nI 1))]) hx hb d_Mo_about_20 rfl hl (by decide) rfl (fun ls hl => ?_)
    refine lv_iload_n hx hb d_Mo_about_21 rfl (lv_at hl 3 rfl) ?_
    refine lv_tableIn (tgt := 58) (off := 36) hx hb d_Mo_about_22 (by decide) (by decide) (by rfl) (by decide) ?_
    refine lv_aload_n hx hb d_Mo_about_58 rfl (lv_at hl 1 rfl) ?_
    refine lv_iload_n hx hb d_Mo_about_59 rfl (lv_at hl 2 rfl) ?_
    refine mk_r1 (W.runV (As := [.int (nI r)]) (rest := []) S (c_Mo_name l dC dI cI m0 (nI 0) mu mz mb mr U Z r (by first | assumption | omega) (by first | assumption | omega) (by first | assumption | omega)) (gV 1 hts k_558 k_560 k_13 k_29 k_561 (by decide +kernel) ⟨Nat.le_of_ble_eq_true rfl, Nat.le_of_ble_eq_true rfl⟩) (mk_vR hP hK hT hS [0, 1, 2] rfl (q0 := 0) (ci := 5) rfl rfl) rfl rfl hl.1 rfl (lv_room (Nat.le_of_ble_eq_true rfl)) d_Mo_about_60 ⟨Nat.zero_le _, Nat.zero_le _⟩) ?_
    refine lv_if_eq (tgt := 70) hx hb d_Mo_about_63 (by decide) (fun c_2 => ?_) (fun c_2 => ?_)
    · skip
      have c_2 := bI_0 c_2
      refine lv_iconst (v := nI 0) hx hb d_Mo_about_70 (by decide) ?_
      exact mk_ti (by exact mk_bf (by assumption)) (hret _ _ _ _ d_Mo_about_71 hP hD hS)
    · skip
      have c_2 := bI_1 c_2
      refine lv_iconst (v := nI 1) hx hb d_Mo_about_66 (by decide) ?_
      refine lv_goto (tgt := 71) hx hb d_Mo_about_67 (by decide) ?_
      exact mk_ti (by exact mk_bt (by assumption)) (hret _ _ _ _ d_Mo_about_71 hP hD hS)
  · skip
    rw [mk_ceq (by omega)] at c_1
    first | omega | contradiction

set_option maxHeartbeats 1000000 in
set_option maxRecDepth 100000 in
theorem c_Mo_about2 (l : Launch) (dC : Nat → ClassId) (dI : Nat → Nat → Nat) (cI : ClassId) (m0 : Nat) (th : Int32) (mu mz mb mr : Nat) (U Z B b : Nat → Nat) (r : Nat) (hU : ∀ j, U j < 65536) (hZ : ∀ j, Z j ≤ 255) (hB : ∀ j, B j < 65536) (hb9 : ∀ j, b j < 65536) (hr : r < 2)  : mM l y_Mo_about w_Mo_about ({ frames := 3, cells := 0, slots := 0, locals := 68 } : Room) [.ref m0, .int (nI r), .int (nI 2)] (dC, dI) vwCl [(cI, .int)] [(m0, .inr (5, [.int th, .ref mu, .ref mz, .ref mb, .ref mr])), (mu, .inl (cI, 510, .inl (nf U))), (mz, .inl (cI, 2, .inl (nf Z))), (mb, .inl (cI, 1024, .inl (nf B))), (mr, .inl (cI, 11, .inl (nf b)))] (some (.int (bI (swR (rv U r) (Z r))))) [(m0, .inr (5, [.int (nI 0), .ref mu, .ref mz, .ref mb, .ref mr])), (mu, .inl (cI, 510, .inl (nf U))), (mz, .inl (cI, 2, .inl (nf Z))), (mb, .inl (cI, 1024, .inl (nf B))), (mr, .inl (cI, 11, .inl (nf (swB (rv U r) (Z r) b))))] := by
  have hZr := hZ r
  refine mk_Mi (cc := b_Mo_about) (maxL := 6) (by decide) rfl (Nat.le_of_ble_eq_true rfl) rfl ?_
  intro p e s m below meth c Q A ls S hP hK hT hS hl hD hA hret
  obtain ⟨hx, hb, hml, hown, hts⟩ := id S
  have hl : lv_has ls 6 [(0, .ref m0), (1, .int (nI r)), (2, .int (nI 2))] := hl
  refine lv_aload_n hx hb d_Mo_about_0 rfl (lv_at hl 0 rfl) ?_
  refine lv_iconst (v := nI 0) hx hb d_Mo_about_1 (by decide) ?_
  refine va_put (D := (dC, dI)) (ci := 5) (v := .int (nI 0)) (ty := .int) (C := "LongNamesModel") (T := F_Mo) (N := 5) hx hb hts (iw_Mo _) t_Mo t_Mo_ok n_Mo hown hK hP hD hS 0 rfl rfl 0 (by decide) (hts _ (List.mem_cons_of_mem _ k_522)) (fun _ h9 => h9) rfl (by decide +kernel) rfl rfl (Nat.le_of_ble_eq_true rfl) d_Mo_about_2 (fun H locs hP hD hS => ?_)
  have hP : va_P (dC, dI) vwCl [(m0, .inr (5, [.int (nI 0), .ref mu, .ref mz, .ref mb, .ref mr])), (mu, .inl (cI, 510, .inl (nf U))), (mz, .inl (cI, 2, .inl (nf Z))), (mb, .inl (cI, 1024, .inl (nf B))), (mr, .inl (cI, 11, .inl (nf b)))] H := hP
  have hD : va_D A [(m0, .inr (5, [.int (nI 0), .ref mu, .ref mz, .ref mb, .ref mr])), (mu, .inl (cI, 510, .inl (nf U))), (mz, .inl (cI, 2, .inl (nf Z))), (mb, .inl (cI, 1024, .inl (nf B))), (mr, .inl (cI, 11, .inl (nf b)))] := hD
  refine lv_iload_n hx hb d_Mo_about_5 rfl (lv_at hl 1 rfl) ?_
  refine mk_r1 (W.runS (As := [.int (nI r)]) (rest := []) S (c_Mo_rowN l dC dI cI r (by first | assumption | omega)) (gS 1 hts k_546 k_547 k_29 k_548 (by decide +kernel) ⟨Nat.le_of_ble_eq_true rfl, Nat.le_of_ble_eq_true rfl⟩) (mk_sR hP hK hT hS [] rfl) rfl rfl hl.1 rfl (lv_room (Nat.le_of_ble_eq_true rfl)) d_Mo_about_6 ⟨Nat.zero_le _, Nat.zero_le _⟩) ?_
  refine lv_if_ne (tgt := 14) hx hb d_Mo_about_9 (by decide) (fun c_1 => ?_) (fun c_1 => ?_)
  · skip
    rw [mk_ceq (by omega)] at c_1
    refine lv_aload_n hx hb d_Mo_about_14 rfl (lv_at hl 0 rfl) ?_
    refine va_get (D := (dC, dI)) (ci := 5) (v := .ref mz) (C := "LongNamesModel") (T := F_Mo) (N := 5) hx hb hts (iw_Mo _) hown hK hP 0 rfl rfl 2 (by decide) (hts _ (List.mem_cons_of_mem _ k_524)) (fun _ h9 => h9) rfl d_Mo_about_15 ?_
    refine lv_iload_n hx hb d_Mo_about_18 rfl (lv_at hl 1 rfl) ?_
    refine va_iald hx hb hK hP 2 0 rfl rfl (vp_in_nI (N := 2) (show r < 2 by omega) (by decide)) d_Mo_about_19 ?_
    refine mk_ti (y := nI (Z r)) (by rw [nI_clamp (by omega)]; rfl) ?_
    refine lv_istore_n (lv' := [(3, .int (nI (Z r))), (0, .ref m0), (1, .int (nI r)), (2, .int (nI 2))]) hx hb d_Mo_about_20 rfl hl (by decide) rfl (fun ls hl => ?_)
    refine lv_iload_n hx hb d_Mo_about_21 rfl (lv_at hl 3 rfl) ?_
    refine lv_tableIn (tgt := 72) (off := 50) hx hb d_Mo_about_22 (by decide) (by decide) (by rfl) (by decide) ?_
    refine lv_aload_n hx hb d_Mo_about_72 rfl (lv_at hl 1 rfl) ?_
    refine lv_iload_n hx hb d_Mo_about_73 rfl (lv_at hl 2 rfl) ?_
    refine mk_w1 (wr := [(mb, .inl (cI, 1024, .inl (nf B)))]) (W.runV (As := [.int (nI r)]) (rest := []) S ((c_Mo_shown l dC dI cI m0 (nI 0) mu mz mb mr U Z b r (by first | assumption | omega) (by first | assumption | omega) (by first | assumption | omega)) _) (gV 1 hts k_572 k_574 k_15 k_29 k_575 (by decide +kernel) ⟨Nat.le_of_ble_eq_true rfl, Nat.le_of_ble_eq_true rfl⟩) (mk_vM hP hD hK hT hS hA [0, 1, 2, 4] rfl rfl (by decide) (q0 := 0) (ci := 5) rfl rfl) rfl rfl hl.1 rfl (lv_room (Nat.le_of_ble_eq_true rfl)) d_Mo_about_74 ⟨Nat.zero_le _, Nat.zero_le _⟩) hP hD hS hA [0, 1, 2, 4] [3] rfl rfl (by decide) (by decide) (fun H locs hP hD hS => ?_)
    have hP : va_P (dC, dI) vwCl [(m0, .inr (5, [.int (nI 0), .ref mu, .ref mz, .ref mb, .ref mr])), (mu, .inl (cI, 510, .inl (nf U))), (mz, .inl (cI, 2, .inl (nf Z))), (mb, .inl (cI, 1024, .inl (nf B))), (mr, .inl (cI, 11, .inl (nf (swB (rv U r) (Z r) b))))] H := hP.sub [1, 2, 3, 0, 4] rfl
    have hD : va_D A [(m0, .inr (5, [.int (nI 0), .ref mu, .ref mz, .ref mb, .ref mr])), (mu, .inl (cI, 510, .inl (nf U))), (mz, .inl (cI, 2, .inl (nf Z))), (mb, .inl (cI, 1024, .inl (nf B))), (mr, .inl (cI, 11, .inl (nf (swB (rv U r) (Z r) b))))] := hD.sub [1, 2, 3, 0, 4] (by decide) rfl
    refine lv_if_eq (tgt := 84) hx hb d_Mo_about_77 (by decide) (fun c_2 => ?_) (fun c_2 => ?_)
    · skip
      have c_2 := bI_0 c_2
      refine lv_iconst (v := nI 0) hx hb d_Mo_about_84 (by decide) ?_
      exact mk_ti (by exact mk_bf (by assumption)) (hret _ _ _ _ d_Mo_about_85 hP hD hS)
    · skip
      have c_2 := bI_1 c_2
      refine lv_iconst (v := nI 1) hx hb d_Mo_about_80 (by decide) ?_
      refine lv_goto (tgt := 85) hx hb d_Mo_about_81 (by decide) ?_
      exact mk_ti (by exact mk_bt (by assumption)) (hret _ _ _ _ d_Mo_about_85 hP hD hS)
  · skip
    rw [mk_ceq (by omega)] at c_1
    first | omega | contradiction

set_option maxHeartbeats 1000000 in
set_option maxRecDepth 100000 in
theorem c_Mo_about3 (l : Launch) (dC : Nat → ClassId) (dI : Nat → Nat → Nat) (cI : ClassId) (m0 : Nat) (th : Int32) (mu mz mb mr : Nat) (U Z B b : Nat → Nat) (r : Nat) (hU : ∀ j, U j < 65536) (hZ : ∀ j, Z j ≤ 255) (hB : ∀ j, B j < 65536) (hb9 : ∀ j, b j < 65536) (hr : r < 2)  : mM l y_Mo_about w_Mo_about ({ frames := 1, cells := 0, slots := 0, locals := 20 } : Room) [.ref m0, .int (nI r), .int (nI 3)] (dC, dI) vwCl [(cI, .int)] [(m0, .inr (5, [.int th, .ref mu, .ref mz, .ref mb, .ref mr])), (mu, .inl (cI, 510, .inl (nf U))), (mz, .inl (cI, 2, .inl (nf Z))), (mb, .inl (cI, 1024, .inl (nf B))), (mr, .inl (cI, 11, .inl (nf b)))] (some (.int (nI (pnN (Z r))))) [(m0, .inr (5, [.int (nI 0), .ref mu, .ref mz, .ref mb, .ref mr])), (mu, .inl (cI, 510, .inl (nf U))), (mz, .inl (cI, 2, .inl (nf Z))), (mb, .inl (cI, 1024, .inl (nf B))), (mr, .inl (cI, 11, .inl (nf b)))] := by
  have hZr := hZ r
  refine mk_Mi (cc := b_Mo_about) (maxL := 6) (by decide) rfl (Nat.le_of_ble_eq_true rfl) rfl ?_
  intro p e s m below meth c Q A ls S hP hK hT hS hl hD hA hret
  obtain ⟨hx, hb, hml, hown, hts⟩ := id S
  have hl : lv_has ls 6 [(0, .ref m0), (1, .int (nI r)), (2, .int (nI 3))] := hl
  refine lv_aload_n hx hb d_Mo_about_0 rfl (lv_at hl 0 rfl) ?_
  refine lv_iconst (v := nI 0) hx hb d_Mo_about_1 (by decide) ?_
  refine va_put (D := (dC, dI)) (ci := 5) (v := .int (nI 0)) (ty := .int) (C := "LongNamesModel") (T := F_Mo) (N := 5) hx hb hts (iw_Mo _) t_Mo t_Mo_ok n_Mo hown hK hP hD hS 0 rfl rfl 0 (by decide) (hts _ (List.mem_cons_of_mem _ k_522)) (fun _ h9 => h9) rfl (by decide +kernel) rfl rfl (Nat.le_of_ble_eq_true rfl) d_Mo_about_2 (fun H locs hP hD hS => ?_)
  have hP : va_P (dC, dI) vwCl [(m0, .inr (5, [.int (nI 0), .ref mu, .ref mz, .ref mb, .ref mr])), (mu, .inl (cI, 510, .inl (nf U))), (mz, .inl (cI, 2, .inl (nf Z))), (mb, .inl (cI, 1024, .inl (nf B))), (mr, .inl (cI, 11, .inl (nf b)))] H := hP
  have hD : va_D A [(m0, .inr (5, [.int (nI 0), .ref mu, .ref mz, .ref mb, .ref mr])), (mu, .inl (cI, 510, .inl (nf U))), (mz, .inl (cI, 2, .inl (nf Z))), (mb, .inl (cI, 1024, .inl (nf B))), (mr, .inl (cI, 11, .inl (nf b)))] := hD
  refine lv_iload_n hx hb d_Mo_about_5 rfl (lv_at hl 1 rfl) ?_
  refine mk_r1 (W.runS (As := [.int (nI r)]) (rest := []) S (c_Mo_rowN l dC dI cI r (by first | assumption | omega)) (gS 1 hts k_546 k_547 k_29 k_548 (by decide +kernel) ⟨Nat.le_of_ble_eq_true rfl, Nat.le_of_ble_eq_true rfl⟩) (mk_sR hP hK hT hS [] rfl) rfl rfl hl.1 rfl (lv_room (Nat.le_of_ble_eq_true rfl)) d_Mo_about_6 ⟨Nat.zero_le _, Nat.zero_le _⟩) ?_
  refine lv_if_ne (tgt := 14) hx hb d_Mo_about_9 (by decide) (fun c_1 => ?_) (fun c_1 => ?_)
  · skip
    rw [mk_ceq (by omega)] at c_1
    refine lv_aload_n hx hb d_Mo_about_14 rfl (lv_at hl 0 rfl) ?_
    refine va_get (D := (dC, dI)) (ci := 5) (v := .ref mz) (C := "LongNamesModel") (T := F_Mo) (N := 5) hx hb hts (iw_Mo _) hown hK hP 0 rfl rfl 2 (by decide) (hts _ (List.mem_cons_of_mem _ k_524)) (fun _ h9 => h9) rfl d_Mo_about_15 ?_
    refine lv_iload_n hx hb d_Mo_about_18 rfl (lv_at hl 1 rfl) ?_
    refine va_iald hx hb hK hP 2 0 rfl rfl (vp_in_nI (N := 2) (show r < 2 by omega) (by decide)) d_Mo_about_19 ?_
    refine mk_ti (y := nI (Z r)) (by rw [nI_clamp (by omega)]; rfl) ?_
    refine lv_istore_n (lv' := [(3, .int (nI (Z r))), (0, .ref m0), (1, .int (nI r)), (2, .int (nI 3))]) hx hb d_Mo_about_20 rfl hl (by decide) rfl (fun ls hl => ?_)
    refine lv_iload_n hx hb d_Mo_about_21 rfl (lv_at hl 3 rfl) ?_
    refine lv_tableIn (tgt := 86) (off := 64) hx hb d_Mo_about_22 (by decide) (by decide) (by rfl) (by decide) ?_
    refine lv_iload_n hx hb d_Mo_about_86 rfl (lv_at hl 0 rfl) ?_
    refine mk_r1 (W.runS (As := [.int (nI (Z r))]) (rest := []) S (c_Mo_parts l dC dI cI (Z r) (by first | assumption | omega)) (gS 1 hts k_583 k_584 k_29 k_585 (by decide +kernel) ⟨Nat.le_of_ble_eq_true rfl, Nat.le_of_ble_eq_true rfl⟩) (mk_sR hP hK hT hS [] rfl) rfl rfl hl.1 rfl (lv_room (Nat.le_of_ble_eq_true rfl)) d_Mo_about_87 ⟨Nat.zero_le _, Nat.zero_le _⟩) ?_
    have b_2 := pnN_le (show (Z r) ≤ 255 by omega)
    exact hret _ _ _ _ d_Mo_about_90 hP hD hS
  · skip
    rw [mk_ceq (by omega)] at c_1
    first | omega | contradiction

set_option maxHeartbeats 1000000 in
set_option maxRecDepth 100000 in
theorem c_Mo_about4 (l : Launch) (dC : Nat → ClassId) (dI : Nat → Nat → Nat) (cI : ClassId) (m0 : Nat) (th : Int32) (mu mz mb mr : Nat) (U Z B b : Nat → Nat) (r : Nat) (hU : ∀ j, U j < 65536) (hZ : ∀ j, Z j ≤ 255) (hB : ∀ j, B j < 65536) (hb9 : ∀ j, b j < 65536) (hr : r < 2)  : mM l y_Mo_about w_Mo_about ({ frames := 1, cells := 0, slots := 0, locals := 22 } : Room) [.ref m0, .int (nI r), .int (nI 4)] (dC, dI) vwCl [(cI, .int)] [(m0, .inr (5, [.int th, .ref mu, .ref mz, .ref mb, .ref mr])), (mu, .inl (cI, 510, .inl (nf U))), (mz, .inl (cI, 2, .inl (nf Z))), (mb, .inl (cI, 1024, .inl (nf B))), (mr, .inl (cI, 11, .inl (nf b)))] (some (.int (nI (esN (rv U r) (Z r))))) [(m0, .inr (5, [.int (nI 0), .ref mu, .ref mz, .ref mb, .ref mr])), (mu, .inl (cI, 510, .inl (nf U))), (mz, .inl (cI, 2, .inl (nf Z))), (mb, .inl (cI, 1024, .inl (nf B))), (mr, .inl (cI, 11, .inl (nf b)))] := by
  have hZr := hZ r
  refine mk_Mi (cc := b_Mo_about) (maxL := 6) (by decide) rfl (Nat.le_of_ble_eq_true rfl) rfl ?_
  intro p e s m below meth c Q A ls S hP hK hT hS hl hD hA hret
  obtain ⟨hx, hb, hml, hown, hts⟩ := id S
  have hl : lv_has ls 6 [(0, .ref m0), (1, .int (nI r)), (2, .int (nI 4))] := hl
  refine lv_aload_n hx hb d_Mo_about_0 rfl (lv_at hl 0 rfl) ?_
  refine lv_iconst (v := nI 0) hx hb d_Mo_about_1 (by decide) ?_
  refine va_put (D := (dC, dI)) (ci := 5) (v := .int (nI 0)) (ty := .int) (C := "LongNamesModel") (T := F_Mo) (N := 5) hx hb hts (iw_Mo _) t_Mo t_Mo_ok n_Mo hown hK hP hD hS 0 rfl rfl 0 (by decide) (hts _ (List.mem_cons_of_mem _ k_522)) (fun _ h9 => h9) rfl (by decide +kernel) rfl rfl (Nat.le_of_ble_eq_true rfl) d_Mo_about_2 (fun H locs hP hD hS => ?_)
  have hP : va_P (dC, dI) vwCl [(m0, .inr (5, [.int (nI 0), .ref mu, .ref mz, .ref mb, .ref mr])), (mu, .inl (cI, 510, .inl (nf U))), (mz, .inl (cI, 2, .inl (nf Z))), (mb, .inl (cI, 1024, .inl (nf B))), (mr, .inl (cI, 11, .inl (nf b)))] H := hP
  have hD : va_D A [(m0, .inr (5, [.int (nI 0), .ref mu, .ref mz, .ref mb, .ref mr])), (mu, .inl (cI, 510, .inl (nf U))), (mz, .inl (cI, 2, .inl (nf Z))), (mb, .inl (cI, 1024, .inl (nf B))), (mr, .inl (cI, 11, .inl (nf b)))] := hD
  refine lv_iload_n hx hb d_Mo_about_5 rfl (lv_at hl 1 rfl) ?_
  refine mk_r1 (W.runS (As := [.int (nI r)]) (rest := []) S (c_Mo_rowN l dC dI cI r (by first | assumption | omega)) (gS 1 hts k_546 k_547 k_29 k_548 (by decide +kernel) ⟨Nat.le_of_ble_eq_true rfl, Nat.le_of_ble_eq_true rfl⟩) (mk_sR hP hK hT hS [] rfl) rfl rfl hl.1 rfl (lv_room (Nat.le_of_ble_eq_true rfl)) d_Mo_about_6 ⟨Nat.zero_le _, Nat.zero_le _⟩) ?_
  refine lv_if_ne (tgt := 14) hx hb d_Mo_about_9 (by decide) (fun c_1 => ?_) (fun c_1 => ?_)
  · skip
    rw [mk_ceq (by omega)] at c_1
    refine lv_aload_n hx hb d_Mo_about_14 rfl (lv_at hl 0 rfl) ?_
    refine va_get (D := (dC, dI)) (ci := 5) (v := .ref mz) (C := "LongNamesModel") (T := F_Mo) (N := 5) hx hb hts (iw_Mo _) hown hK hP 0 rfl rfl 2 (by decide) (hts _ (List.mem_cons_of_mem _ k_524)) (fun _ h9 => h9) rfl d_Mo_about_15 ?_
    refine lv_iload_n hx hb d_Mo_about_18 rfl (lv_at hl 1 rfl) ?_
    refine va_iald hx hb hK hP 2 0 rfl rfl (vp_in_nI (N := 2) (show r < 2 by omega) (by decide)) d_Mo_about_19 ?_
    refine mk_ti (y := nI (Z r)) (by rw [nI_clamp (by omega)]; rfl) ?_
    refine lv_istore_n (lv' := [(3, .int (nI (Z r))), (0, .ref m0), (1, .int (nI r)), (2, .int (nI 4))]) hx hb d_Mo_about_20 rfl hl (by decide) rfl (fun ls hl => ?_)
    refine lv_iload_n hx hb d_Mo_about_21 rfl (lv_at hl 3 rfl) ?_
    refine lv_tableIn (tgt := 91) (off := 69) hx hb d_Mo_about_22 (by decide) (by decide) (by rfl) (by decide) ?_
    refine lv_iconst (v := nI 0) hx hb d_Mo_about_91 (by decide) ?_
    refine lv_istore (lv' := [(4, .int (nI 0)), (3, .int (nI (Z r))), (0, .ref m0), (1, .int (nI r)), (2, .int (nI 4))]) hx hb d_Mo_about_92 hl (by decide) rfl (fun ls hl => ?_)
    refine lv_iconst (v := nI 0) hx hb d_Mo_about_94 (by decide) ?_
    refine lv_istore (lv' := [(5, .int (nI 0)), (4, .int (nI 0)), (3, .int (nI (Z r))), (0, .ref m0), (1, .int (nI r)), (2, .int (nI 4))]) hx hb d_Mo_about_95 hl (by decide) rfl (fun ls hl => ?_)
    have lp97 : ∀ (k : Nat) (i : Nat) (H : Heap) (locs : List Loc) (ls : Array Slot), (i + k = Z r) → va_P (dC, dI) vwCl [(m0, .inr (5, [.int (nI 0), .ref mu, .ref mz, .ref mb, .ref mr])), (mu, .inl (cI, 510, .inl (nf U))), (mz, .inl (cI, 2, .inl (nf Z))), (mb, .inl (cI, 1024, .inl (nf B))), (mr, .inl (cI, 11, .inl (nf b)))] H → va_D A [(m0, .inr (5, [.int (nI 0), .ref mu, .ref mz, .ref mb, .ref mr])), (mu, .inl (cI, 510, .inl (nf U))), (mz, .inl (cI, 2, .inl (nf Z))), (mb, .inl (cI, 1024, .inl (nf B))), (mr, .inl (cI, 11, .inl (nf b)))] → va_S A s.heap H locs → lv_has ls 6 [(0, .ref m0), (1, .int (nI r)), (3, .int (nI (Z r))), (4, .int (nI (esN (rv U r) i))), (5, .int (nI i))] → W p l e ({ frames := 1, cells := 0, slots := 0, locals := 22 } : Room) s m ([.ref m0, .int (nI r), .int (nI 4)] : List Value).toArray below meth c H locs 0 0 Q (F0 m 97 ls []) := by
      intro k
      induction k with
      | zero =>
        intro i H locs ls hi hP hD hS hl
        refine lv_iload hx hb d_Mo_about_97 (lv_at hl 4 rfl) ?_
        refine lv_iload_n hx hb d_Mo_about_99 rfl (lv_at hl 2 rfl) ?_
        refine lv_icmp_ge (tgt := 124) hx hb d_Mo_about_100 (by decide) (fun c_2 => ?_) (fun c_2 => ?_)
        · skip
          rw [nI_leI (by omega) (by omega)] at c_2
          refine lv_iload hx hb d_Mo_about_124 (lv_at hl 3 rfl) ?_
          exact mk_ti (by rw [show i = Z r by omega]) (hret _ _ _ _ d_Mo_about_126 hP hD hS)
        · skip
          rw [nI_leI (by omega) (by omega)] at c_2
          first | omega | contradiction
      | succ k ih97 =>
        intro i H locs ls hi hP hD hS hl
        refine lv_iload hx hb d_Mo_about_97 (lv_at hl 4 rfl) ?_
        refine lv_iload_n hx hb d_Mo_about_99 rfl (lv_at hl 2 rfl) ?_
        refine lv_icmp_ge (tgt := 124) hx hb d_Mo_about_100 (by decide) (fun c_3 => ?_) (fun c_3 => ?_)
        · skip
          rw [nI_leI (by omega) (by omega)] at c_3
          first | omega | contradiction
        · skip
          rw [nI_leI (by omega) (by omega)] at c_3
          refine lv_iload hx hb d_Mo_about_103 (lv_at hl 3 rfl) ?_
          refine lv_aload_n hx hb d_Mo_about_105 rfl (lv_at hl 0 rfl) ?_
          refine lv_iload_n hx hb d_Mo_about_106 rfl (lv_at hl 1 rfl) ?_
          refine lv_iload hx hb d_Mo_about_107 (lv_at hl 4 rfl) ?_
          refine mk_r1 (W.runV (As := [.int (nI r), .int (nI i)]) (rest := [.int (nI (esN (rv U r) i))]) S (c_Mo_at l dC dI cI m0 (nI 0) mu mz mb mr U r i (by first | assumption | omega) (by first | assumption | omega)) (gV 2 hts k_562 k_564 k_14 k_29 k_565 (by decide +kernel) ⟨Nat.le_of_ble_eq_true rfl, Nat.le_of_ble_eq_true rfl⟩) (mk_vR hP hK hT hS [0, 1] rfl (q0 := 0) (ci := 5) rfl rfl) rfl rfl hl.1 rfl (lv_room (Nat.le_of_ble_eq_true rfl)) d_Mo_about_109 ⟨Nat.zero_le _, Nat.zero_le _⟩) ?_
          have b_4 := (show rv U r i < 65536 from rv_lt (show ∀ j9, U j9 < 65536 by assumption) i)
          refine mk_r1 (W.runS (As := [.int (nI (rv U r i))]) (rest := [.int (nI (esN (rv U r) i))]) S (c_Mo_wd l dC dI cI (rv U r i) (by first | assumption | omega)) (gS 1 hts k_586 k_587 k_29 k_588 (by decide +kernel) ⟨Nat.le_of_ble_eq_true rfl, Nat.le_of_ble_eq_true rfl⟩) (mk_sR hP hK hT hS [] rfl) rfl rfl hl.1 rfl (lv_room (Nat.le_of_ble_eq_true rfl)) d_Mo_about_112 ⟨Nat.zero_le _, Nat.zero_le _⟩) ?_
          have b_5 := wdN_in (rv U r i)
          refine lv_iadd hx hb d_Mo_about_115 ?_
          refine mk_ti (y := nI (esN (rv U r) i + wdN (rv U r i))) (nI_add (esN (rv U r) i) (wdN (rv U r i))) ?_
          refine lv_istore (lv' := [(4, .int (nI (esN (rv U r) i + wdN (rv U r i)))), (0, .ref m0), (1, .int (nI r)), (3, .int (nI (Z r))), (5, .int (nI i))]) hx hb d_Mo_about_116 hl (by decide) rfl (fun ls hl => ?_)
          refine lv_iinc (v := nI (i + 1)) (lv' := [(5, .int (nI (i + 1))), (4, .int (nI (esN (rv U r) i + wdN (rv U r i)))), (0, .ref m0), (1, .int (nI r)), (3, .int (nI (Z r)))]) hx hb d_Mo_about_118 hl (k := 4) rfl (mk_i1 i) (by decide) rfl (fun ls hl => ?_)
          refine lv_goto (tgt := 97) hx hb d_Mo_about_121 (by decide) ?_
          have hl : lv_has ls 6 [(0, .ref m0), (1, .int (nI r)), (3, .int (nI (Z r))), (4, .int (nI (esN (rv U r) i + wdN (rv U r i)))), (5, .int (nI (i + 1)))] := lv_sub hl [2, 3, 4, 1, 0] rfl
          have hl9 : ([(0, .ref m0), (1, .int (nI r)), (3, .int (nI (Z r))), (4, .int (nI (esN (rv U r) i + wdN (rv U r i)))), (5, .int (nI (i + 1)))] : List (Nat × Value)) = [(0, .ref m0), (1, .int (nI r)), (3, .int (nI (Z r))), (4, .int (nI (esN (rv U r) (i + 1)))), (5, .int (nI (i + 1)))] := by rfl
          rw [hl9] at hl
          exact ih97 (i + 1) _ _ _ (by omega) hP hD hS hl
    have hl : lv_has ls 6 [(0, .ref m0), (1, .int (nI r)), (3, .int (nI (Z r))), (4, .int (nI 0)), (5, .int (nI 0))] := lv_sub hl [3, 4, 2, 1, 0] rfl
    have hl9 : ([(0, .ref m0), (1, .int (nI r)), (3, .int (nI (Z r))), (4, .int (nI 0)), (5, .int (nI 0))] : List (Nat × Value)) = [(0, .ref m0), (1, .int (nI r)), (3, .int (nI (Z r))), (4, .int (nI (esN (rv U r) 0))), (5, .int (nI 0))] := by rfl
    rw [hl9] at hl
    exact lp97 (Z r) 0 _ _ _ (by omega) hP hD hS hl
  · skip
    rw [mk_ceq (by omega)] at c_1
    first | omega | contradiction

set_option maxHeartbeats 1000000 in
set_option maxRecDepth 100000 in
theorem c_Mo_aboutw (l : Launch) (dC : Nat → ClassId) (dI : Nat → Nat → Nat) (cI : ClassId) (m0 : Nat) (th : Int32) (mu mz mb mr : Nat) (U Z B b : Nat → Nat) (r : Nat) (w : Int32) (hU : ∀ j, U j < 65536) (hZ : ∀ j, Z j ≤ 255) (hB : ∀ j, B j < 65536) (hb9 : ∀ j, b j < 65536) (hr : r < 2) (hw : w < 0 ∨ nI 4 < w) : mM l y_Mo_about w_Mo_about ({ frames := 1, cells := 0, slots := 0, locals := 20 } : Room) [.ref m0, .int (nI r), .int w] (dC, dI) vwCl [(cI, .int)] [(m0, .inr (5, [.int th, .ref mu, .ref mz, .ref mb, .ref mr])), (mu, .inl (cI, 510, .inl (nf U))), (mz, .inl (cI, 2, .inl (nf Z))), (mb, .inl (cI, 1024, .inl (nf B))), (mr, .inl (cI, 11, .inl (nf b)))] (some (.int (-1))) [(m0, .inr (5, [.int (nI 0), .ref mu, .ref mz, .ref mb, .ref mr])), (mu, .inl (cI, 510, .inl (nf U))), (mz, .inl (cI, 2, .inl (nf Z))), (mb, .inl (cI, 1024, .inl (nf B))), (mr, .inl (cI, 11, .inl (nf b)))] := by
  have hZr := hZ r
  refine mk_Mi (cc := b_Mo_about) (maxL := 6) (by decide) rfl (Nat.le_of_ble_eq_true rfl) rfl ?_
  intro p e s m below meth c Q A ls S hP hK hT hS hl hD hA hret
  obtain ⟨hx, hb, hml, hown, hts⟩ := id S
  have hl : lv_has ls 6 [(0, .ref m0), (1, .int (nI r)), (2, .int w)] := hl
  refine lv_aload_n hx hb d_Mo_about_0 rfl (lv_at hl 0 rfl) ?_
  refine lv_iconst (v := nI 0) hx hb d_Mo_about_1 (by decide) ?_
  refine va_put (D := (dC, dI)) (ci := 5) (v := .int (nI 0)) (ty := .int) (C := "LongNamesModel") (T := F_Mo) (N := 5) hx hb hts (iw_Mo _) t_Mo t_Mo_ok n_Mo hown hK hP hD hS 0 rfl rfl 0 (by decide) (hts _ (List.mem_cons_of_mem _ k_522)) (fun _ h9 => h9) rfl (by decide +kernel) rfl rfl (Nat.le_of_ble_eq_true rfl) d_Mo_about_2 (fun H locs hP hD hS => ?_)
  have hP : va_P (dC, dI) vwCl [(m0, .inr (5, [.int (nI 0), .ref mu, .ref mz, .ref mb, .ref mr])), (mu, .inl (cI, 510, .inl (nf U))), (mz, .inl (cI, 2, .inl (nf Z))), (mb, .inl (cI, 1024, .inl (nf B))), (mr, .inl (cI, 11, .inl (nf b)))] H := hP
  have hD : va_D A [(m0, .inr (5, [.int (nI 0), .ref mu, .ref mz, .ref mb, .ref mr])), (mu, .inl (cI, 510, .inl (nf U))), (mz, .inl (cI, 2, .inl (nf Z))), (mb, .inl (cI, 1024, .inl (nf B))), (mr, .inl (cI, 11, .inl (nf b)))] := hD
  refine lv_iload_n hx hb d_Mo_about_5 rfl (lv_at hl 1 rfl) ?_
  refine mk_r1 (W.runS (As := [.int (nI r)]) (rest := []) S (c_Mo_rowN l dC dI cI r (by first | assumption | omega)) (gS 1 hts k_546 k_547 k_29 k_548 (by decide +kernel) ⟨Nat.le_of_ble_eq_true rfl, Nat.le_of_ble_eq_true rfl⟩) (mk_sR hP hK hT hS [] rfl) rfl rfl hl.1 rfl (lv_room (Nat.le_of_ble_eq_true rfl)) d_Mo_about_6 ⟨Nat.zero_le _, Nat.zero_le _⟩) ?_
  refine lv_if_ne (tgt := 14) hx hb d_Mo_about_9 (by decide) (fun c_1 => ?_) (fun c_1 => ?_)
  · skip
    rw [mk_ceq (by omega)] at c_1
    refine lv_aload_n hx hb d_Mo_about_14 rfl (lv_at hl 0 rfl) ?_
    refine va_get (D := (dC, dI)) (ci := 5) (v := .ref mz) (C := "LongNamesModel") (T := F_Mo) (N := 5) hx hb hts (iw_Mo _) hown hK hP 0 rfl rfl 2 (by decide) (hts _ (List.mem_cons_of_mem _ k_524)) (fun _ h9 => h9) rfl d_Mo_about_15 ?_
    refine lv_iload_n hx hb d_Mo_about_18 rfl (lv_at hl 1 rfl) ?_
    refine va_iald hx hb hK hP 2 0 rfl rfl (vp_in_nI (N := 2) (show r < 2 by omega) (by decide)) d_Mo_about_19 ?_
    refine mk_ti (y := nI (Z r)) (by rw [nI_clamp (by omega)]; rfl) ?_
    refine lv_istore_n (lv' := [(3, .int (nI (Z r))), (0, .ref m0), (1, .int (nI r)), (2, .int w)]) hx hb d_Mo_about_20 rfl hl (by decide) rfl (fun ls hl => ?_)
    refine lv_iload_n hx hb d_Mo_about_21 rfl (lv_at hl 3 rfl) ?_
    refine lv_tableOut (tgt := 127) hx hb d_Mo_about_22 (mk_tout hw (by decide)) (by decide) ?_
    refine lv_iconst (v := (-1)) hx hb d_Mo_about_127 (by decide) ?_
    exact hret _ _ _ _ d_Mo_about_128 hP hD hS
  · skip
    rw [mk_ceq (by omega)] at c_1
    first | omega | contradiction

set_option maxHeartbeats 1000000 in
set_option maxRecDepth 100000 in
theorem c_Mo_aboutx (l : Launch) (dC : Nat → ClassId) (dI : Nat → Nat → Nat) (cI : ClassId) (m0 : Nat) (th : Int32) (mu mz mb mr : Nat) (U Z B b : Nat → Nat) (r w : Int32) (hU : ∀ j, U j < 65536) (hZ : ∀ j, Z j ≤ 255) (hB : ∀ j, B j < 65536) (hb9 : ∀ j, b j < 65536) (hr0 : ¬ r = 0) (hr1 : ¬ r = nI 1)  : mM l y_Mo_about w_Mo_about ({ frames := 1, cells := 0, slots := 0, locals := 20 } : Room) [.ref m0, .int r, .int w] (dC, dI) vwCl [(cI, .int)] [(m0, .inr (5, [.int th, .ref mu, .ref mz, .ref mb, .ref mr])), (mu, .inl (cI, 510, .inl (nf U))), (mz, .inl (cI, 2, .inl (nf Z))), (mb, .inl (cI, 1024, .inl (nf B))), (mr, .inl (cI, 11, .inl (nf b)))] (some (.int (-1))) [(m0, .inr (5, [.int (nI 0), .ref mu, .ref mz, .ref mb, .ref mr])), (mu, .inl (cI, 510, .inl (nf U))), (mz, .inl (cI, 2, .inl (nf Z))), (mb, .inl (cI, 1024, .inl (nf B))), (mr, .inl (cI, 11, .inl (nf b)))] := by
  refine mk_Mi (cc := b_Mo_about) (maxL := 6) (by decide) rfl (Nat.le_of_ble_eq_true rfl) rfl ?_
  intro p e s m below meth c Q A ls S hP hK hT hS hl hD hA hret
  obtain ⟨hx, hb, hml, hown, hts⟩ := id S
  have hl : lv_has ls 6 [(0, .ref m0), (1, .int r), (2, .int w)] := hl
  refine lv_aload_n hx hb d_Mo_about_0 rfl (lv_at hl 0 rfl) ?_
  refine lv_iconst (v := nI 0) hx hb d_Mo_about_1 (by decide) ?_
  refine va_put (D := (dC, dI)) (ci := 5) (v := .int (nI 0)) (ty := .int) (C := "LongNamesModel") (T := F_Mo) (N := 5) hx hb hts (iw_Mo _) t_Mo t_Mo_ok n_Mo hown hK hP hD hS 0 rfl rfl 0 (by decide) (hts _ (List.mem_cons_of_mem _ k_522)) (fun _ h9 => h9) rfl (by decide +kernel) rfl rfl (Nat.le_of_ble_eq_true rfl) d_Mo_about_2 (fun H locs hP hD hS => ?_)
  have hP : va_P (dC, dI) vwCl [(m0, .inr (5, [.int (nI 0), .ref mu, .ref mz, .ref mb, .ref mr])), (mu, .inl (cI, 510, .inl (nf U))), (mz, .inl (cI, 2, .inl (nf Z))), (mb, .inl (cI, 1024, .inl (nf B))), (mr, .inl (cI, 11, .inl (nf b)))] H := hP
  have hD : va_D A [(m0, .inr (5, [.int (nI 0), .ref mu, .ref mz, .ref mb, .ref mr])), (mu, .inl (cI, 510, .inl (nf U))), (mz, .inl (cI, 2, .inl (nf Z))), (mb, .inl (cI, 1024, .inl (nf B))), (mr, .inl (cI, 11, .inl (nf b)))] := hD
  refine lv_iload_n hx hb d_Mo_about_5 rfl (lv_at hl 1 rfl) ?_
  refine mk_r1 (W.runS (As := [.int r]) (rest := []) S (c_Mo_rowX l dC dI cI r (by first | assumption | omega) (by first | assumption | omega)) (gS 1 hts k_546 k_547 k_29 k_548 (by decide +kernel) ⟨Nat.le_of_ble_eq_true rfl, Nat.le_of_ble_eq_true rfl⟩) (mk_sR hP hK hT hS [] rfl) rfl rfl hl.1 rfl (lv_room (Nat.le_of_ble_eq_true rfl)) d_Mo_about_6 ⟨Nat.zero_le _, Nat.zero_le _⟩) ?_
  refine lv_if_ne (tgt := 14) hx hb d_Mo_about_9 (by decide) (fun c_1 => ?_) (fun c_1 => ?_)
  · skip
    rw [mk_ceq (by omega)] at c_1
    first | omega | contradiction
  · skip
    rw [mk_ceq (by omega)] at c_1
    refine lv_iconst (v := (-1)) hx hb d_Mo_about_12 (by decide) ?_
    exact hret _ _ _ _ d_Mo_about_13 hP hD hS

set_option maxHeartbeats 1000000 in
set_option maxRecDepth 100000 in
theorem c_Mo_letter (l : Launch) (dC : Nat → ClassId) (dI : Nat → Nat → Nat) (cI : ClassId) (m0 : Nat) (th : Int32) (mu mz mb mr : Nat) (U Z B b : Nat → Nat) (r t : Nat) (hU : ∀ j, U j < 65536) (hZ : ∀ j, Z j ≤ 255) (hB : ∀ j, B j < 65536) (hb9 : ∀ j, b j < 65536) (hr : r < 2) (ht : t < 2 ^ 31) : mM l y_Mo_letter w_Mo_letter ({ frames := 1, cells := 0, slots := 0, locals := 22 } : Room) [.ref m0, .int (nI r), .int (nI t)] (dC, dI) vwCl [(cI, .int)] [(m0, .inr (5, [.int th, .ref mu, .ref mz, .ref mb, .ref mr])), (mu, .inl (cI, 510, .inl (nf U))), (mz, .inl (cI, 2, .inl (nf Z))), (mb, .inl (cI, 1024, .inl (nf B))), (mr, .inl (cI, 11, .inl (nf b)))] (some (.int (ebL (rv U r) (Z r) 0 t))) [(m0, .inr (5, [.int (nI 0), .ref mu, .ref mz, .ref mb, .ref mr])), (mu, .inl (cI, 510, .inl (nf U))), (mz, .inl (cI, 2, .inl (nf Z))), (mb, .inl (cI, 1024, .inl (nf B))), (mr, .inl (cI, 11, .inl (nf b)))] := by
  have hZr := hZ r
  refine mk_Mi (cc := b_Mo_letter) (maxL := 9) (by decide) rfl (Nat.le_of_ble_eq_true rfl) rfl ?_
  intro p e s m below meth c Q A ls S hP hK hT hS hl hD hA hret
  obtain ⟨hx, hb, hml, hown, hts⟩ := id S
  have hl : lv_has ls 9 [(0, .ref m0), (1, .int (nI r)), (2, .int (nI t))] := hl
  refine lv_aload_n hx hb d_Mo_letter_0 rfl (lv_at hl 0 rfl) ?_
  refine lv_iconst (v := nI 0) hx hb d_Mo_letter_1 (by decide) ?_
  refine va_put (D := (dC, dI)) (ci := 5) (v := .int (nI 0)) (ty := .int) (C := "LongNamesModel") (T := F_Mo) (N := 5) hx hb hts (iw_Mo _) t_Mo t_Mo_ok n_Mo hown hK hP hD hS 0 rfl rfl 0 (by decide) (hts _ (List.mem_cons_of_mem _ k_522)) (fun _ h9 => h9) rfl (by decide +kernel) rfl rfl (Nat.le_of_ble_eq_true rfl) d_Mo_letter_2 (fun H locs hP hD hS => ?_)
  have hP : va_P (dC, dI) vwCl [(m0, .inr (5, [.int (nI 0), .ref mu, .ref mz, .ref mb, .ref mr])), (mu, .inl (cI, 510, .inl (nf U))), (mz, .inl (cI, 2, .inl (nf Z))), (mb, .inl (cI, 1024, .inl (nf B))), (mr, .inl (cI, 11, .inl (nf b)))] H := hP
  have hD : va_D A [(m0, .inr (5, [.int (nI 0), .ref mu, .ref mz, .ref mb, .ref mr])), (mu, .inl (cI, 510, .inl (nf U))), (mz, .inl (cI, 2, .inl (nf Z))), (mb, .inl (cI, 1024, .inl (nf B))), (mr, .inl (cI, 11, .inl (nf b)))] := hD
  refine lv_iload_n hx hb d_Mo_letter_5 rfl (lv_at hl 1 rfl) ?_
  refine mk_r1 (W.runS (As := [.int (nI r)]) (rest := []) S (c_Mo_rowN l dC dI cI r (by first | assumption | omega)) (gS 1 hts k_546 k_547 k_29 k_548 (by decide +kernel) ⟨Nat.le_of_ble_eq_true rfl, Nat.le_of_ble_eq_true rfl⟩) (mk_sR hP hK hT hS [] rfl) rfl rfl hl.1 rfl (lv_room (Nat.le_of_ble_eq_true rfl)) d_Mo_letter_6 ⟨Nat.zero_le _, Nat.zero_le _⟩) ?_
  refine lv_if_eq (tgt := 16) hx hb d_Mo_letter_9 (by decide) (fun c_1 => ?_) (fun c_1 => ?_)
  · skip
    rw [mk_ceq (by omega)] at c_1
    first | omega | contradiction
  · skip
    rw [mk_ceq (by omega)] at c_1
    refine lv_iload_n hx hb d_Mo_letter_12 rfl (lv_at hl 2 rfl) ?_
    refine lv_if_ge (tgt := 18) hx hb d_Mo_letter_13 (by decide) (fun c_2 => ?_) (fun c_2 => ?_)
    · skip
      rw [mk_cge (by omega)] at c_2
      refine lv_iconst (v := nI 0) hx hb d_Mo_letter_18 (by decide) ?_
      refine lv_istore_n (lv' := [(3, .int (nI 0)), (0, .ref m0), (1, .int (nI r)), (2, .int (nI t))]) hx hb d_Mo_letter_19 rfl hl (by decide) rfl (fun ls hl => ?_)
      refine lv_iconst (v := nI 0) hx hb d_Mo_letter_20 (by decide) ?_
      refine lv_istore (lv' := [(4, .int (nI 0)), (3, .int (nI 0)), (0, .ref m0), (1, .int (nI r)), (2, .int (nI t))]) hx hb d_Mo_letter_21 hl (by decide) rfl (fun ls hl => ?_)
      have lp23 : ∀ (k : Nat) (i fr : Nat) (H : Heap) (locs : List Loc) (ls : Array Slot), (i + k = Z r) → (fr ≤ t) → (fr ≤ 3 * i) → (ebL (rv U r) (Z r) 0 t = ebL (rv U r) k i (t - fr)) → va_P (dC, dI) vwCl [(m0, .inr (5, [.int (nI 0), .ref mu, .ref mz, .ref mb, .ref mr])), (mu, .inl (cI, 510, .inl (nf U))), (mz, .inl (cI, 2, .inl (nf Z))), (mb, .inl (cI, 1024, .inl (nf B))), (mr, .inl (cI, 11, .inl (nf b)))] H → va_D A [(m0, .inr (5, [.int (nI 0), .ref mu, .ref mz, .ref mb, .ref mr])), (mu, .inl (cI, 510, .inl (nf U))), (mz, .inl (cI, 2, .inl (nf Z))), (mb, .inl (cI, 1024, .inl (nf B))), (mr, .inl (cI, 11, .inl (nf b)))] → va_S A s.heap H locs → lv_has ls 9 [(0, .ref m0), (1, .int (nI r)), (2, .int (nI t)), (3, .int (nI fr)), (4, .int (nI i))] → W p l e ({ frames := 1, cells := 0, slots := 0, locals := 22 } : Room) s m ([.ref m0, .int (nI r), .int (nI t)] : List Value).toArray below meth c H locs 0 0 Q (F0 m 23 ls []) := by
        intro k
        induction k with
        | zero =>
          intro i fr H locs ls hi hf1 hf2 he hP hD hS hl
          refine lv_iload hx hb d_Mo_letter_23 (lv_at hl 4 rfl) ?_
          refine lv_aload_n hx hb d_Mo_letter_25 rfl (lv_at hl 0 rfl) ?_
          refine va_get (D := (dC, dI)) (ci := 5) (v := .ref mz) (C := "LongNamesModel") (T := F_Mo) (N := 5) hx hb hts (iw_Mo _) hown hK hP 0 rfl rfl 2 (by decide) (hts _ (List.mem_cons_of_mem _ k_524)) (fun _ h9 => h9) rfl d_Mo_letter_26 ?_
          refine lv_iload_n hx hb d_Mo_letter_29 rfl (lv_at hl 1 rfl) ?_
          refine va_iald hx hb hK hP 2 0 rfl rfl (vp_in_nI (N := 2) (show r < 2 by omega) (by decide)) d_Mo_letter_30 ?_
          refine mk_ti (y := nI (Z r)) (by rw [nI_clamp (by omega)]; rfl) ?_
          refine lv_icmp_ge (tgt := 139) hx hb d_Mo_letter_31 (by decide) (fun c_3 => ?_) (fun c_3 => ?_)
          · skip
            rw [nI_leI (by omega) (by omega)] at c_3
            refine lv_iconst (v := (-1)) hx hb d_Mo_letter_139 (by decide) ?_
            exact mk_ti (by rw [he]; rfl) (hret _ _ _ _ d_Mo_letter_140 hP hD hS)
          · skip
            rw [nI_leI (by omega) (by omega)] at c_3
            first | omega | contradiction
        | succ k ih23 =>
          intro i fr H locs ls hi hf1 hf2 he hP hD hS hl
          refine lv_iload hx hb d_Mo_letter_23 (lv_at hl 4 rfl) ?_
          refine lv_aload_n hx hb d_Mo_letter_25 rfl (lv_at hl 0 rfl) ?_
          refine va_get (D := (dC, dI)) (ci := 5) (v := .ref mz) (C := "LongNamesModel") (T := F_Mo) (N := 5) hx hb hts (iw_Mo _) hown hK hP 0 rfl rfl 2 (by decide) (hts _ (List.mem_cons_of_mem _ k_524)) (fun _ h9 => h9) rfl d_Mo_letter_26 ?_
          refine lv_iload_n hx hb d_Mo_letter_29 rfl (lv_at hl 1 rfl) ?_
          refine va_iald hx hb hK hP 2 0 rfl rfl (vp_in_nI (N := 2) (show r < 2 by omega) (by decide)) d_Mo_letter_30 ?_
          refine mk_ti (y := nI (Z r)) (by rw [nI_clamp (by omega)]; rfl) ?_
          refine lv_icmp_ge (tgt := 139) hx hb d_Mo_letter_31 (by decide) (fun c_4 => ?_) (fun c_4 => ?_)
          · skip
            rw [nI_leI (by omega) (by omega)] at c_4
            first | omega | contradiction
          · skip
            rw [nI_leI (by omega) (by omega)] at c_4
            refine lv_aload_n hx hb d_Mo_letter_34 rfl (lv_at hl 0 rfl) ?_
            refine lv_iload_n hx hb d_Mo_letter_35 rfl (lv_at hl 1 rfl) ?_
            refine lv_iload hx hb d_Mo_letter_36 (lv_at hl 4 rfl) ?_
            refine mk_r1 (W.runV (As := [.int (nI r), .int (nI i)]) (rest := []) S (c_Mo_at l dC dI cI m0 (nI 0) mu mz mb mr U r i (by first | assumption | omega) (by first | assumption | omega)) (gV 2 hts k_562 k_564 k_14 k_29 k_565 (by decide +kernel) ⟨Nat.le_of_ble_eq_true rfl, Nat.le_of_ble_eq_true rfl⟩) (mk_vR hP hK hT hS [0, 1] rfl (q0 := 0) (ci := 5) rfl rfl) rfl rfl hl.1 rfl (lv_room (Nat.le_of_ble_eq_true rfl)) d_Mo_letter_38 ⟨Nat.zero_le _, Nat.zero_le _⟩) ?_
            have b_5 := (show rv U r i < 65536 from rv_lt (show ∀ j9, U j9 < 65536 by assumption) i)
            refine lv_istore (lv' := [(5, .int (nI (rv U r i))), (0, .ref m0), (1, .int (nI r)), (2, .int (nI t)), (3, .int (nI fr)), (4, .int (nI i))]) hx hb d_Mo_letter_41 hl (by decide) rfl (fun ls hl => ?_)
            refine lv_iload hx hb d_Mo_letter_43 (lv_at hl 0 rfl) ?_
            refine mk_r1 (W.runS (As := [.int (nI (rv U r i))]) (rest := []) S (c_Mo_wd l dC dI cI (rv U r i) (by first | assumption | omega)) (gS 1 hts k_586 k_587 k_29 k_588 (by decide +kernel) ⟨Nat.le_of_ble_eq_true rfl, Nat.le_of_ble_eq_true rfl⟩) (mk_sR hP hK hT hS [] rfl) rfl rfl hl.1 rfl (lv_room (Nat.le_of_ble_eq_true rfl)) d_Mo_letter_45 ⟨Nat.zero_le _, Nat.zero_le _⟩) ?_
            have b_6 := wdN_in (rv U r i)
            refine lv_istore (lv' := [(6, .int (nI (wdN (rv U r i)))), (5, .int (nI (rv U r i))), (0, .ref m0), (1, .int (nI r)), (2, .int (nI t)), (3, .int (nI fr)), (4, .int (nI i))]) hx hb d_Mo_letter_48 hl (by decide) rfl (fun ls hl => ?_)
            refine lv_iload_n hx hb d_Mo_letter_50 rfl (lv_at hl 4 rfl) ?_
            refine lv_iload_n hx hb d_Mo_letter_51 rfl (lv_at hl 5 rfl) ?_
            refine lv_iload hx hb d_Mo_letter_52 (lv_at hl 0 rfl) ?_
            refine lv_iadd hx hb d_Mo_letter_54 ?_
            refine mk_ti (y := nI (fr + wdN (rv U r i))) (nI_add fr (wdN (rv U r i))) ?_
            refine lv_icmp_ge (tgt := 128) hx hb d_Mo_letter_55 (by decide) (fun c_7 => ?_) (fun c_7 => ?_)
            · skip
              rw [nI_leI (by omega) (by omega)] at c_7
              refine lv_iload_n hx hb d_Mo_letter_128 rfl (lv_at hl 5 rfl) ?_
              refine lv_iload hx hb d_Mo_letter_129 (lv_at hl 0 rfl) ?_
              refine lv_iadd hx hb d_Mo_letter_131 ?_
              refine mk_ti (y := nI (fr + wdN (rv U r i))) (nI_add fr (wdN (rv U r i))) ?_
              refine lv_istore_n (lv' := [(3, .int (nI (fr + wdN (rv U r i)))), (6, .int (nI (wdN (rv U r i)))), (5, .int (nI (rv U r i))), (0, .ref m0), (1, .int (nI r)), (2, .int (nI t)), (4, .int (nI i))]) hx hb d_Mo_letter_132 rfl hl (by decide) rfl (fun ls hl => ?_)
              refine lv_iinc (v := nI (i + 1)) (lv' := [(4, .int (nI (i + 1))), (3, .int (nI (fr + wdN (rv U r i)))), (6, .int (nI (wdN (rv U r i)))), (5, .int (nI (rv U r i))), (0, .ref m0), (1, .int (nI r)), (2, .int (nI t))]) hx hb d_Mo_letter_133 hl (k := 6) rfl (mk_i1 i) (by decide) rfl (fun ls hl => ?_)
              refine lv_goto (tgt := 23) hx hb d_Mo_letter_136 (by decide) ?_
              have hl : lv_has ls 9 [(0, .ref m0), (1, .int (nI r)), (2, .int (nI t)), (3, .int (nI (fr + wdN (rv U r i)))), (4, .int (nI (i + 1)))] := lv_sub hl [4, 5, 6, 1, 0] rfl
              exact ih23 (i + 1) (fr + wdN (rv U r i)) _ _ _ (by omega) (by omega) (by omega) (he.trans (by rw [ebL, if_neg (by omega), show t - fr - wdN (rv U r i) = t - (fr + wdN (rv U r i)) by omega])) hP hD hS hl
            · skip
              rw [nI_leI (by omega) (by omega)] at c_7
              refine lv_iload_n hx hb d_Mo_letter_58 rfl (lv_at hl 5 rfl) ?_
              refine lv_iload hx hb d_Mo_letter_59 (lv_at hl 0 rfl) ?_
              refine lv_iadd hx hb d_Mo_letter_61 ?_
              refine mk_ti (y := nI (fr + wdN (rv U r i))) (nI_add fr (wdN (rv U r i))) ?_
              refine lv_iconst (v := nI 1) hx hb d_Mo_letter_62 (by decide) ?_
              refine lv_isub hx hb d_Mo_letter_63 ?_
              refine mk_ti (y := nI (fr + wdN (rv U r i) - 1)) (pk_sub (by omega)) ?_
              refine lv_iload_n hx hb d_Mo_letter_64 rfl (lv_at hl 4 rfl) ?_
              refine lv_isub hx hb d_Mo_letter_65 ?_
              refine mk_ti (y := nI (wdN (rv U r i) - 1 - (t - fr))) (by rw [pk_sub (by omega)]; congr 1; omega) ?_
              refine lv_istore (lv' := [(7, .int (nI (wdN (rv U r i) - 1 - (t - fr)))), (6, .int (nI (wdN (rv U r i)))), (5, .int (nI (rv U r i))), (0, .ref m0), (1, .int (nI r)), (2, .int (nI t)), (3, .int (nI fr)), (4, .int (nI i))]) hx hb d_Mo_letter_66 hl (by decide) rfl (fun ls hl => ?_)
              refine lv_iload hx hb d_Mo_letter_68 (lv_at hl 2 rfl) ?_
              refine lv_bipush (v := nI 6) hx hb d_Mo_letter_70 (by decide) ?_
              refine lv_iload hx hb d_Mo_letter_72 (lv_at hl 0 rfl) ?_
              refine lv_imul hx hb d_Mo_letter_74 ?_
              refine mk_ti (y := nI (6 * (wdN (rv U r i) - 1 - (t - fr)))) (pk_mul 6 (wdN (rv U r i) - 1 - (t - fr))) ?_
              refine lv_ishr hx hb d_Mo_letter_75 ?_
              refine mk_ti (y := nI (rv U r i / 2 ^ (6 * (wdN (rv U r i) - 1 - (t - fr))))) (mk_shr6 (by omega) (by omega)) ?_
              refine lv_istore (lv' := [(8, .int (nI (rv U r i / 2 ^ (6 * (wdN (rv U r i) - 1 - (t - fr)))))), (7, .int (nI (wdN (rv U r i) - 1 - (t - fr)))), (6, .int (nI (wdN (rv U r i)))), (5, .int (nI (rv U r i))), (0, .ref m0), (1, .int (nI r)), (2, .int (nI t)), (3, .int (nI fr)), (4, .int (nI i))]) hx hb d_Mo_letter_76 hl (by decide) rfl (fun ls hl => ?_)
              refine lv_iload_n hx hb d_Mo_letter_78 rfl (lv_at hl 6 rfl) ?_
              refine lv_iload_n hx hb d_Mo_letter_79 rfl (lv_at hl 7 rfl) ?_
              refine lv_icmp_le (tgt := 95) hx hb d_Mo_letter_80 (by decide) (fun c_8 => ?_) (fun c_8 => ?_)
              · skip
                rw [nI_leI (by omega) (by omega)] at c_8
                refine lv_iload hx hb d_Mo_letter_95 (lv_at hl 2 rfl) ?_
                refine lv_iconst (v := nI 1) hx hb d_Mo_letter_97 (by decide) ?_
                refine lv_icmp_ne (tgt := 106) hx hb d_Mo_letter_98 (by decide) (fun c_9 => ?_) (fun c_9 => ?_)
                · skip
                  rw [nI_eq (by omega) (by omega)] at c_9
                  refine lv_iload hx hb d_Mo_letter_106 (lv_at hl 2 rfl) ?_
                  refine lv_iconst (v := nI 2) hx hb d_Mo_letter_108 (by decide) ?_
                  refine lv_icmp_ne (tgt := 121) hx hb d_Mo_letter_109 (by decide) (fun c_10 => ?_) (fun c_10 => ?_)
                  · skip
                    rw [nI_eq (by omega) (by omega)] at c_10
                    refine lv_sipush (v := nI 224) hx hb d_Mo_letter_121 (by decide) ?_
                    refine lv_iload hx hb d_Mo_letter_124 (lv_at hl 0 rfl) ?_
                    refine lv_iadd hx hb d_Mo_letter_126 ?_
                    refine mk_ti (y := nI (224 + rv U r i / 2 ^ (6 * (wdN (rv U r i) - 1 - (t - fr))))) (nI_add 224 (rv U r i / 2 ^ (6 * (wdN (rv U r i) - 1 - (t - fr))))) ?_
                    exact mk_ti (by rw [he, ebL, if_pos (by omega), eb_m3 (by omega) (by omega) (by omega)]) (hret _ _ _ _ d_Mo_letter_127 hP hD hS)
                  · skip
                    rw [nI_eq (by omega) (by omega)] at c_10
                    refine lv_sipush (v := nI 192) hx hb d_Mo_letter_112 (by decide) ?_
                    refine lv_iload hx hb d_Mo_letter_115 (lv_at hl 0 rfl) ?_
                    refine lv_iadd hx hb d_Mo_letter_117 ?_
                    refine mk_ti (y := nI (192 + rv U r i / 2 ^ (6 * (wdN (rv U r i) - 1 - (t - fr))))) (nI_add 192 (rv U r i / 2 ^ (6 * (wdN (rv U r i) - 1 - (t - fr))))) ?_
                    refine lv_goto (tgt := 127) hx hb d_Mo_letter_118 (by decide) ?_
                    exact mk_ti (by rw [he, ebL, if_pos (by omega), eb_m2 (by omega) (by omega)]) (hret _ _ _ _ d_Mo_letter_127 hP hD hS)
                · skip
                  rw [nI_eq (by omega) (by omega)] at c_9
                  refine lv_iload hx hb d_Mo_letter_101 (lv_at hl 3 rfl) ?_
                  refine lv_goto (tgt := 127) hx hb d_Mo_letter_103 (by decide) ?_
                  exact mk_ti (by rw [he, ebL, if_pos (by omega), eb_m0 (by omega) (by omega)]) (hret _ _ _ _ d_Mo_letter_127 hP hD hS)
              · skip
                rw [nI_leI (by omega) (by omega)] at c_8
                refine lv_sipush (v := nI 128) hx hb d_Mo_letter_83 (by decide) ?_
                refine lv_iload hx hb d_Mo_letter_86 (lv_at hl 0 rfl) ?_
                refine lv_bipush (v := nI 63) hx hb d_Mo_letter_88 (by decide) ?_
                refine lv_iand hx hb d_Mo_letter_90 ?_
                refine mk_ti (y := nI (rv U r i / 2 ^ (6 * (wdN (rv U r i) - 1 - (t - fr))) % 2 ^ 6)) (pk_andN (Nat.lt_of_le_of_lt (Nat.div_le_self _ _) (by omega)) 6 (by decide)) ?_
                refine lv_iadd hx hb d_Mo_letter_91 ?_
                refine mk_ti (y := nI (128 + rv U r i / 2 ^ (6 * (wdN (rv U r i) - 1 - (t - fr))) % 2 ^ 6)) (nI_add 128 (rv U r i / 2 ^ (6 * (wdN (rv U r i) - 1 - (t - fr))) % 2 ^ 6)) ?_
                refine lv_goto (tgt := 127) hx hb d_Mo_letter_92 (by decide) ?_
                exact mk_ti (by rw [he, ebL, if_pos (by omega), eb_m1 (by omega) (by omega)]) (hret _ _ _ _ d_Mo_letter_127 hP hD hS)
      have hl : lv_has ls 9 [(0, .ref m0), (1, .int (nI r)), (2, .int (nI t)), (3, .int (nI 0)), (4, .int (nI 0))] := lv_sub hl [2, 3, 4, 1, 0] rfl
      exact lp23 (Z r) 0 0 _ _ _ (by omega) (by omega) (by omega) rfl hP hD hS hl
    · skip
      rw [mk_cge (by omega)] at c_2
      first | omega | contradiction

set_option maxHeartbeats 1000000 in
set_option maxRecDepth 100000 in
theorem c_Mo_lettert (l : Launch) (dC : Nat → ClassId) (dI : Nat → Nat → Nat) (cI : ClassId) (m0 : Nat) (th : Int32) (mu mz mb mr : Nat) (U Z B b : Nat → Nat) (r : Nat) (t : Int32) (hU : ∀ j, U j < 65536) (hZ : ∀ j, Z j ≤ 255) (hB : ∀ j, B j < 65536) (hb9 : ∀ j, b j < 65536) (hr : r < 2) (ht : t < 0) : mM l y_Mo_letter w_Mo_letter ({ frames := 1, cells := 0, slots := 0, locals := 20 } : Room) [.ref m0, .int (nI r), .int t] (dC, dI) vwCl [(cI, .int)] [(m0, .inr (5, [.int th, .ref mu, .ref mz, .ref mb, .ref mr])), (mu, .inl (cI, 510, .inl (nf U))), (mz, .inl (cI, 2, .inl (nf Z))), (mb, .inl (cI, 1024, .inl (nf B))), (mr, .inl (cI, 11, .inl (nf b)))] (some (.int (-1))) [(m0, .inr (5, [.int (nI 0), .ref mu, .ref mz, .ref mb, .ref mr])), (mu, .inl (cI, 510, .inl (nf U))), (mz, .inl (cI, 2, .inl (nf Z))), (mb, .inl (cI, 1024, .inl (nf B))), (mr, .inl (cI, 11, .inl (nf b)))] := by
  have hZr := hZ r
  refine mk_Mi (cc := b_Mo_letter) (maxL := 9) (by decide) rfl (Nat.le_of_ble_eq_true rfl) rfl ?_
  intro p e s m below meth c Q A ls S hP hK hT hS hl hD hA hret
  obtain ⟨hx, hb, hml, hown, hts⟩ := id S
  have hl : lv_has ls 9 [(0, .ref m0), (1, .int (nI r)), (2, .int t)] := hl
  refine lv_aload_n hx hb d_Mo_letter_0 rfl (lv_at hl 0 rfl) ?_
  refine lv_iconst (v := nI 0) hx hb d_Mo_letter_1 (by decide) ?_
  refine va_put (D := (dC, dI)) (ci := 5) (v := .int (nI 0)) (ty := .int) (C := "LongNamesModel") (T := F_Mo) (N := 5) hx hb hts (iw_Mo _) t_Mo t_Mo_ok n_Mo hown hK hP hD hS 0 rfl rfl 0 (by decide) (hts _ (List.mem_cons_of_mem _ k_522)) (fun _ h9 => h9) rfl (by decide +kernel) rfl rfl (Nat.le_of_ble_eq_true rfl) d_Mo_letter_2 (fun H locs hP hD hS => ?_)
  have hP : va_P (dC, dI) vwCl [(m0, .inr (5, [.int (nI 0), .ref mu, .ref mz, .ref mb, .ref mr])), (mu, .inl (cI, 510, .inl (nf U))), (mz, .inl (cI, 2, .inl (nf Z))), (mb, .inl (cI, 1024, .inl (nf B))), (mr, .inl (cI, 11, .inl (nf b)))] H := hP
  have hD : va_D A [(m0, .inr (5, [.int (nI 0), .ref mu, .ref mz, .ref mb, .ref mr])), (mu, .inl (cI, 510, .inl (nf U))), (mz, .inl (cI, 2, .inl (nf Z))), (mb, .inl (cI, 1024, .inl (nf B))), (mr, .inl (cI, 11, .inl (nf b)))] := hD
  refine lv_iload_n hx hb d_Mo_letter_5 rfl (lv_at hl 1 rfl) ?_
  refine mk_r1 (W.runS (As := [.int (nI r)]) (rest := []) S (c_Mo_rowN l dC dI cI r (by first | assumption | omega)) (gS 1 hts k_546 k_547 k_29 k_548 (by decide +kernel) ⟨Nat.le_of_ble_eq_true rfl, Nat.le_of_ble_eq_true rfl⟩) (mk_sR hP hK hT hS [] rfl) rfl rfl hl.1 rfl (lv_room (Nat.le_of_ble_eq_true rfl)) d_Mo_letter_6 ⟨Nat.zero_le _, Nat.zero_le _⟩) ?_
  refine lv_if_eq (tgt := 16) hx hb d_Mo_letter_9 (by decide) (fun c_1 => ?_) (fun c_1 => ?_)
  · skip
    rw [mk_ceq (by omega)] at c_1
    first | omega | contradiction
  · skip
    rw [mk_ceq (by omega)] at c_1
    refine lv_iload_n hx hb d_Mo_letter_12 rfl (lv_at hl 2 rfl) ?_
    refine lv_if_ge (tgt := 18) hx hb d_Mo_letter_13 (by decide) (fun c_2 => ?_) (fun c_2 => ?_)
    · skip
      exact absurd c_2 (Int32.not_le.mpr ht)
    · skip
      refine lv_iconst (v := (-1)) hx hb d_Mo_letter_16 (by decide) ?_
      exact hret _ _ _ _ d_Mo_letter_17 hP hD hS

set_option maxHeartbeats 1000000 in
set_option maxRecDepth 100000 in
theorem c_Mo_letterx (l : Launch) (dC : Nat → ClassId) (dI : Nat → Nat → Nat) (cI : ClassId) (m0 : Nat) (th : Int32) (mu mz mb mr : Nat) (U Z B b : Nat → Nat) (r t : Int32) (hU : ∀ j, U j < 65536) (hZ : ∀ j, Z j ≤ 255) (hB : ∀ j, B j < 65536) (hb9 : ∀ j, b j < 65536) (hr0 : ¬ r = 0) (hr1 : ¬ r = nI 1)  : mM l y_Mo_letter w_Mo_letter ({ frames := 1, cells := 0, slots := 0, locals := 20 } : Room) [.ref m0, .int r, .int t] (dC, dI) vwCl [(cI, .int)] [(m0, .inr (5, [.int th, .ref mu, .ref mz, .ref mb, .ref mr])), (mu, .inl (cI, 510, .inl (nf U))), (mz, .inl (cI, 2, .inl (nf Z))), (mb, .inl (cI, 1024, .inl (nf B))), (mr, .inl (cI, 11, .inl (nf b)))] (some (.int (-1))) [(m0, .inr (5, [.int (nI 0), .ref mu, .ref mz, .ref mb, .ref mr])), (mu, .inl (cI, 510, .inl (nf U))), (mz, .inl (cI, 2, .inl (nf Z))), (mb, .inl (cI, 1024, .inl (nf B))), (mr, .inl (cI, 11, .inl (nf b)))] := by
  refine mk_Mi (cc := b_Mo_letter) (maxL := 9) (by decide) rfl (Nat.le_of_ble_eq_true rfl) rfl ?_
  intro p e s m below meth c Q A ls S hP hK hT hS hl hD hA hret
  obtain ⟨hx, hb, hml, hown, hts⟩ := id S
  have hl : lv_has ls 9 [(0, .ref m0), (1, .int r), (2, .int t)] := hl
  refine lv_aload_n hx hb d_Mo_letter_0 rfl (lv_at hl 0 rfl) ?_
  refine lv_iconst (v := nI 0) hx hb d_Mo_letter_1 (by decide) ?_
  refine va_put (D := (dC, dI)) (ci := 5) (v := .int (nI 0)) (ty := .int) (C := "LongNamesModel") (T := F_Mo) (N := 5) hx hb hts (iw_Mo _) t_Mo t_Mo_ok n_Mo hown hK hP hD hS 0 rfl rfl 0 (by decide) (hts _ (List.mem_cons_of_mem _ k_522)) (fun _ h9 => h9) rfl (by decide +kernel) rfl rfl (Nat.le_of_ble_eq_true rfl) d_Mo_letter_2 (fun H locs hP hD hS => ?_)
  have hP : va_P (dC, dI) vwCl [(m0, .inr (5, [.int (nI 0), .ref mu, .ref mz, .ref mb, .ref mr])), (mu, .inl (cI, 510, .inl (nf U))), (mz, .inl (cI, 2, .inl (nf Z))), (mb, .inl (cI, 1024, .inl (nf B))), (mr, .inl (cI, 11, .inl (nf b)))] H := hP
  have hD : va_D A [(m0, .inr (5, [.int (nI 0), .ref mu, .ref mz, .ref mb, .ref mr])), (mu, .inl (cI, 510, .inl (nf U))), (mz, .inl (cI, 2, .inl (nf Z))), (mb, .inl (cI, 1024, .inl (nf B))), (mr, .inl (cI, 11, .inl (nf b)))] := hD
  refine lv_iload_n hx hb d_Mo_letter_5 rfl (lv_at hl 1 rfl) ?_
  refine mk_r1 (W.runS (As := [.int r]) (rest := []) S (c_Mo_rowX l dC dI cI r (by first | assumption | omega) (by first | assumption | omega)) (gS 1 hts k_546 k_547 k_29 k_548 (by decide +kernel) ⟨Nat.le_of_ble_eq_true rfl, Nat.le_of_ble_eq_true rfl⟩) (mk_sR hP hK hT hS [] rfl) rfl rfl hl.1 rfl (lv_room (Nat.le_of_ble_eq_true rfl)) d_Mo_letter_6 ⟨Nat.zero_le _, Nat.zero_le _⟩) ?_
  refine lv_if_eq (tgt := 16) hx hb d_Mo_letter_9 (by decide) (fun c_1 => ?_) (fun c_1 => ?_)
  · skip
    rw [mk_ceq (by omega)] at c_1
    refine lv_iconst (v := (-1)) hx hb d_Mo_letter_16 (by decide) ?_
    exact hret _ _ _ _ d_Mo_letter_17 hP hD hS
  · skip
    rw [mk_ceq (by omega)] at c_1
    first | omega | contradiction

set_option maxHeartbeats 1000000 in
set_option maxRecDepth 100000 in
theorem c_Mo_alike (l : Launch) (dC : Nat → ClassId) (dI : Nat → Nat → Nat) (cI : ClassId) (m0 : Nat) (th : Int32) (mu mz mb mr : Nat) (U Z B b : Nat → Nat) (hU : ∀ j, U j < 65536) (hZ : ∀ j, Z j ≤ 255) (hB : ∀ j, B j < 65536) (hb9 : ∀ j, b j < 65536)  : mM l y_Mo_alike w_Mo_alike ({ frames := 1, cells := 0, slots := 0, locals := 22 } : Room) [.ref m0] (dC, dI) vwCl [(cI, .int)] [(m0, .inr (5, [.int th, .ref mu, .ref mz, .ref mb, .ref mr])), (mu, .inl (cI, 510, .inl (nf U))), (mz, .inl (cI, 2, .inl (nf Z))), (mb, .inl (cI, 1024, .inl (nf B))), (mr, .inl (cI, 11, .inl (nf b)))] (some (.int (bI (likeN (rv U 0) (Z 0) (rv U 1) (Z 1))))) [(m0, .inr (5, [.int (nI 0), .ref mu, .ref mz, .ref mb, .ref mr])), (mu, .inl (cI, 510, .inl (nf U))), (mz, .inl (cI, 2, .inl (nf Z))), (mb, .inl (cI, 1024, .inl (nf B))), (mr, .inl (cI, 11, .inl (nf b)))] := by
  have hZ0 := hZ 0
  have hZ1 := hZ 1
  refine mk_Mi (cc := b_Mo_alike) (maxL := 3) (by decide) rfl (Nat.le_of_ble_eq_true rfl) (mk_nz _) ?_
  intro p e s m below meth c Q A ls S hP hK hT hS hl hD hA hret
  obtain ⟨hx, hb, hml, hown, hts⟩ := id S
  have hl : lv_has ls 3 [(0, .ref m0)] := hl
  refine lv_aload_n hx hb d_Mo_alike_0 rfl (lv_at hl 0 rfl) ?_
  refine lv_iconst (v := nI 0) hx hb d_Mo_alike_1 (by decide) ?_
  refine va_put (D := (dC, dI)) (ci := 5) (v := .int (nI 0)) (ty := .int) (C := "LongNamesModel") (T := F_Mo) (N := 5) hx hb hts (iw_Mo _) t_Mo t_Mo_ok n_Mo hown hK hP hD hS 0 rfl rfl 0 (by decide) (hts _ (List.mem_cons_of_mem _ k_522)) (fun _ h9 => h9) rfl (by decide +kernel) rfl rfl (Nat.le_of_ble_eq_true rfl) d_Mo_alike_2 (fun H locs hP hD hS => ?_)
  have hP : va_P (dC, dI) vwCl [(m0, .inr (5, [.int (nI 0), .ref mu, .ref mz, .ref mb, .ref mr])), (mu, .inl (cI, 510, .inl (nf U))), (mz, .inl (cI, 2, .inl (nf Z))), (mb, .inl (cI, 1024, .inl (nf B))), (mr, .inl (cI, 11, .inl (nf b)))] H := hP
  have hD : va_D A [(m0, .inr (5, [.int (nI 0), .ref mu, .ref mz, .ref mb, .ref mr])), (mu, .inl (cI, 510, .inl (nf U))), (mz, .inl (cI, 2, .inl (nf Z))), (mb, .inl (cI, 1024, .inl (nf B))), (mr, .inl (cI, 11, .inl (nf b)))] := hD
  refine lv_aload_n hx hb d_Mo_alike_5 rfl (lv_at hl 0 rfl) ?_
  refine va_get (D := (dC, dI)) (ci := 5) (v := .ref mz) (C := "LongNamesModel") (T := F_Mo) (N := 5) hx hb hts (iw_Mo _) hown hK hP 0 rfl rfl 2 (by decide) (hts _ (List.mem_cons_of_mem _ k_524)) (fun _ h9 => h9) rfl d_Mo_alike_6 ?_
  refine lv_iconst (v := nI 0) hx hb d_Mo_alike_9 (by decide) ?_
  refine va_iald hx hb hK hP 2 0 rfl rfl (vp_in_nI (N := 2) (show 0 < 2 by omega) (by decide)) d_Mo_alike_10 ?_
  refine mk_ti (y := nI (Z 0)) (by rw [nI_clamp (by omega)]; rfl) ?_
  refine lv_aload_n hx hb d_Mo_alike_11 rfl (lv_at hl 0 rfl) ?_
  refine va_get (D := (dC, dI)) (ci := 5) (v := .ref mz) (C := "LongNamesModel") (T := F_Mo) (N := 5) hx hb hts (iw_Mo _) hown hK hP 0 rfl rfl 2 (by decide) (hts _ (List.mem_cons_of_mem _ k_524)) (fun _ h9 => h9) rfl d_Mo_alike_12 ?_
  refine lv_iconst (v := nI 1) hx hb d_Mo_alike_15 (by decide) ?_
  refine va_iald hx hb hK hP 2 0 rfl rfl (vp_in_nI (N := 2) (show 1 < 2 by omega) (by decide)) d_Mo_alike_16 ?_
  refine mk_ti (y := nI (Z 1)) (by rw [nI_clamp (by omega)]; rfl) ?_
  refine lv_icmp_ne (tgt := 24) hx hb d_Mo_alike_17 (by decide) (fun c_1 => ?_) (fun c_1 => ?_)
  · skip
    rw [nI_eq (by omega) (by omega)] at c_1
    refine lv_iconst (v := nI 0) hx hb d_Mo_alike_24 (by decide) ?_
    refine lv_istore_n (lv' := [(1, .int (nI 0)), (0, .ref m0)]) hx hb d_Mo_alike_25 rfl hl (by decide) rfl (fun ls hl => ?_)
    refine lv_iconst (v := nI 0) hx hb d_Mo_alike_26 (by decide) ?_
    refine lv_istore_n (lv' := [(2, .int (nI 0)), (1, .int (nI 0)), (0, .ref m0)]) hx hb d_Mo_alike_27 rfl hl (by decide) rfl (fun ls hl => ?_)
    have lp28 : ∀ (k : Nat) (i : Nat) (sm : Bool) (H : Heap) (locs : List Loc) (ls : Array Slot), (i + k = Z 0 ∨ (sm = false ∧ i ≤ Z 0)) → (sm = true → Z 0 = Z 1 ∧ ∀ j, j < i → capN (rv U 0 j) = capN (rv U 1 j)) → (sm = false → likeN (rv U 0) (Z 0) (rv U 1) (Z 1) = false) → va_P (dC, dI) vwCl [(m0, .inr (5, [.int (nI 0), .ref mu, .ref mz, .ref mb, .ref mr])), (mu, .inl (cI, 510, .inl (nf U))), (mz, .inl (cI, 2, .inl (nf Z))), (mb, .inl (cI, 1024, .inl (nf B))), (mr, .inl (cI, 11, .inl (nf b)))] H → va_D A [(m0, .inr (5, [.int (nI 0), .ref mu, .ref mz, .ref mb, .ref mr])), (mu, .inl (cI, 510, .inl (nf U))), (mz, .inl (cI, 2, .inl (nf Z))), (mb, .inl (cI, 1024, .inl (nf B))), (mr, .inl (cI, 11, .inl (nf b)))] → va_S A s.heap H locs → lv_has ls 3 [(0, .ref m0), (1, .int (bI sm)), (2, .int (nI i))] → W p l e ({ frames := 1, cells := 0, slots := 0, locals := 22 } : Room) s m ([.ref m0] : List Value).toArray below meth c H locs 0 0 Q (F0 m 28 ls []) := by
      intro k
      induction k with
      | zero =>
        intro i sm H locs ls hi h1 h0 hP hD hS hl
        refine lv_iload_n hx hb d_Mo_alike_28 rfl (lv_at hl 2 rfl) ?_
        refine lv_aload_n hx hb d_Mo_alike_29 rfl (lv_at hl 0 rfl) ?_
        refine va_get (D := (dC, dI)) (ci := 5) (v := .ref mz) (C := "LongNamesModel") (T := F_Mo) (N := 5) hx hb hts (iw_Mo _) hown hK hP 0 rfl rfl 2 (by decide) (hts _ (List.mem_cons_of_mem _ k_524)) (fun _ h9 => h9) rfl d_Mo_alike_30 ?_
        refine lv_iconst (v := nI 0) hx hb d_Mo_alike_33 (by decide) ?_
        refine va_iald hx hb hK hP 2 0 rfl rfl (vp_in_nI (N := 2) (show 0 < 2 by omega) (by decide)) d_Mo_alike_34 ?_
        refine mk_ti (y := nI (Z 0)) (by rw [nI_clamp (by omega)]; rfl) ?_
        refine lv_icmp_ge (tgt := 75) hx hb d_Mo_alike_35 (by decide) (fun c_2 => ?_) (fun c_2 => ?_)
        · skip
          rw [nI_leI (by omega) (by omega)] at c_2
          refine lv_iload_n hx hb d_Mo_alike_75 rfl (lv_at hl 1 rfl) ?_
          exact mk_ti (by rw [mk_lk (by omega) h1 h0 (by first | (left; omega) | (right; assumption))]) (hret _ _ _ _ d_Mo_alike_76 hP hD hS)
        · skip
          rw [nI_leI (by omega) (by omega)] at c_2
          refine lv_iload_n hx hb d_Mo_alike_38 rfl (lv_at hl 1 rfl) ?_
          refine lv_if_eq (tgt := 75) hx hb d_Mo_alike_39 (by decide) (fun c_3 => ?_) (fun c_3 => ?_)
          · skip
            have c_3 := bI_0 c_3
            refine lv_iload_n hx hb d_Mo_alike_75 rfl (lv_at hl 1 rfl) ?_
            exact mk_ti (by rw [mk_lk (by omega) h1 h0 (by first | (left; omega) | (right; assumption))]) (hret _ _ _ _ d_Mo_alike_76 hP hD hS)
          · skip
            have c_3 := bI_1 c_3
            rcases hi with h9 | h9 <;> first | omega | (rw [h9.1] at c_3; exact absurd c_3 (by decide))
      | succ k ih28 =>
        intro i sm H locs ls hi h1 h0 hP hD hS hl
        refine lv_iload_n hx hb d_Mo_alike_28 rfl (lv_at hl 2 rfl) ?_
        refine lv_aload_n hx hb d_Mo_alike_29 rfl (lv_at hl 0 rfl) ?_
        refine va_get (D := (dC, dI)) (ci := 5) (v := .ref mz) (C := "LongNamesModel") (T := F_Mo) (N := 5) hx hb hts (iw_Mo _) hown hK hP 0 rfl rfl 2 (by decide) (hts _ (List.mem_cons_of_mem _ k_524)) (fun _ h9 => h9) rfl d_Mo_alike_30 ?_
        refine lv_iconst (v := nI 0) hx hb d_Mo_alike_33 (by decide) ?_
        refine va_iald hx hb hK hP 2 0 rfl rfl (vp_in_nI (N := 2) (show 0 < 2 by omega) (by decide)) d_Mo_alike_34 ?_
        refine mk_ti (y := nI (Z 0)) (by rw [nI_clamp (by omega)]; rfl) ?_
        refine lv_icmp_ge (tgt := 75) hx hb d_Mo_alike_35 (by decide) (fun c_4 => ?_) (fun c_4 => ?_)
        · skip
          rw [nI_leI (by omega) (by omega)] at c_4
          refine lv_iload_n hx hb d_Mo_alike_75 rfl (lv_at hl 1 rfl) ?_
          exact mk_ti (by rw [mk_lk (by omega) h1 h0 (by first | (left; omega) | (right; assumption))]) (hret _ _ _ _ d_Mo_alike_76 hP hD hS)
        · skip
          rw [nI_leI (by omega) (by omega)] at c_4
          refine lv_iload_n hx hb d_Mo_alike_38 rfl (lv_at hl 1 rfl) ?_
          refine lv_if_eq (tgt := 75) hx hb d_Mo_alike_39 (by decide) (fun c_5 => ?_) (fun c_5 => ?_)
          · skip
            have c_5 := bI_0 c_5
            refine lv_iload_n hx hb d_Mo_alike_75 rfl (lv_at hl 1 rfl) ?_
            exact mk_ti (by rw [mk_lk (by omega) h1 h0 (by first | (left; omega) | (right; assumption))]) (hret _ _ _ _ d_Mo_alike_76 hP hD hS)
          · skip
            have c_5 := bI_1 c_5
            refine lv_aload_n hx hb d_Mo_alike_42 rfl (lv_at hl 0 rfl) ?_
            refine lv_iconst (v := nI 0) hx hb d_Mo_alike_43 (by decide) ?_
            refine lv_iload_n hx hb d_Mo_alike_44 rfl (lv_at hl 2 rfl) ?_
            refine mk_r1 (W.runV (As := [.int (nI 0), .int (nI i)]) (rest := []) S (c_Mo_at l dC dI cI m0 (nI 0) mu mz mb mr U 0 i (by first | assumption | omega) (by first | assumption | omega)) (gV 2 hts k_562 k_564 k_14 k_29 k_565 (by decide +kernel) ⟨Nat.le_of_ble_eq_true rfl, Nat.le_of_ble_eq_true rfl⟩) (mk_vR hP hK hT hS [0, 1] rfl (q0 := 0) (ci := 5) rfl rfl) rfl rfl hl.1 rfl (lv_room (Nat.le_of_ble_eq_true rfl)) d_Mo_alike_45 ⟨Nat.zero_le _, Nat.zero_le _⟩) ?_
            have b_6 := (show rv U 0 i < 65536 from rv_lt (show ∀ j9, U j9 < 65536 by assumption) i)
            refine mk_r1 (W.runS (As := [.int (nI (rv U 0 i))]) (rest := []) S (c_Mo_cap l dC dI cI (rv U 0 i) (by first | assumption | omega)) (gS 1 hts k_597 k_598 k_29 k_599 (by decide +kernel) ⟨Nat.le_of_ble_eq_true rfl, Nat.le_of_ble_eq_true rfl⟩) (mk_sR hP hK hT hS [] rfl) rfl rfl hl.1 rfl (lv_room (Nat.le_of_ble_eq_true rfl)) d_Mo_alike_48 ⟨Nat.zero_le _, Nat.zero_le _⟩) ?_
            have b_7 := capN_le (rv U 0 i)
            refine lv_aload_n hx hb d_Mo_alike_51 rfl (lv_at hl 0 rfl) ?_
            refine lv_iconst (v := nI 1) hx hb d_Mo_alike_52 (by decide) ?_
            refine lv_iload_n hx hb d_Mo_alike_53 rfl (lv_at hl 2 rfl) ?_
            refine mk_r1 (W.runV (As := [.int (nI 1), .int (nI i)]) (rest := [.int (nI (capN (rv U 0 i)))]) S (c_Mo_at l dC dI cI m0 (nI 0) mu mz mb mr U 1 i (by first | assumption | omega) (by first | assumption | omega)) (gV 2 hts k_562 k_564 k_14 k_29 k_565 (by decide +kernel) ⟨Nat.le_of_ble_eq_true rfl, Nat.le_of_ble_eq_true rfl⟩) (mk_vR hP hK hT hS [0, 1] rfl (q0 := 0) (ci := 5) rfl rfl) rfl rfl hl.1 rfl (lv_room (Nat.le_of_ble_eq_true rfl)) d_Mo_alike_54 ⟨Nat.zero_le _, Nat.zero_le _⟩) ?_
            have b_8 := (show rv U 1 i < 65536 from rv_lt (show ∀ j9, U j9 < 65536 by assumption) i)
            refine mk_r1 (W.runS (As := [.int (nI (rv U 1 i))]) (rest := [.int (nI (capN (rv U 0 i)))]) S (c_Mo_cap l dC dI cI (rv U 1 i) (by first | assumption | omega)) (gS 1 hts k_597 k_598 k_29 k_599 (by decide +kernel) ⟨Nat.le_of_ble_eq_true rfl, Nat.le_of_ble_eq_true rfl⟩) (mk_sR hP hK hT hS [] rfl) rfl rfl hl.1 rfl (lv_room (Nat.le_of_ble_eq_true rfl)) d_Mo_alike_57 ⟨Nat.zero_le _, Nat.zero_le _⟩) ?_
            have b_9 := capN_le (rv U 1 i)
            refine lv_icmp_ne (tgt := 67) hx hb d_Mo_alike_60 (by decide) (fun c_10 => ?_) (fun c_10 => ?_)
            · skip
              rw [nI_eq (by omega) (by omega)] at c_10
              refine lv_iconst (v := nI 0) hx hb d_Mo_alike_67 (by decide) ?_
              refine lv_istore_n (lv' := [(1, .int (nI 0)), (0, .ref m0), (2, .int (nI i))]) hx hb d_Mo_alike_68 rfl hl (by decide) rfl (fun ls hl => ?_)
              refine lv_iinc (v := nI (i + 1)) (lv' := [(2, .int (nI (i + 1))), (1, .int (nI 0)), (0, .ref m0)]) hx hb d_Mo_alike_69 hl (k := 2) rfl (mk_i1 i) (by decide) rfl (fun ls hl => ?_)
              refine lv_goto (tgt := 28) hx hb d_Mo_alike_72 (by decide) ?_
              have hl : lv_has ls 3 [(0, .ref m0), (1, .int (nI 0)), (2, .int (nI (i + 1)))] := lv_sub hl [2, 1, 0] rfl
              have hl9 : ([(0, .ref m0), (1, .int (nI 0)), (2, .int (nI (i + 1)))] : List (Nat × Value)) = [(0, .ref m0), (1, .int (bI false)), (2, .int (nI (i + 1)))] := by rfl
              rw [hl9] at hl
              exact ih28 (i + 1) false _ _ _ (by rcases hi with h9 | h9 <;> first | (left; omega) | exact absurd (h9.1.symm.trans (by assumption)) (by decide)) (fun h9 => by first | exact absurd h9 (by decide) | exact ⟨(h1 (by assumption)).1, lt_s (h1 (by assumption)).2 (by omega)⟩) (fun h9 => by first | exact absurd h9 (by decide) | (simp only [likeN, decide_eq_false_iff_not]; intro h8; exact absurd (h8.2 i (by omega)) (by omega))) hP hD hS hl
            · skip
              rw [nI_eq (by omega) (by omega)] at c_10
              refine lv_iconst (v := nI 1) hx hb d_Mo_alike_63 (by decide) ?_
              refine lv_goto (tgt := 68) hx hb d_Mo_alike_64 (by decide) ?_
              refine lv_istore_n (lv' := [(1, .int (nI 1)), (0, .ref m0), (2, .int (nI i))]) hx hb d_Mo_alike_68 rfl hl (by decide) rfl (fun ls hl => ?_)
              refine lv_iinc (v := nI (i + 1)) (lv' := [(2, .int (nI (i + 1))), (1, .int (nI 1)), (0, .ref m0)]) hx hb d_Mo_alike_69 hl (k := 2) rfl (mk_i1 i) (by decide) rfl (fun ls hl => ?_)
              refine lv_goto (tgt := 28) hx hb d_Mo_alike_72 (by decide) ?_
              have hl : lv_has ls 3 [(0, .ref m0), (1, .int (nI 1)), (2, .int (nI (i + 1)))] := lv_sub hl [2, 1, 0] rfl
              have hl9 : ([(0, .ref m0), (1, .int (nI 1)), (2, .int (nI (i + 1)))] : List (Nat × Value)) = [(0, .ref m0), (1, .int (bI true)), (2, .int (nI (i + 1)))] := by rfl
              rw [hl9] at hl
              exact ih28 (i + 1) true _ _ _ (by rcases hi with h9 | h9 <;> first | (left; omega) | exact absurd (h9.1.symm.trans (by assumption)) (by decide)) (fun h9 => by first | exact absurd h9 (by decide) | exact ⟨(h1 (by assumption)).1, lt_s (h1 (by assumption)).2 (by omega)⟩) (fun h9 => by first | exact absurd h9 (by decide) | (simp only [likeN, decide_eq_false_iff_not]; intro h8; exact absurd (h8.2 i (by omega)) (by omega))) hP hD hS hl
    have hl : lv_has ls 3 [(0, .ref m0), (1, .int (nI 0)), (2, .int (nI 0))] := lv_sub hl [2, 1, 0] rfl
    have hl9 : ([(0, .ref m0), (1, .int (nI 0)), (2, .int (nI 0))] : List (Nat × Value)) = [(0, .ref m0), (1, .int (bI false)), (2, .int (nI 0))] := by rfl
    rw [hl9] at hl
    exact lp28 (Z 0) 0 false _ _ _ (by omega) (fun h9 => by first | exact absurd h9 (by decide) | exact ⟨by omega, fun j hj => absurd hj (Nat.not_lt_zero j)⟩) (fun h9 => by first | exact absurd h9 (by decide) | (simp only [likeN, decide_eq_false_iff_not]; intro h8; omega)) hP hD hS hl
  · skip
    rw [nI_eq (by omega) (by omega)] at c_1
    refine lv_iconst (v := nI 1) hx hb d_Mo_alike_20 (by decide) ?_
    refine lv_goto (tgt := 25) hx hb d_Mo_alike_21 (by decide) ?_
    refine lv_istore_n (lv' := [(1, .int (nI 1)), (0, .ref m0)]) hx hb d_Mo_alike_25 rfl hl (by decide) rfl (fun ls hl => ?_)
    refine lv_iconst (v := nI 0) hx hb d_Mo_alike_26 (by decide) ?_
    refine lv_istore_n (lv' := [(2, .int (nI 0)), (1, .int (nI 1)), (0, .ref m0)]) hx hb d_Mo_alike_27 rfl hl (by decide) rfl (fun ls hl => ?_)
    have lp28 : ∀ (k : Nat) (i : Nat) (sm : Bool) (H : Heap) (locs : List Loc) (ls : Array Slot), (i + k = Z 0 ∨ (sm = false ∧ i ≤ Z 0)) → (sm = true → Z 0 = Z 1 ∧ ∀ j, j < i → capN (rv U 0 j) = capN (rv U 1 j)) → (sm = false → likeN (rv U 0) (Z 0) (rv U 1) (Z 1) = false) → va_P (dC, dI) vwCl [(m0, .inr (5, [.int (nI 0), .ref mu, .ref mz, .ref mb, .ref mr])), (mu, .inl (cI, 510, .inl (nf U))), (mz, .inl (cI, 2, .inl (nf Z))), (mb, .inl (cI, 1024, .inl (nf B))), (mr, .inl (cI, 11, .inl (nf b)))] H → va_D A [(m0, .inr (5, [.int (nI 0), .ref mu, .ref mz, .ref mb, .ref mr])), (mu, .inl (cI, 510, .inl (nf U))), (mz, .inl (cI, 2, .inl (nf Z))), (mb, .inl (cI, 1024, .inl (nf B))), (mr, .inl (cI, 11, .inl (nf b)))] → va_S A s.heap H locs → lv_has ls 3 [(0, .ref m0), (1, .int (bI sm)), (2, .int (nI i))] → W p l e ({ frames := 1, cells := 0, slots := 0, locals := 22 } : Room) s m ([.ref m0] : List Value).toArray below meth c H locs 0 0 Q (F0 m 28 ls []) := by
      intro k
      induction k with
      | zero =>
        intro i sm H locs ls hi h1 h0 hP hD hS hl
        refine lv_iload_n hx hb d_Mo_alike_28 rfl (lv_at hl 2 rfl) ?_
        refine lv_aload_n hx hb d_Mo_alike_29 rfl (lv_at hl 0 rfl) ?_
        refine va_get (D := (dC, dI)) (ci := 5) (v := .ref mz) (C := "LongNamesModel") (T := F_Mo) (N := 5) hx hb hts (iw_Mo _) hown hK hP 0 rfl rfl 2 (by decide) (hts _ (List.mem_cons_of_mem _ k_524)) (fun _ h9 => h9) rfl d_Mo_alike_30 ?_
        refine lv_iconst (v := nI 0) hx hb d_Mo_alike_33 (by decide) ?_
        refine va_iald hx hb hK hP 2 0 rfl rfl (vp_in_nI (N := 2) (show 0 < 2 by omega) (by decide)) d_Mo_alike_34 ?_
        refine mk_ti (y := nI (Z 0)) (by rw [nI_clamp (by omega)]; rfl) ?_
        refine lv_icmp_ge (tgt := 75) hx hb d_Mo_alike_35 (by decide) (fun c_11 => ?_) (fun c_11 => ?_)
        · skip
          rw [nI_leI (by omega) (by omega)] at c_11
          refine lv_iload_n hx hb d_Mo_alike_75 rfl (lv_at hl 1 rfl) ?_
          exact mk_ti (by rw [mk_lk (by omega) h1 h0 (by first | (left; omega) | (right; assumption))]) (hret _ _ _ _ d_Mo_alike_76 hP hD hS)
        · skip
          rw [nI_leI (by omega) (by omega)] at c_11
          refine lv_iload_n hx hb d_Mo_alike_38 rfl (lv_at hl 1 rfl) ?_
          refine lv_if_eq (tgt := 75) hx hb d_Mo_alike_39 (by decide) (fun c_12 => ?_) (fun c_12 => ?_)
          · skip
            have c_12 := bI_0 c_12
            refine lv_iload_n hx hb d_Mo_alike_75 rfl (lv_at hl 1 rfl) ?_
            exact mk_ti (by rw [mk_lk (by omega) h1 h0 (by first | (left; omega) | (right; assumption))]) (hret _ _ _ _ d_Mo_alike_76 hP hD hS)
          · skip
            have c_12 := bI_1 c_12
            rcases hi with h9 | h9 <;> first | omega | (rw [h9.1] at c_12; exact absurd c_12 (by decide))
      | succ k ih28 =>
        intro i sm H locs ls hi h1 h0 hP hD hS hl
        refine lv_iload_n hx hb d_Mo_alike_28 rfl (lv_at hl 2 rfl) ?_
        refine lv_aload_n hx hb d_Mo_alike_29 rfl (lv_at hl 0 rfl) ?_
        refine va_get (D := (dC, dI)) (ci := 5) (v := .ref mz) (C := "LongNamesModel") (T := F_Mo) (N := 5) hx hb hts (iw_Mo _) hown hK hP 0 rfl rfl 2 (by decide) (hts _ (List.mem_cons_of_mem _ k_524)) (fun _ h9 => h9) rfl d_Mo_alike_30 ?_
        refine lv_iconst (v := nI 0) hx hb d_Mo_alike_33 (by decide) ?_
        refine va_iald hx hb hK hP 2 0 rfl rfl (vp_in_nI (N := 2) (show 0 < 2 by omega) (by decide)) d_Mo_alike_34 ?_
        refine mk_ti (y := nI (Z 0)) (by rw [nI_clamp (by omega)]; rfl) ?_
        refine lv_icmp_ge (tgt := 75) hx hb d_Mo_alike_35 (by decide) (fun c_13 => ?_) (fun c_13 => ?_)
        · skip
          rw [nI_leI (by omega) (by omega)] at c_13
          refine lv_iload_n hx hb d_Mo_alike_75 rfl (lv_at hl 1 rfl) ?_
          exact mk_ti (by rw [mk_lk (by omega) h1 h0 (by first | (left; omega) | (right; assumption))]) (hret _ _ _ _ d_Mo_alike_76 hP hD hS)
        · skip
          rw [nI_leI (by omega) (by omega)] at c_13
          refine lv_iload_n hx hb d_Mo_alike_38 rfl (lv_at hl 1 rfl) ?_
          refine lv_if_eq (tgt := 75) hx hb d_Mo_alike_39 (by decide) (fun c_14 => ?_) (fun c_14 => ?_)
          · skip
            have c_14 := bI_0 c_14
            refine lv_iload_n hx hb d_Mo_alike_75 rfl (lv_at hl 1 rfl) ?_
            exact mk_ti (by rw [mk_lk (by omega) h1 h0 (by first | (left; omega) | (right; assumption))]) (hret _ _ _ _ d_Mo_alike_76 hP hD hS)
          · skip
            have c_14 := bI_1 c_14
            refine lv_aload_n hx hb d_Mo_alike_42 rfl (lv_at hl 0 rfl) ?_
            refine lv_iconst (v := nI 0) hx hb d_Mo_alike_43 (by decide) ?_
            refine lv_iload_n hx hb d_Mo_alike_44 rfl (lv_at hl 2 rfl) ?_
            refine mk_r1 (W.runV (As := [.int (nI 0), .int (nI i)]) (rest := []) S (c_Mo_at l dC dI cI m0 (nI 0) mu mz mb mr U 0 i (by first | assumption | omega) (by first | assumption | omega)) (gV 2 hts k_562 k_564 k_14 k_29 k_565 (by decide +kernel) ⟨Nat.le_of_ble_eq_true rfl, Nat.le_of_ble_eq_true rfl⟩) (mk_vR hP hK hT hS [0, 1] rfl (q0 := 0) (ci := 5) rfl rfl) rfl rfl hl.1 rfl (lv_room (Nat.le_of_ble_eq_true rfl)) d_Mo_alike_45 ⟨Nat.zero_le _, Nat.zero_le _⟩) ?_
            have b_15 := (show rv U 0 i < 65536 from rv_lt (show ∀ j9, U j9 < 65536 by assumption) i)
            refine mk_r1 (W.runS (As := [.int (nI (rv U 0 i))]) (rest := []) S (c_Mo_cap l dC dI cI (rv U 0 i) (by first | assumption | omega)) (gS 1 hts k_597 k_598 k_29 k_599 (by decide +kernel) ⟨Nat.le_of_ble_eq_true rfl, Nat.le_of_ble_eq_true rfl⟩) (mk_sR hP hK hT hS [] rfl) rfl rfl hl.1 rfl (lv_room (Nat.le_of_ble_eq_true rfl)) d_Mo_alike_48 ⟨Nat.zero_le _, Nat.zero_le _⟩) ?_
            have b_16 := capN_le (rv U 0 i)
            refine lv_aload_n hx hb d_Mo_alike_51 rfl (lv_at hl 0 rfl) ?_
            refine lv_iconst (v := nI 1) hx hb d_Mo_alike_52 (by decide) ?_
            refine lv_iload_n hx hb d_Mo_alike_53 rfl (lv_at hl 2 rfl) ?_
            refine mk_r1 (W.runV (As := [.int (nI 1), .int (nI i)]) (rest := [.int (nI (capN (rv U 0 i)))]) S (c_Mo_at l dC dI cI m0 (nI 0) mu mz mb mr U 1 i (by first | assumption | omega) (by first | assumption | omega)) (gV 2 hts k_562 k_564 k_14 k_29 k_565 (by decide +kernel) ⟨Nat.le_of_ble_eq_true rfl, Nat.le_of_ble_eq_true rfl⟩) (mk_vR hP hK hT hS [0, 1] rfl (q0 := 0) (ci := 5) rfl rfl) rfl rfl hl.1 rfl (lv_room (Nat.le_of_ble_eq_true rfl)) d_Mo_alike_54 ⟨Nat.zero_le _, Nat.zero_le _⟩) ?_
            have b_17 := (show rv U 1 i < 65536 from rv_lt (show ∀ j9, U j9 < 65536 by assumption) i)
            refine mk_r1 (W.runS (As := [.int (nI (rv U 1 i))]) (rest := [.int (nI (capN (rv U 0 i)))]) S (c_Mo_cap l dC dI cI (rv U 1 i) (by first | assumption | omega)) (gS 1 hts k_597 k_598 k_29 k_599 (by decide +kernel) ⟨Nat.le_of_ble_eq_true rfl, Nat.le_of_ble_eq_true rfl⟩) (mk_sR hP hK hT hS [] rfl) rfl rfl hl.1 rfl (lv_room (Nat.le_of_ble_eq_true rfl)) d_Mo_alike_57 ⟨Nat.zero_le _, Nat.zero_le _⟩) ?_
            have b_18 := capN_le (rv U 1 i)
            refine lv_icmp_ne (tgt := 67) hx hb d_Mo_alike_60 (by decide) (fun c_19 => ?_) (fun c_19 => ?_)
            · skip
              rw [nI_eq (by omega) (by omega)] at c_19
              refine lv_iconst (v := nI 0) hx hb d_Mo_alike_67 (by decide) ?_
              refine lv_istore_n (lv' := [(1, .int (nI 0)), (0, .ref m0), (2, .int (nI i))]) hx hb d_Mo_alike_68 rfl hl (by decide) rfl (fun ls hl => ?_)
              refine lv_iinc (v := nI (i + 1)) (lv' := [(2, .int (nI (i + 1))), (1, .int (nI 0)), (0, .ref m0)]) hx hb d_Mo_alike_69 hl (k := 2) rfl (mk_i1 i) (by decide) rfl (fun ls hl => ?_)
              refine lv_goto (tgt := 28) hx hb d_Mo_alike_72 (by decide) ?_
              have hl : lv_has ls 3 [(0, .ref m0), (1, .int (nI 0)), (2, .int (nI (i + 1)))] := lv_sub hl [2, 1, 0] rfl
              have hl9 : ([(0, .ref m0), (1, .int (nI 0)), (2, .int (nI (i + 1)))] : List (Nat × Value)) = [(0, .ref m0), (1, .int (bI false)), (2, .int (nI (i + 1)))] := by rfl
              rw [hl9] at hl
              exact ih28 (i + 1) false _ _ _ (by rcases hi with h9 | h9 <;> first | (left; omega) | exact absurd (h9.1.symm.trans (by assumption)) (by decide)) (fun h9 => by first | exact absurd h9 (by decide) | exact ⟨(h1 (by assumption)).1, lt_s (h1 (by assumption)).2 (by omega)⟩) (fun h9 => by first | exact absurd h9 (by decide) | (simp only [likeN, decide_eq_false_iff_not]; intro h8; exact absurd (h8.2 i (by omega)) (by omega))) hP hD hS hl
            · skip
              rw [nI_eq (by omega) (by omega)] at c_19
              refine lv_iconst (v := nI 1) hx hb d_Mo_alike_63 (by decide) ?_
              refine lv_goto (tgt := 68) hx hb d_Mo_alike_64 (by decide) ?_
              refine lv_istore_n (lv' := [(1, .int (nI 1)), (0, .ref m0), (2, .int (nI i))]) hx hb d_Mo_alike_68 rfl hl (by decide) rfl (fun ls hl => ?_)
              refine lv_iinc (v := nI (i + 1)) (lv' := [(2, .int (nI (i + 1))), (1, .int (nI 1)), (0, .ref m0)]) hx hb d_Mo_alike_69 hl (k := 2) rfl (mk_i1 i) (by decide) rfl (fun ls hl => ?_)
              refine lv_goto (tgt := 28) hx hb d_Mo_alike_72 (by decide) ?_
              have hl : lv_has ls 3 [(0, .ref m0), (1, .int (nI 1)), (2, .int (nI (i + 1)))] := lv_sub hl [2, 1, 0] rfl
              have hl9 : ([(0, .ref m0), (1, .int (nI 1)), (2, .int (nI (i + 1)))] : List (Nat × Value)) = [(0, .ref m0), (1, .int (bI true)), (2, .int (nI (i + 1)))] := by rfl
              rw [hl9] at hl
              exact ih28 (i + 1) true _ _ _ (by rcases hi with h9 | h9 <;> first | (left; omega) | exact absurd (h9.1.symm.trans (by assumption)) (by decide)) (fun h9 => by first | exact absurd h9 (by decide) | exact ⟨(h1 (by assumption)).1, lt_s (h1 (by assumption)).2 (by omega)⟩) (fun h9 => by first | exact absurd h9 (by decide) | (simp only [likeN, decide_eq_false_iff_not]; intro h8; exact absurd (h8.2 i (by omega)) (by omega))) hP hD hS hl
    have hl : lv_has ls 3 [(0, .ref m0), (1, .int (nI 1)), (2, .int (nI 0))] := lv_sub hl [2, 1, 0] rfl
    have hl9 : ([(0, .ref m0), (1, .int (nI 1)), (2, .int (nI 0))] : List (Nat × Value)) = [(0, .ref m0), (1, .int (bI true)), (2, .int (nI 0))] := by rfl
    rw [hl9] at hl
    exact lp28 (Z 0) 0 true _ _ _ (by omega) (fun h9 => by first | exact absurd h9 (by decide) | exact ⟨by omega, fun j hj => absurd hj (Nat.not_lt_zero j)⟩) (fun h9 => by first | exact absurd h9 (by decide) | (simp only [likeN, decide_eq_false_iff_not]; intro h8; omega)) hP hD hS hl

set_option maxHeartbeats 1000000 in
set_option maxRecDepth 100000 in
theorem c_Mo_poke (l : Launch) (dC : Nat → ClassId) (dI : Nat → Nat → Nat) (cI : ClassId) (m0 : Nat) (th : Int32) (mu mz mb mr : Nat) (U Z B b : Nat → Nat) (k j y : Nat) (hU : ∀ j, U j < 65536) (hZ : ∀ j, Z j ≤ 255) (hB : ∀ j, B j < 65536) (hb9 : ∀ j, b j < 65536) (hk : k < 32) (hj : j < 32) (hy : y < 2 ^ 32) : mM l y_Mo_poke w_Mo_poke ({ frames := 1, cells := 0, slots := 0, locals := 21 } : Room) [.ref m0, .int (nI k), .int (nI j), .int (nI y)] (dC, dI) vwCl [(cI, .int)] [(m0, .inr (5, [.int th, .ref mu, .ref mz, .ref mb, .ref mr])), (mu, .inl (cI, 510, .inl (nf U))), (mz, .inl (cI, 2, .inl (nf Z))), (mb, .inl (cI, 1024, .inl (nf B))), (mr, .inl (cI, 11, .inl (nf b)))] (some (.int (nI 1))) [(m0, .inr (5, [.int (nI 0), .ref mu, .ref mz, .ref mb, .ref mr])), (mu, .inl (cI, 510, .inl (nf U))), (mz, .inl (cI, 2, .inl (nf Z))), (mb, .inl (cI, 1024, .inl (nf (uN B (32 * k + j) (y % 2 ^ 8))))), (mr, .inl (cI, 11, .inl (nf b)))] := by
  refine mk_Mi (cc := b_Mo_poke) (maxL := 4) (by decide) rfl (Nat.le_of_ble_eq_true rfl) (rfl) ?_
  intro p e s m below meth c Q A ls S hP hK hT hS hl hD hA hret
  obtain ⟨hx, hb, hml, hown, hts⟩ := id S
  have hl : lv_has ls 4 [(0, .ref m0), (1, .int (nI k)), (2, .int (nI j)), (3, .int (nI y))] := hl
  refine lv_aload_n hx hb d_Mo_poke_0 rfl (lv_at hl 0 rfl) ?_
  refine lv_iconst (v := nI 0) hx hb d_Mo_poke_1 (by decide) ?_
  refine va_put (D := (dC, dI)) (ci := 5) (v := .int (nI 0)) (ty := .int) (C := "LongNamesModel") (T := F_Mo) (N := 5) hx hb hts (iw_Mo _) t_Mo t_Mo_ok n_Mo hown hK hP hD hS 0 rfl rfl 0 (by decide) (hts _ (List.mem_cons_of_mem _ k_522)) (fun _ h9 => h9) rfl (by decide +kernel) rfl rfl (Nat.le_of_ble_eq_true rfl) d_Mo_poke_2 (fun H locs hP hD hS => ?_)
  have hP : va_P (dC, dI) vwCl [(m0, .inr (5, [.int (nI 0), .ref mu, .ref mz, .ref mb, .ref mr])), (mu, .inl (cI, 510, .inl (nf U))), (mz, .inl (cI, 2, .inl (nf Z))), (mb, .inl (cI, 1024, .inl (nf B))), (mr, .inl (cI, 11, .inl (nf b)))] H := hP
  have hD : va_D A [(m0, .inr (5, [.int (nI 0), .ref mu, .ref mz, .ref mb, .ref mr])), (mu, .inl (cI, 510, .inl (nf U))), (mz, .inl (cI, 2, .inl (nf Z))), (mb, .inl (cI, 1024, .inl (nf B))), (mr, .inl (cI, 11, .inl (nf b)))] := hD
  refine lv_iload_n hx hb d_Mo_poke_5 rfl (lv_at hl 1 rfl) ?_
  refine lv_iload_n hx hb d_Mo_poke_6 rfl (lv_at hl 2 rfl) ?_
  refine mk_r1 (W.runS (As := [.int (nI k), .int (nI j)]) (rest := []) S (c_Mo_byN l dC dI cI k j (by first | assumption | omega) (by first | assumption | omega)) (gS 2 hts k_645 k_646 k_29 k_647 (by decide +kernel) ⟨Nat.le_of_ble_eq_true rfl, Nat.le_of_ble_eq_true rfl⟩) (mk_sR hP hK hT hS [] rfl) rfl rfl hl.1 rfl (lv_room (Nat.le_of_ble_eq_true rfl)) d_Mo_poke_7 ⟨Nat.zero_le _, Nat.zero_le _⟩) ?_
  refine lv_if_ne (tgt := 15) hx hb d_Mo_poke_10 (by decide) (fun c_1 => ?_) (fun c_1 => ?_)
  · skip
    rw [mk_ceq (by omega)] at c_1
    refine lv_aload_n hx hb d_Mo_poke_15 rfl (lv_at hl 0 rfl) ?_
    refine va_get (D := (dC, dI)) (ci := 5) (v := .ref mb) (C := "LongNamesModel") (T := F_Mo) (N := 5) hx hb hts (iw_Mo _) hown hK hP 0 rfl rfl 3 (by decide) (hts _ (List.mem_cons_of_mem _ k_525)) (fun _ h9 => h9) rfl d_Mo_poke_16 ?_
    refine lv_bipush (v := nI 32) hx hb d_Mo_poke_19 (by decide) ?_
    refine lv_iload_n hx hb d_Mo_poke_21 rfl (lv_at hl 1 rfl) ?_
    refine lv_imul hx hb d_Mo_poke_22 ?_
    refine mk_ti (y := nI (32 * k)) (pk_mul 32 k) ?_
    refine lv_iload_n hx hb d_Mo_poke_23 rfl (lv_at hl 2 rfl) ?_
    refine lv_iadd hx hb d_Mo_poke_24 ?_
    refine mk_ti (y := nI (32 * k + j)) (nI_add (32 * k) j) ?_
    refine lv_iload_n hx hb d_Mo_poke_25 rfl (lv_at hl 3 rfl) ?_
    refine lv_sipush (v := nI 255) hx hb d_Mo_poke_26 (by decide) ?_
    refine lv_iand hx hb d_Mo_poke_29 ?_
    refine mk_ti (y := nI (y % 2 ^ 8)) (pk_andN (by omega) 8 (by decide)) ?_
    refine va_iast hx hb hK hP hD hS 3 0 rfl rfl (vp_in_nI (N := 1024) (show 32 * k + j < 1024 by omega) (by decide)) d_Mo_poke_30 (fun H locs hP hD hS => ?_)
    rw [nI_clamp (by omega), nf_up] at hP hD
    have hP : va_P (dC, dI) vwCl [(m0, .inr (5, [.int (nI 0), .ref mu, .ref mz, .ref mb, .ref mr])), (mu, .inl (cI, 510, .inl (nf U))), (mz, .inl (cI, 2, .inl (nf Z))), (mb, .inl (cI, 1024, .inl (nf (uN B (32 * k + j) (y % 2 ^ 8))))), (mr, .inl (cI, 11, .inl (nf b)))] H := hP
    have hD : va_D A [(m0, .inr (5, [.int (nI 0), .ref mu, .ref mz, .ref mb, .ref mr])), (mu, .inl (cI, 510, .inl (nf U))), (mz, .inl (cI, 2, .inl (nf Z))), (mb, .inl (cI, 1024, .inl (nf (uN B (32 * k + j) (y % 2 ^ 8))))), (mr, .inl (cI, 11, .inl (nf b)))] := hD
    refine lv_iconst (v := nI 1) hx hb d_Mo_poke_31 (by decide) ?_
    exact hret _ _ _ _ d_Mo_poke_32 hP hD hS
  · skip
    rw [mk_ceq (by omega)] at c_1
    first | omega | contradiction

set_option maxHeartbeats 1000000 in
set_option maxRecDepth 100000 in
theorem c_Mo_pokey (l : Launch) (dC : Nat → ClassId) (dI : Nat → Nat → Nat) (cI : ClassId) (m0 : Nat) (th : Int32) (mu mz mb mr : Nat) (U Z B b : Nat → Nat) (k : Nat) (x9 y : Int32) (hU : ∀ j, U j < 65536) (hZ : ∀ j, Z j ≤ 255) (hB : ∀ j, B j < 65536) (hb9 : ∀ j, b j < 65536) (hk : k < 32) (hj : x9 < 0 ∨ nI 32 ≤ x9) : mM l y_Mo_poke w_Mo_poke ({ frames := 1, cells := 0, slots := 0, locals := 21 } : Room) [.ref m0, .int (nI k), .int x9, .int y] (dC, dI) vwCl [(cI, .int)] [(m0, .inr (5, [.int th, .ref mu, .ref mz, .ref mb, .ref mr])), (mu, .inl (cI, 510, .inl (nf U))), (mz, .inl (cI, 2, .inl (nf Z))), (mb, .inl (cI, 1024, .inl (nf B))), (mr, .inl (cI, 11, .inl (nf b)))] (some (.int (nI 0))) [(m0, .inr (5, [.int (nI 0), .ref mu, .ref mz, .ref mb, .ref mr])), (mu, .inl (cI, 510, .inl (nf U))), (mz, .inl (cI, 2, .inl (nf Z))), (mb, .inl (cI, 1024, .inl (nf B))), (mr, .inl (cI, 11, .inl (nf b)))] := by
  refine mk_Mi (cc := b_Mo_poke) (maxL := 4) (by decide) rfl (Nat.le_of_ble_eq_true rfl) (rfl) ?_
  intro p e s m below meth c Q A ls S hP hK hT hS hl hD hA hret
  obtain ⟨hx, hb, hml, hown, hts⟩ := id S
  have hl : lv_has ls 4 [(0, .ref m0), (1, .int (nI k)), (2, .int x9), (3, .int y)] := hl
  refine lv_aload_n hx hb d_Mo_poke_0 rfl (lv_at hl 0 rfl) ?_
  refine lv_iconst (v := nI 0) hx hb d_Mo_poke_1 (by decide) ?_
  refine va_put (D := (dC, dI)) (ci := 5) (v := .int (nI 0)) (ty := .int) (C := "LongNamesModel") (T := F_Mo) (N := 5) hx hb hts (iw_Mo _) t_Mo t_Mo_ok n_Mo hown hK hP hD hS 0 rfl rfl 0 (by decide) (hts _ (List.mem_cons_of_mem _ k_522)) (fun _ h9 => h9) rfl (by decide +kernel) rfl rfl (Nat.le_of_ble_eq_true rfl) d_Mo_poke_2 (fun H locs hP hD hS => ?_)
  have hP : va_P (dC, dI) vwCl [(m0, .inr (5, [.int (nI 0), .ref mu, .ref mz, .ref mb, .ref mr])), (mu, .inl (cI, 510, .inl (nf U))), (mz, .inl (cI, 2, .inl (nf Z))), (mb, .inl (cI, 1024, .inl (nf B))), (mr, .inl (cI, 11, .inl (nf b)))] H := hP
  have hD : va_D A [(m0, .inr (5, [.int (nI 0), .ref mu, .ref mz, .ref mb, .ref mr])), (mu, .inl (cI, 510, .inl (nf U))), (mz, .inl (cI, 2, .inl (nf Z))), (mb, .inl (cI, 1024, .inl (nf B))), (mr, .inl (cI, 11, .inl (nf b)))] := hD
  refine lv_iload_n hx hb d_Mo_poke_5 rfl (lv_at hl 1 rfl) ?_
  refine lv_iload_n hx hb d_Mo_poke_6 rfl (lv_at hl 2 rfl) ?_
  refine mk_r1 (W.runS (As := [.int (nI k), .int x9]) (rest := []) S (c_Mo_byY l dC dI cI k x9 (by first | assumption | omega) (by first | assumption | omega)) (gS 2 hts k_645 k_646 k_29 k_647 (by decide +kernel) ⟨Nat.le_of_ble_eq_true rfl, Nat.le_of_ble_eq_true rfl⟩) (mk_sR hP hK hT hS [] rfl) rfl rfl hl.1 rfl (lv_room (Nat.le_of_ble_eq_true rfl)) d_Mo_poke_7 ⟨Nat.zero_le _, Nat.zero_le _⟩) ?_
  refine lv_if_ne (tgt := 15) hx hb d_Mo_poke_10 (by decide) (fun c_1 => ?_) (fun c_1 => ?_)
  · skip
    rw [mk_ceq (by omega)] at c_1
    first | omega | contradiction
  · skip
    rw [mk_ceq (by omega)] at c_1
    refine lv_iconst (v := nI 0) hx hb d_Mo_poke_13 (by decide) ?_
    exact hret _ _ _ _ d_Mo_poke_14 hP hD hS

set_option maxHeartbeats 1000000 in
set_option maxRecDepth 100000 in
theorem c_Mo_pokex (l : Launch) (dC : Nat → ClassId) (dI : Nat → Nat → Nat) (cI : ClassId) (m0 : Nat) (th : Int32) (mu mz mb mr : Nat) (U Z B b : Nat → Nat) (x9 z9 y : Int32) (hU : ∀ j, U j < 65536) (hZ : ∀ j, Z j ≤ 255) (hB : ∀ j, B j < 65536) (hb9 : ∀ j, b j < 65536) (hk : x9 < 0 ∨ nI 32 ≤ x9) : mM l y_Mo_poke w_Mo_poke ({ frames := 1, cells := 0, slots := 0, locals := 21 } : Room) [.ref m0, .int x9, .int z9, .int y] (dC, dI) vwCl [(cI, .int)] [(m0, .inr (5, [.int th, .ref mu, .ref mz, .ref mb, .ref mr])), (mu, .inl (cI, 510, .inl (nf U))), (mz, .inl (cI, 2, .inl (nf Z))), (mb, .inl (cI, 1024, .inl (nf B))), (mr, .inl (cI, 11, .inl (nf b)))] (some (.int (nI 0))) [(m0, .inr (5, [.int (nI 0), .ref mu, .ref mz, .ref mb, .ref mr])), (mu, .inl (cI, 510, .inl (nf U))), (mz, .inl (cI, 2, .inl (nf Z))), (mb, .inl (cI, 1024, .inl (nf B))), (mr, .inl (cI, 11, .inl (nf b)))] := by
  refine mk_Mi (cc := b_Mo_poke) (maxL := 4) (by decide) rfl (Nat.le_of_ble_eq_true rfl) (rfl) ?_
  intro p e s m below meth c Q A ls S hP hK hT hS hl hD hA hret
  obtain ⟨hx, hb, hml, hown, hts⟩ := id S
  have hl : lv_has ls 4 [(0, .ref m0), (1, .int x9), (2, .int z9), (3, .int y)] := hl
  refine lv_aload_n hx hb d_Mo_poke_0 rfl (lv_at hl 0 rfl) ?_
  refine lv_iconst (v := nI 0) hx hb d_Mo_poke_1 (by decide) ?_
  refine va_put (D := (dC, dI)) (ci := 5) (v := .int (nI 0)) (ty := .int) (C := "LongNamesModel") (T := F_Mo) (N := 5) hx hb hts (iw_Mo _) t_Mo t_Mo_ok n_Mo hown hK hP hD hS 0 rfl rfl 0 (by decide) (hts _ (List.mem_cons_of_mem _ k_522)) (fun _ h9 => h9) rfl (by decide +kernel) rfl rfl (Nat.le_of_ble_eq_true rfl) d_Mo_poke_2 (fun H locs hP hD hS => ?_)
  have hP : va_P (dC, dI) vwCl [(m0, .inr (5, [.int (nI 0), .ref mu, .ref mz, .ref mb, .ref mr])), (mu, .inl (cI, 510, .inl (nf U))), (mz, .inl (cI, 2, .inl (nf Z))), (mb, .inl (cI, 1024, .inl (nf B))), (mr, .inl (cI, 11, .inl (nf b)))] H := hP
  have hD : va_D A [(m0, .inr (5, [.int (nI 0), .ref mu, .ref mz, .ref mb, .ref mr])), (mu, .inl (cI, 510, .inl (nf U))), (mz, .inl (cI, 2, .inl (nf Z))), (mb, .inl (cI, 1024, .inl (nf B))), (mr, .inl (cI, 11, .inl (nf b)))] := hD
  refine lv_iload_n hx hb d_Mo_poke_5 rfl (lv_at hl 1 rfl) ?_
  refine lv_iload_n hx hb d_Mo_poke_6 rfl (lv_at hl 2 rfl) ?_
  refine mk_r1 (W.runS (As := [.int x9, .int z9]) (rest := []) S (c_Mo_byX l dC dI cI x9 z9 (by first | assumption | omega)) (gS 2 hts k_645 k_646 k_29 k_647 (by decide +kernel) ⟨Nat.le_of_ble_eq_true rfl, Nat.le_of_ble_eq_true rfl⟩) (mk_sR hP hK hT hS [] rfl) rfl rfl hl.1 rfl (lv_room (Nat.le_of_ble_eq_true rfl)) d_Mo_poke_7 ⟨Nat.zero_le _, Nat.zero_le _⟩) ?_
  refine lv_if_ne (tgt := 15) hx hb d_Mo_poke_10 (by decide) (fun c_1 => ?_) (fun c_1 => ?_)
  · skip
    rw [mk_ceq (by omega)] at c_1
    first | omega | contradiction
  · skip
    rw [mk_ceq (by omega)] at c_1
    refine lv_iconst (v := nI 0) hx hb d_Mo_poke_13 (by decide) ?_
    exact hret _ _ _ _ d_Mo_poke_14 hP hD hS

set_option maxHeartbeats 1000000 in
set_option maxRecDepth 100000 in
theorem c_Mo_byte (l : Launch) (dC : Nat → ClassId) (dI : Nat → Nat → Nat) (cI : ClassId) (m0 : Nat) (th : Int32) (mu mz mb mr : Nat) (U Z B b : Nat → Nat) (k j : Nat) (hU : ∀ j, U j < 65536) (hZ : ∀ j, Z j ≤ 255) (hB : ∀ j, B j < 65536) (hb9 : ∀ j, b j < 65536) (hk : k < 32) (hj : j < 32) : mM l y_Mo_byteAt w_Mo_byteAt ({ frames := 1, cells := 0, slots := 0, locals := 21 } : Room) [.ref m0, .int (nI k), .int (nI j)] (dC, dI) vwCl [(cI, .int)] [(m0, .inr (5, [.int th, .ref mu, .ref mz, .ref mb, .ref mr])), (mu, .inl (cI, 510, .inl (nf U))), (mz, .inl (cI, 2, .inl (nf Z))), (mb, .inl (cI, 1024, .inl (nf B))), (mr, .inl (cI, 11, .inl (nf b)))] (some (.int (nI (B (32 * k + j))))) [(m0, .inr (5, [.int (nI 0), .ref mu, .ref mz, .ref mb, .ref mr])), (mu, .inl (cI, 510, .inl (nf U))), (mz, .inl (cI, 2, .inl (nf Z))), (mb, .inl (cI, 1024, .inl (nf B))), (mr, .inl (cI, 11, .inl (nf b)))] := by
  refine mk_Mi (cc := b_Mo_byteAt) (maxL := 3) (by decide) rfl (Nat.le_of_ble_eq_true rfl) rfl ?_
  intro p e s m below meth c Q A ls S hP hK hT hS hl hD hA hret
  obtain ⟨hx, hb, hml, hown, hts⟩ := id S
  have hl : lv_has ls 3 [(0, .ref m0), (1, .int (nI k)), (2, .int (nI j))] := hl
  refine lv_aload_n hx hb d_Mo_byteAt_0 rfl (lv_at hl 0 rfl) ?_
  refine lv_iconst (v := nI 0) hx hb d_Mo_byteAt_1 (by decide) ?_
  refine va_put (D := (dC, dI)) (ci := 5) (v := .int (nI 0)) (ty := .int) (C := "LongNamesModel") (T := F_Mo) (N := 5) hx hb hts (iw_Mo _) t_Mo t_Mo_ok n_Mo hown hK hP hD hS 0 rfl rfl 0 (by decide) (hts _ (List.mem_cons_of_mem _ k_522)) (fun _ h9 => h9) rfl (by decide +kernel) rfl rfl (Nat.le_of_ble_eq_true rfl) d_Mo_byteAt_2 (fun H locs hP hD hS => ?_)
  have hP : va_P (dC, dI) vwCl [(m0, .inr (5, [.int (nI 0), .ref mu, .ref mz, .ref mb, .ref mr])), (mu, .inl (cI, 510, .inl (nf U))), (mz, .inl (cI, 2, .inl (nf Z))), (mb, .inl (cI, 1024, .inl (nf B))), (mr, .inl (cI, 11, .inl (nf b)))] H := hP
  have hD : va_D A [(m0, .inr (5, [.int (nI 0), .ref mu, .ref mz, .ref mb, .ref mr])), (mu, .inl (cI, 510, .inl (nf U))), (mz, .inl (cI, 2, .inl (nf Z))), (mb, .inl (cI, 1024, .inl (nf B))), (mr, .inl (cI, 11, .inl (nf b)))] := hD
  refine lv_iload_n hx hb d_Mo_byteAt_5 rfl (lv_at hl 1 rfl) ?_
  refine lv_iload_n hx hb d_Mo_byteAt_6 rfl (lv_at hl 2 rfl) ?_
  refine mk_r1 (W.runS (As := [.int (nI k), .int (nI j)]) (rest := []) S (c_Mo_byN l dC dI cI k j (by first | assumption | omega) (by first | assumption | omega)) (gS 2 hts k_645 k_646 k_29 k_647 (by decide +kernel) ⟨Nat.le_of_ble_eq_true rfl, Nat.le_of_ble_eq_true rfl⟩) (mk_sR hP hK hT hS [] rfl) rfl rfl hl.1 rfl (lv_room (Nat.le_of_ble_eq_true rfl)) d_Mo_byteAt_7 ⟨Nat.zero_le _, Nat.zero_le _⟩) ?_
  refine lv_if_eq (tgt := 27) hx hb d_Mo_byteAt_10 (by decide) (fun c_1 => ?_) (fun c_1 => ?_)
  · skip
    rw [mk_ceq (by omega)] at c_1
    first | omega | contradiction
  · skip
    rw [mk_ceq (by omega)] at c_1
    refine lv_aload_n hx hb d_Mo_byteAt_13 rfl (lv_at hl 0 rfl) ?_
    refine va_get (D := (dC, dI)) (ci := 5) (v := .ref mb) (C := "LongNamesModel") (T := F_Mo) (N := 5) hx hb hts (iw_Mo _) hown hK hP 0 rfl rfl 3 (by decide) (hts _ (List.mem_cons_of_mem _ k_525)) (fun _ h9 => h9) rfl d_Mo_byteAt_14 ?_
    refine lv_bipush (v := nI 32) hx hb d_Mo_byteAt_17 (by decide) ?_
    refine lv_iload_n hx hb d_Mo_byteAt_19 rfl (lv_at hl 1 rfl) ?_
    refine lv_imul hx hb d_Mo_byteAt_20 ?_
    refine mk_ti (y := nI (32 * k)) (pk_mul 32 k) ?_
    refine lv_iload_n hx hb d_Mo_byteAt_21 rfl (lv_at hl 2 rfl) ?_
    refine lv_iadd hx hb d_Mo_byteAt_22 ?_
    refine mk_ti (y := nI (32 * k + j)) (nI_add (32 * k) j) ?_
    refine va_iald hx hb hK hP 3 0 rfl rfl (vp_in_nI (N := 1024) (show 32 * k + j < 1024 by omega) (by decide)) d_Mo_byteAt_23 ?_
    refine mk_ti (y := nI (B (32 * k + j))) (by rw [nI_clamp (by omega)]; rfl) ?_
    have b_2 := hB (32 * k + j)
    refine lv_goto (tgt := 28) hx hb d_Mo_byteAt_24 (by decide) ?_
    exact hret _ _ _ _ d_Mo_byteAt_28 hP hD hS

set_option maxHeartbeats 1000000 in
set_option maxRecDepth 100000 in
theorem c_Mo_bytey (l : Launch) (dC : Nat → ClassId) (dI : Nat → Nat → Nat) (cI : ClassId) (m0 : Nat) (th : Int32) (mu mz mb mr : Nat) (U Z B b : Nat → Nat) (k : Nat) (x9 : Int32) (hU : ∀ j, U j < 65536) (hZ : ∀ j, Z j ≤ 255) (hB : ∀ j, B j < 65536) (hb9 : ∀ j, b j < 65536) (hk : k < 32) (hj : x9 < 0 ∨ nI 32 ≤ x9) : mM l y_Mo_byteAt w_Mo_byteAt ({ frames := 1, cells := 0, slots := 0, locals := 21 } : Room) [.ref m0, .int (nI k), .int x9] (dC, dI) vwCl [(cI, .int)] [(m0, .inr (5, [.int th, .ref mu, .ref mz, .ref mb, .ref mr])), (mu, .inl (cI, 510, .inl (nf U))), (mz, .inl (cI, 2, .inl (nf Z))), (mb, .inl (cI, 1024, .inl (nf B))), (mr, .inl (cI, 11, .inl (nf b)))] (some (.int (-1))) [(m0, .inr (5, [.int (nI 0), .ref mu, .ref mz, .ref mb, .ref mr])), (mu, .inl (cI, 510, .inl (nf U))), (mz, .inl (cI, 2, .inl (nf Z))), (mb, .inl (cI, 1024, .inl (nf B))), (mr, .inl (cI, 11, .inl (nf b)))] := by
  refine mk_Mi (cc := b_Mo_byteAt) (maxL := 3) (by decide) rfl (Nat.le_of_ble_eq_true rfl) rfl ?_
  intro p e s m below meth c Q A ls S hP hK hT hS hl hD hA hret
  obtain ⟨hx, hb, hml, hown, hts⟩ := id S
  have hl : lv_has ls 3 [(0, .ref m0), (1, .int (nI k)), (2, .int x9)] := hl
  refine lv_aload_n hx hb d_Mo_byteAt_0 rfl (lv_at hl 0 rfl) ?_
  refine lv_iconst (v := nI 0) hx hb d_Mo_byteAt_1 (by decide) ?_
  refine va_put (D := (dC, dI)) (ci := 5) (v := .int (nI 0)) (ty := .int) (C := "LongNamesModel") (T := F_Mo) (N := 5) hx hb hts (iw_Mo _) t_Mo t_Mo_ok n_Mo hown hK hP hD hS 0 rfl rfl 0 (by decide) (hts _ (List.mem_cons_of_mem _ k_522)) (fun _ h9 => h9) rfl (by decide +kernel) rfl rfl (Nat.le_of_ble_eq_true rfl) d_Mo_byteAt_2 (fun H locs hP hD hS => ?_)
  have hP : va_P (dC, dI) vwCl [(m0, .inr (5, [.int (nI 0), .ref mu, .ref mz, .ref mb, .ref mr])), (mu, .inl (cI, 510, .inl (nf U))), (mz, .inl (cI, 2, .inl (nf Z))), (mb, .inl (cI, 1024, .inl (nf B))), (mr, .inl (cI, 11, .inl (nf b)))] H := hP
  have hD : va_D A [(m0, .inr (5, [.int (nI 0), .ref mu, .ref mz, .ref mb, .ref mr])), (mu, .inl (cI, 510, .inl (nf U))), (mz, .inl (cI, 2, .inl (nf Z))), (mb, .inl (cI, 1024, .inl (nf B))), (mr, .inl (cI, 11, .inl (nf b)))] := hD
  refine lv_iload_n hx hb d_Mo_byteAt_5 rfl (lv_at hl 1 rfl) ?_
  refine lv_iload_n hx hb d_Mo_byteAt_6 rfl (lv_at hl 2 rfl) ?_
  refine mk_r1 (W.runS (As := [.int (nI k), .int x9]) (rest := []) S (c_Mo_byY l dC dI cI k x9 (by first | assumption | omega) (by first | assumption | omega)) (gS 2 hts k_645 k_646 k_29 k_647 (by decide +kernel) ⟨Nat.le_of_ble_eq_true rfl, Nat.le_of_ble_eq_true rfl⟩) (mk_sR hP hK hT hS [] rfl) rfl rfl hl.1 rfl (lv_room (Nat.le_of_ble_eq_true rfl)) d_Mo_byteAt_7 ⟨Nat.zero_le _, Nat.zero_le _⟩) ?_
  refine lv_if_eq (tgt := 27) hx hb d_Mo_byteAt_10 (by decide) (fun c_1 => ?_) (fun c_1 => ?_)
  · skip
    rw [mk_ceq (by omega)] at c_1
    refine lv_iconst (v := (-1)) hx hb d_Mo_byteAt_27 (by decide) ?_
    exact hret _ _ _ _ d_Mo_byteAt_28 hP hD hS
  · skip
    rw [mk_ceq (by omega)] at c_1
    first | omega | contradiction

set_option maxHeartbeats 1000000 in
set_option maxRecDepth 100000 in
theorem c_Mo_bytex (l : Launch) (dC : Nat → ClassId) (dI : Nat → Nat → Nat) (cI : ClassId) (m0 : Nat) (th : Int32) (mu mz mb mr : Nat) (U Z B b : Nat → Nat) (x9 z9 : Int32) (hU : ∀ j, U j < 65536) (hZ : ∀ j, Z j ≤ 255) (hB : ∀ j, B j < 65536) (hb9 : ∀ j, b j < 65536) (hk : x9 < 0 ∨ nI 32 ≤ x9) : mM l y_Mo_byteAt w_Mo_byteAt ({ frames := 1, cells := 0, slots := 0, locals := 21 } : Room) [.ref m0, .int x9, .int z9] (dC, dI) vwCl [(cI, .int)] [(m0, .inr (5, [.int th, .ref mu, .ref mz, .ref mb, .ref mr])), (mu, .inl (cI, 510, .inl (nf U))), (mz, .inl (cI, 2, .inl (nf Z))), (mb, .inl (cI, 1024, .inl (nf B))), (mr, .inl (cI, 11, .inl (nf b)))] (some (.int (-1))) [(m0, .inr (5, [.int (nI 0), .ref mu, .ref mz, .ref mb, .ref mr])), (mu, .inl (cI, 510, .inl (nf U))), (mz, .inl (cI, 2, .inl (nf Z))), (mb, .inl (cI, 1024, .inl (nf B))), (mr, .inl (cI, 11, .inl (nf b)))] := by
  refine mk_Mi (cc := b_Mo_byteAt) (maxL := 3) (by decide) rfl (Nat.le_of_ble_eq_true rfl) rfl ?_
  intro p e s m below meth c Q A ls S hP hK hT hS hl hD hA hret
  obtain ⟨hx, hb, hml, hown, hts⟩ := id S
  have hl : lv_has ls 3 [(0, .ref m0), (1, .int x9), (2, .int z9)] := hl
  refine lv_aload_n hx hb d_Mo_byteAt_0 rfl (lv_at hl 0 rfl) ?_
  refine lv_iconst (v := nI 0) hx hb d_Mo_byteAt_1 (by decide) ?_
  refine va_put (D := (dC, dI)) (ci := 5) (v := .int (nI 0)) (ty := .int) (C := "LongNamesModel") (T := F_Mo) (N := 5) hx hb hts (iw_Mo _) t_Mo t_Mo_ok n_Mo hown hK hP hD hS 0 rfl rfl 0 (by decide) (hts _ (List.mem_cons_of_mem _ k_522)) (fun _ h9 => h9) rfl (by decide +kernel) rfl rfl (Nat.le_of_ble_eq_true rfl) d_Mo_byteAt_2 (fun H locs hP hD hS => ?_)
  have hP : va_P (dC, dI) vwCl [(m0, .inr (5, [.int (nI 0), .ref mu, .ref mz, .ref mb, .ref mr])), (mu, .inl (cI, 510, .inl (nf U))), (mz, .inl (cI, 2, .inl (nf Z))), (mb, .inl (cI, 1024, .inl (nf B))), (mr, .inl (cI, 11, .inl (nf b)))] H := hP
  have hD : va_D A [(m0, .inr (5, [.int (nI 0), .ref mu, .ref mz, .ref mb, .ref mr])), (mu, .inl (cI, 510, .inl (nf U))), (mz, .inl (cI, 2, .inl (nf Z))), (mb, .inl (cI, 1024, .inl (nf B))), (mr, .inl (cI, 11, .inl (nf b)))] := hD
  refine lv_iload_n hx hb d_Mo_byteAt_5 rfl (lv_at hl 1 rfl) ?_
  refine lv_iload_n hx hb d_Mo_byteAt_6 rfl (lv_at hl 2 rfl) ?_
  refine mk_r1 (W.runS (As := [.int x9, .int z9]) (rest := []) S (c_Mo_byX l dC dI cI x9 z9 (by first | assumption | omega)) (gS 2 hts k_645 k_646 k_29 k_647 (by decide +kernel) ⟨Nat.le_of_ble_eq_true rfl, Nat.le_of_ble_eq_true rfl⟩) (mk_sR hP hK hT hS [] rfl) rfl rfl hl.1 rfl (lv_room (Nat.le_of_ble_eq_true rfl)) d_Mo_byteAt_7 ⟨Nat.zero_le _, Nat.zero_le _⟩) ?_
  refine lv_if_eq (tgt := 27) hx hb d_Mo_byteAt_10 (by decide) (fun c_1 => ?_) (fun c_1 => ?_)
  · skip
    rw [mk_ceq (by omega)] at c_1
    refine lv_iconst (v := (-1)) hx hb d_Mo_byteAt_27 (by decide) ?_
    exact hret _ _ _ _ d_Mo_byteAt_28 hP hD hS
  · skip
    rw [mk_ceq (by omega)] at c_1
    first | omega | contradiction

set_option maxHeartbeats 1000000 in
set_option maxRecDepth 100000 in
theorem c_Mo_sum (l : Launch) (dC : Nat → ClassId) (dI : Nat → Nat → Nat) (cI : ClassId) (m0 : Nat) (th : Int32) (mu mz mb mr : Nat) (U Z B b : Nat → Nat) (q : Nat) (hU : ∀ j, U j < 65536) (hZ : ∀ j, Z j ≤ 255) (hB : ∀ j, B j < 65536) (hb9 : ∀ j, b j < 65536) (hq : q < 32) : mM l y_Mo_sum w_Mo_sum ({ frames := 1, cells := 0, slots := 0, locals := 23 } : Room) [.ref m0, .int (nI q)] (dC, dI) vwCl [(cI, .int)] [(m0, .inr (5, [.int th, .ref mu, .ref mz, .ref mb, .ref mr])), (mu, .inl (cI, 510, .inl (nf U))), (mz, .inl (cI, 2, .inl (nf Z))), (mb, .inl (cI, 1024, .inl (nf B))), (mr, .inl (cI, 11, .inl (nf b)))] (some (.int (nI (suN B (32 * q) 11)))) [(m0, .inr (5, [.int (nI 0), .ref mu, .ref mz, .ref mb, .ref mr])), (mu, .inl (cI, 510, .inl (nf U))), (mz, .inl (cI, 2, .inl (nf Z))), (mb, .inl (cI, 1024, .inl (nf B))), (mr, .inl (cI, 11, .inl (nf b)))] := by
  refine mk_Mi (cc := b_Mo_sum) (maxL := 2) (by decide) rfl (Nat.le_of_ble_eq_true rfl) rfl ?_
  intro p e s m below meth c Q A ls S hP hK hT hS hl hD hA hret
  obtain ⟨hx, hb, hml, hown, hts⟩ := id S
  have hl : lv_has ls 2 [(0, .ref m0), (1, .int (nI q))] := hl
  refine lv_aload_n hx hb d_Mo_sum_0 rfl (lv_at hl 0 rfl) ?_
  refine lv_iconst (v := nI 0) hx hb d_Mo_sum_1 (by decide) ?_
  refine va_put (D := (dC, dI)) (ci := 5) (v := .int (nI 0)) (ty := .int) (C := "LongNamesModel") (T := F_Mo) (N := 5) hx hb hts (iw_Mo _) t_Mo t_Mo_ok n_Mo hown hK hP hD hS 0 rfl rfl 0 (by decide) (hts _ (List.mem_cons_of_mem _ k_522)) (fun _ h9 => h9) rfl (by decide +kernel) rfl rfl (Nat.le_of_ble_eq_true rfl) d_Mo_sum_2 (fun H locs hP hD hS => ?_)
  have hP : va_P (dC, dI) vwCl [(m0, .inr (5, [.int (nI 0), .ref mu, .ref mz, .ref mb, .ref mr])), (mu, .inl (cI, 510, .inl (nf U))), (mz, .inl (cI, 2, .inl (nf Z))), (mb, .inl (cI, 1024, .inl (nf B))), (mr, .inl (cI, 11, .inl (nf b)))] H := hP
  have hD : va_D A [(m0, .inr (5, [.int (nI 0), .ref mu, .ref mz, .ref mb, .ref mr])), (mu, .inl (cI, 510, .inl (nf U))), (mz, .inl (cI, 2, .inl (nf Z))), (mb, .inl (cI, 1024, .inl (nf B))), (mr, .inl (cI, 11, .inl (nf b)))] := hD
  refine lv_iload_n hx hb d_Mo_sum_5 rfl (lv_at hl 1 rfl) ?_
  refine lv_iconst (v := nI 0) hx hb d_Mo_sum_6 (by decide) ?_
  refine mk_r1 (W.runS (As := [.int (nI q), .int (nI 0)]) (rest := []) S (c_Mo_byN l dC dI cI q 0 (by first | assumption | omega) (by first | assumption | omega)) (gS 2 hts k_645 k_646 k_29 k_647 (by decide +kernel) ⟨Nat.le_of_ble_eq_true rfl, Nat.le_of_ble_eq_true rfl⟩) (mk_sR hP hK hT hS [] rfl) rfl rfl hl.1 rfl (lv_room (Nat.le_of_ble_eq_true rfl)) d_Mo_sum_7 ⟨Nat.zero_le _, Nat.zero_le _⟩) ?_
  refine lv_if_eq (tgt := 24) hx hb d_Mo_sum_10 (by decide) (fun c_1 => ?_) (fun c_1 => ?_)
  · skip
    rw [mk_ceq (by omega)] at c_1
    first | omega | contradiction
  · skip
    rw [mk_ceq (by omega)] at c_1
    refine lv_aload_n hx hb d_Mo_sum_13 rfl (lv_at hl 0 rfl) ?_
    refine lv_bipush (v := nI 32) hx hb d_Mo_sum_14 (by decide) ?_
    refine lv_iload_n hx hb d_Mo_sum_16 rfl (lv_at hl 1 rfl) ?_
    refine lv_imul hx hb d_Mo_sum_17 ?_
    refine mk_ti (y := nI (32 * q)) (pk_mul 32 q) ?_
    refine mk_r1 (W.runV (As := [.int (nI (32 * q))]) (rest := []) S (c_Mo_sumOf l dC dI cI m0 (nI 0) mu mz mb mr B (32 * q) (by first | assumption | omega) (by first | assumption | omega)) (gV 1 hts k_611 k_613 k_18 k_29 k_614 (by decide +kernel) ⟨Nat.le_of_ble_eq_true rfl, Nat.le_of_ble_eq_true rfl⟩) (mk_vR hP hK hT hS [0, 3] rfl (q0 := 0) (ci := 5) rfl rfl) rfl rfl hl.1 rfl (lv_room (Nat.le_of_ble_eq_true rfl)) d_Mo_sum_18 ⟨Nat.zero_le _, Nat.zero_le _⟩) ?_
    have b_2 := suN_lt B (32 * q) 11
    refine lv_goto (tgt := 25) hx hb d_Mo_sum_21 (by decide) ?_
    exact hret _ _ _ _ d_Mo_sum_25 hP hD hS

set_option maxHeartbeats 1000000 in
set_option maxRecDepth 100000 in
theorem c_Mo_sumx (l : Launch) (dC : Nat → ClassId) (dI : Nat → Nat → Nat) (cI : ClassId) (m0 : Nat) (th : Int32) (mu mz mb mr : Nat) (U Z B b : Nat → Nat) (x9 : Int32) (hU : ∀ j, U j < 65536) (hZ : ∀ j, Z j ≤ 255) (hB : ∀ j, B j < 65536) (hb9 : ∀ j, b j < 65536) (hk : x9 < 0 ∨ nI 32 ≤ x9) : mM l y_Mo_sum w_Mo_sum ({ frames := 1, cells := 0, slots := 0, locals := 21 } : Room) [.ref m0, .int x9] (dC, dI) vwCl [(cI, .int)] [(m0, .inr (5, [.int th, .ref mu, .ref mz, .ref mb, .ref mr])), (mu, .inl (cI, 510, .inl (nf U))), (mz, .inl (cI, 2, .inl (nf Z))), (mb, .inl (cI, 1024, .inl (nf B))), (mr, .inl (cI, 11, .inl (nf b)))] (some (.int (-1))) [(m0, .inr (5, [.int (nI 0), .ref mu, .ref mz, .ref mb, .ref mr])), (mu, .inl (cI, 510, .inl (nf U))), (mz, .inl (cI, 2, .inl (nf Z))), (mb, .inl (cI, 1024, .inl (nf B))), (mr, .inl (cI, 11, .inl (nf b)))] := by
  refine mk_Mi (cc := b_Mo_sum) (maxL := 2) (by decide) rfl (Nat.le_of_ble_eq_true rfl) rfl ?_
  intro p e s m below meth c Q A ls S hP hK hT hS hl hD hA hret
  obtain ⟨hx, hb, hml, hown, hts⟩ := id S
  have hl : lv_has ls 2 [(0, .ref m0), (1, .int x9)] := hl
  refine lv_aload_n hx hb d_Mo_sum_0 rfl (lv_at hl 0 rfl) ?_
  refine lv_iconst (v := nI 0) hx hb d_Mo_sum_1 (by decide) ?_
  refine va_put (D := (dC, dI)) (ci := 5) (v := .int (nI 0)) (ty := .int) (C := "LongNamesModel") (T := F_Mo) (N := 5) hx hb hts (iw_Mo _) t_Mo t_Mo_ok n_Mo hown hK hP hD hS 0 rfl rfl 0 (by decide) (hts _ (List.mem_cons_of_mem _ k_522)) (fun _ h9 => h9) rfl (by decide +kernel) rfl rfl (Nat.le_of_ble_eq_true rfl) d_Mo_sum_2 (fun H locs hP hD hS => ?_)
  have hP : va_P (dC, dI) vwCl [(m0, .inr (5, [.int (nI 0), .ref mu, .ref mz, .ref mb, .ref mr])), (mu, .inl (cI, 510, .inl (nf U))), (mz, .inl (cI, 2, .inl (nf Z))), (mb, .inl (cI, 1024, .inl (nf B))), (mr, .inl (cI, 11, .inl (nf b)))] H := hP
  have hD : va_D A [(m0, .inr (5, [.int (nI 0), .ref mu, .ref mz, .ref mb, .ref mr])), (mu, .inl (cI, 510, .inl (nf U))), (mz, .inl (cI, 2, .inl (nf Z))), (mb, .inl (cI, 1024, .inl (nf B))), (mr, .inl (cI, 11, .inl (nf b)))] := hD
  refine lv_iload_n hx hb d_Mo_sum_5 rfl (lv_at hl 1 rfl) ?_
  refine lv_iconst (v := nI 0) hx hb d_Mo_sum_6 (by decide) ?_
  refine mk_r1 (W.runS (As := [.int x9, .int (nI 0)]) (rest := []) S (c_Mo_byX l dC dI cI x9 (nI 0) (by first | assumption | omega)) (gS 2 hts k_645 k_646 k_29 k_647 (by decide +kernel) ⟨Nat.le_of_ble_eq_true rfl, Nat.le_of_ble_eq_true rfl⟩) (mk_sR hP hK hT hS [] rfl) rfl rfl hl.1 rfl (lv_room (Nat.le_of_ble_eq_true rfl)) d_Mo_sum_7 ⟨Nat.zero_le _, Nat.zero_le _⟩) ?_
  refine lv_if_eq (tgt := 24) hx hb d_Mo_sum_10 (by decide) (fun c_1 => ?_) (fun c_1 => ?_)
  · skip
    rw [mk_ceq (by omega)] at c_1
    refine lv_iconst (v := (-1)) hx hb d_Mo_sum_24 (by decide) ?_
    exact hret _ _ _ _ d_Mo_sum_25 hP hD hS
  · skip
    rw [mk_ceq (by omega)] at c_1
    first | omega | contradiction

set_option maxHeartbeats 1000000 in
set_option maxRecDepth 100000 in
theorem c_Mo_secx (l : Launch) (dC : Nat → ClassId) (dI : Nat → Nat → Nat) (cI : ClassId) (m0 : Nat) (th : Int32) (mu mz mb mr : Nat) (U Z B b : Nat → Nat) (x9 z9 : Int32) (hU : ∀ j, U j < 65536) (hZ : ∀ j, Z j ≤ 255) (hB : ∀ j, B j < 65536) (hb9 : ∀ j, b j < 65536) (hd : x9 < 0 ∨ ¬ x9 ≤ nI 65535) : mM l y_Mo_seconds w_Mo_seconds ({ frames := 0, cells := 0, slots := 0, locals := 0 } : Room) [.ref m0, .int x9, .int z9] (dC, dI) vwCl [(cI, .int)] [(m0, .inr (5, [.int th, .ref mu, .ref mz, .ref mb, .ref mr])), (mu, .inl (cI, 510, .inl (nf U))), (mz, .inl (cI, 2, .inl (nf Z))), (mb, .inl (cI, 1024, .inl (nf B))), (mr, .inl (cI, 11, .inl (nf b)))] (some (.long (-1))) [(m0, .inr (5, [.int (nI 0), .ref mu, .ref mz, .ref mb, .ref mr])), (mu, .inl (cI, 510, .inl (nf U))), (mz, .inl (cI, 2, .inl (nf Z))), (mb, .inl (cI, 1024, .inl (nf B))), (mr, .inl (cI, 11, .inl (nf b)))] := by
  refine mk_Ml (cc := b_Mo_seconds) (maxL := 11) (by decide) rfl (Nat.le_of_ble_eq_true rfl) ?_
  intro p e s m below meth c Q A ls S hP hK hT hS hl hD hA hret
  obtain ⟨hx, hb, hml, hown, hts⟩ := id S
  have hl : lv_has ls 11 [(0, .ref m0), (1, .int x9), (2, .int z9)] := hl
  refine lv_aload_n hx hb d_Mo_seconds_0 rfl (lv_at hl 0 rfl) ?_
  refine lv_iconst (v := nI 0) hx hb d_Mo_seconds_1 (by decide) ?_
  refine va_put (D := (dC, dI)) (ci := 5) (v := .int (nI 0)) (ty := .int) (C := "LongNamesModel") (T := F_Mo) (N := 5) hx hb hts (iw_Mo _) t_Mo t_Mo_ok n_Mo hown hK hP hD hS 0 rfl rfl 0 (by decide) (hts _ (List.mem_cons_of_mem _ k_522)) (fun _ h9 => h9) rfl (by decide +kernel) rfl rfl (Nat.le_of_ble_eq_true rfl) d_Mo_seconds_2 (fun H locs hP hD hS => ?_)
  have hP : va_P (dC, dI) vwCl [(m0, .inr (5, [.int (nI 0), .ref mu, .ref mz, .ref mb, .ref mr])), (mu, .inl (cI, 510, .inl (nf U))), (mz, .inl (cI, 2, .inl (nf Z))), (mb, .inl (cI, 1024, .inl (nf B))), (mr, .inl (cI, 11, .inl (nf b)))] H := hP
  have hD : va_D A [(m0, .inr (5, [.int (nI 0), .ref mu, .ref mz, .ref mb, .ref mr])), (mu, .inl (cI, 510, .inl (nf U))), (mz, .inl (cI, 2, .inl (nf Z))), (mb, .inl (cI, 1024, .inl (nf B))), (mr, .inl (cI, 11, .inl (nf b)))] := hD
  refine lv_iload_n hx hb d_Mo_seconds_5 rfl (lv_at hl 1 rfl) ?_
  refine lv_if_lt (tgt := 25) hx hb d_Mo_seconds_6 (by decide) (fun c_1 => ?_) (fun c_1 => ?_)
  · skip
    refine lv_ldc2 (v := (-1)) hx hb hown (hts _ (List.mem_cons_of_mem _ k_660)) d_Mo_seconds_25 ?_
    exact hret _ _ _ _ d_Mo_seconds_28 hP hD hS
  · skip
    refine lv_iload_n hx hb d_Mo_seconds_9 rfl (lv_at hl 1 rfl) ?_
    refine lv_ldc (v := nI 65535) hx hb hown (hts _ (List.mem_cons_of_mem _ k_549)) d_Mo_seconds_10 ?_
    refine lv_icmp_gt (tgt := 25) hx hb d_Mo_seconds_12 (by decide) (fun c_2 => ?_) (fun c_2 => ?_)
    · skip
      refine lv_ldc2 (v := (-1)) hx hb hown (hts _ (List.mem_cons_of_mem _ k_660)) d_Mo_seconds_25 ?_
      exact hret _ _ _ _ d_Mo_seconds_28 hP hD hS
    · skip
      rcases hd with h9 | h9 <;> first | contradiction | exact absurd (Int32.not_lt.mp c_2) h9

set_option maxHeartbeats 1000000 in
set_option maxRecDepth 100000 in
theorem c_Mo_secy (l : Launch) (dC : Nat → ClassId) (dI : Nat → Nat → Nat) (cI : ClassId) (m0 : Nat) (th : Int32) (mu mz mb mr : Nat) (U Z B b : Nat → Nat) (d : Nat) (x9 : Int32) (hU : ∀ j, U j < 65536) (hZ : ∀ j, Z j ≤ 255) (hB : ∀ j, B j < 65536) (hb9 : ∀ j, b j < 65536) (h9d : d < 65536) (hd : x9 < 0 ∨ ¬ x9 ≤ nI 65535) : mM l y_Mo_seconds w_Mo_seconds ({ frames := 0, cells := 0, slots := 0, locals := 0 } : Room) [.ref m0, .int (nI d), .int x9] (dC, dI) vwCl [(cI, .int)] [(m0, .inr (5, [.int th, .ref mu, .ref mz, .ref mb, .ref mr])), (mu, .inl (cI, 510, .inl (nf U))), (mz, .inl (cI, 2, .inl (nf Z))), (mb, .inl (cI, 1024, .inl (nf B))), (mr, .inl (cI, 11, .inl (nf b)))] (some (.long (-1))) [(m0, .inr (5, [.int (nI 0), .ref mu, .ref mz, .ref mb, .ref mr])), (mu, .inl (cI, 510, .inl (nf U))), (mz, .inl (cI, 2, .inl (nf Z))), (mb, .inl (cI, 1024, .inl (nf B))), (mr, .inl (cI, 11, .inl (nf b)))] := by
  refine mk_Ml (cc := b_Mo_seconds) (maxL := 11) (by decide) rfl (Nat.le_of_ble_eq_true rfl) ?_
  intro p e s m below meth c Q A ls S hP hK hT hS hl hD hA hret
  obtain ⟨hx, hb, hml, hown, hts⟩ := id S
  have hl : lv_has ls 11 [(0, .ref m0), (1, .int (nI d)), (2, .int x9)] := hl
  refine lv_aload_n hx hb d_Mo_seconds_0 rfl (lv_at hl 0 rfl) ?_
  refine lv_iconst (v := nI 0) hx hb d_Mo_seconds_1 (by decide) ?_
  refine va_put (D := (dC, dI)) (ci := 5) (v := .int (nI 0)) (ty := .int) (C := "LongNamesModel") (T := F_Mo) (N := 5) hx hb hts (iw_Mo _) t_Mo t_Mo_ok n_Mo hown hK hP hD hS 0 rfl rfl 0 (by decide) (hts _ (List.mem_cons_of_mem _ k_522)) (fun _ h9 => h9) rfl (by decide +kernel) rfl rfl (Nat.le_of_ble_eq_true rfl) d_Mo_seconds_2 (fun H locs hP hD hS => ?_)
  have hP : va_P (dC, dI) vwCl [(m0, .inr (5, [.int (nI 0), .ref mu, .ref mz, .ref mb, .ref mr])), (mu, .inl (cI, 510, .inl (nf U))), (mz, .inl (cI, 2, .inl (nf Z))), (mb, .inl (cI, 1024, .inl (nf B))), (mr, .inl (cI, 11, .inl (nf b)))] H := hP
  have hD : va_D A [(m0, .inr (5, [.int (nI 0), .ref mu, .ref mz, .ref mb, .ref mr])), (mu, .inl (cI, 510, .inl (nf U))), (mz, .inl (cI, 2, .inl (nf Z))), (mb, .inl (cI, 1024, .inl (nf B))), (mr, .inl (cI, 11, .inl (nf b)))] := hD
  refine lv_iload_n hx hb d_Mo_seconds_5 rfl (lv_at hl 1 rfl) ?_
  refine lv_if_lt (tgt := 25) hx hb d_Mo_seconds_6 (by decide) (fun c_1 => ?_) (fun c_1 => ?_)
  · skip
    rw [mk_clt (by omega)] at c_1
    first | omega | contradiction
  · skip
    rw [mk_clt (by omega)] at c_1
    refine lv_iload_n hx hb d_Mo_seconds_9 rfl (lv_at hl 1 rfl) ?_
    refine lv_ldc (v := nI 65535) hx hb hown (hts _ (List.mem_cons_of_mem _ k_549)) d_Mo_seconds_10 ?_
    refine lv_icmp_gt (tgt := 25) hx hb d_Mo_seconds_12 (by decide) (fun c_2 => ?_) (fun c_2 => ?_)
    · skip
      rw [nI_ltI (by omega) (by omega)] at c_2
      first | omega | contradiction
    · skip
      rw [nI_ltI (by omega) (by omega)] at c_2
      refine lv_iload_n hx hb d_Mo_seconds_15 rfl (lv_at hl 2 rfl) ?_
      refine lv_if_lt (tgt := 25) hx hb d_Mo_seconds_16 (by decide) (fun c_3 => ?_) (fun c_3 => ?_)
      · skip
        refine lv_ldc2 (v := (-1)) hx hb hown (hts _ (List.mem_cons_of_mem _ k_660)) d_Mo_seconds_25 ?_
        exact hret _ _ _ _ d_Mo_seconds_28 hP hD hS
      · skip
        refine lv_iload_n hx hb d_Mo_seconds_19 rfl (lv_at hl 2 rfl) ?_
        refine lv_ldc (v := nI 65535) hx hb hown (hts _ (List.mem_cons_of_mem _ k_549)) d_Mo_seconds_20 ?_
        refine lv_icmp_le (tgt := 29) hx hb d_Mo_seconds_22 (by decide) (fun c_4 => ?_) (fun c_4 => ?_)
        · skip
          rcases hd with h9 | h9 <;> contradiction
        · skip
          refine lv_ldc2 (v := (-1)) hx hb hown (hts _ (List.mem_cons_of_mem _ k_660)) d_Mo_seconds_25 ?_
          exact hret _ _ _ _ d_Mo_seconds_28 hP hD hS

set_option maxHeartbeats 1000000 in
set_option maxRecDepth 100000 in
theorem c_Mo_sec0 (l : Launch) (dC : Nat → ClassId) (dI : Nat → Nat → Nat) (cI : ClassId) (m0 : Nat) (th : Int32) (mu mz mb mr : Nat) (U Z B b : Nat → Nat) (d t : Nat) (hU : ∀ j, U j < 65536) (hZ : ∀ j, Z j ≤ 255) (hB : ∀ j, B j < 65536) (hb9 : ∀ j, b j < 65536) (hd : d < 65536) (ht : t < 65536) (hg : sgN d t = false) : mM l y_Mo_seconds w_Mo_seconds ({ frames := 2, cells := 0, slots := 0, locals := 41 } : Room) [.ref m0, .int (nI d), .int (nI t)] (dC, dI) vwCl [(cI, .int)] [(m0, .inr (5, [.int th, .ref mu, .ref mz, .ref mb, .ref mr])), (mu, .inl (cI, 510, .inl (nf U))), (mz, .inl (cI, 2, .inl (nf Z))), (mb, .inl (cI, 1024, .inl (nf B))), (mr, .inl (cI, 11, .inl (nf b)))] (some (.long (-1))) [(m0, .inr (5, [.int (nI 0), .ref mu, .ref mz, .ref mb, .ref mr])), (mu, .inl (cI, 510, .inl (nf U))), (mz, .inl (cI, 2, .inl (nf Z))), (mb, .inl (cI, 1024, .inl (nf B))), (mr, .inl (cI, 11, .inl (nf b)))] := by
  simp only [sgN, decide_eq_false_iff_not] at hg
  refine mk_Ml (cc := b_Mo_seconds) (maxL := 11) (by decide) rfl (Nat.le_of_ble_eq_true rfl) ?_
  intro p e s m below meth c Q A ls S hP hK hT hS hl hD hA hret
  obtain ⟨hx, hb, hml, hown, hts⟩ := id S
  have hl : lv_has ls 11 [(0, .ref m0), (1, .int (nI d)), (2, .int (nI t))] := hl
  refine lv_aload_n hx hb d_Mo_seconds_0 rfl (lv_at hl 0 rfl) ?_
  refine lv_iconst (v := nI 0) hx hb d_Mo_seconds_1 (by decide) ?_
  refine va_put (D := (dC, dI)) (ci := 5) (v := .int (nI 0)) (ty := .int) (C := "LongNamesModel") (T := F_Mo) (N := 5) hx hb hts (iw_Mo _) t_Mo t_Mo_ok n_Mo hown hK hP hD hS 0 rfl rfl 0 (by decide) (hts _ (List.mem_cons_of_mem _ k_522)) (fun _ h9 => h9) rfl (by decide +kernel) rfl rfl (Nat.le_of_ble_eq_true rfl) d_Mo_seconds_2 (fun H locs hP hD hS => ?_)
  have hP : va_P (dC, dI) vwCl [(m0, .inr (5, [.int (nI 0), .ref mu, .ref mz, .ref mb, .ref mr])), (mu, .inl (cI, 510, .inl (nf U))), (mz, .inl (cI, 2, .inl (nf Z))), (mb, .inl (cI, 1024, .inl (nf B))), (mr, .inl (cI, 11, .inl (nf b)))] H := hP
  have hD : va_D A [(m0, .inr (5, [.int (nI 0), .ref mu, .ref mz, .ref mb, .ref mr])), (mu, .inl (cI, 510, .inl (nf U))), (mz, .inl (cI, 2, .inl (nf Z))), (mb, .inl (cI, 1024, .inl (nf B))), (mr, .inl (cI, 11, .inl (nf b)))] := hD
  refine lv_iload_n hx hb d_Mo_seconds_5 rfl (lv_at hl 1 rfl) ?_
  refine lv_if_lt (tgt := 25) hx hb d_Mo_seconds_6 (by decide) (fun c_1 => ?_) (fun c_1 => ?_)
  · skip
    rw [mk_clt (by omega)] at c_1
    first | omega | contradiction
  · skip
    rw [mk_clt (by omega)] at c_1
    refine lv_iload_n hx hb d_Mo_seconds_9 rfl (lv_at hl 1 rfl) ?_
    refine lv_ldc (v := nI 65535) hx hb hown (hts _ (List.mem_cons_of_mem _ k_549)) d_Mo_seconds_10 ?_
    refine lv_icmp_gt (tgt := 25) hx hb d_Mo_seconds_12 (by decide) (fun c_2 => ?_) (fun c_2 => ?_)
    · skip
      rw [nI_ltI (by omega) (by omega)] at c_2
      first | omega | contradiction
    · skip
      rw [nI_ltI (by omega) (by omega)] at c_2
      refine lv_iload_n hx hb d_Mo_seconds_15 rfl (lv_at hl 2 rfl) ?_
      refine lv_if_lt (tgt := 25) hx hb d_Mo_seconds_16 (by decide) (fun c_3 => ?_) (fun c_3 => ?_)
      · skip
        rw [mk_clt (by omega)] at c_3
        first | omega | contradiction
      · skip
        rw [mk_clt (by omega)] at c_3
        refine lv_iload_n hx hb d_Mo_seconds_19 rfl (lv_at hl 2 rfl) ?_
        refine lv_ldc (v := nI 65535) hx hb hown (hts _ (List.mem_cons_of_mem _ k_549)) d_Mo_seconds_20 ?_
        refine lv_icmp_le (tgt := 29) hx hb d_Mo_seconds_22 (by decide) (fun c_4 => ?_) (fun c_4 => ?_)
        · skip
          rw [nI_leI (by omega) (by omega)] at c_4
          refine lv_sipush (v := nI 1980) hx hb d_Mo_seconds_29 (by decide) ?_
          refine lv_iload_n hx hb d_Mo_seconds_32 rfl (lv_at hl 1 rfl) ?_
          refine lv_sipush (v := nI 512) hx hb d_Mo_seconds_33 (by decide) ?_
          refine lv_idiv hx hb d_Mo_seconds_36 (by decide) ?_
          refine mk_ti (y := nI (d / 512)) (pk_div (by omega) (by decide) (by decide)) ?_
          refine lv_iadd hx hb d_Mo_seconds_37 ?_
          refine mk_ti (y := nI (1980 + d / 512)) (nI_add 1980 (d / 512)) ?_
          refine lv_istore_n (lv' := [(3, .int (nI (1980 + d / 512))), (0, .ref m0), (1, .int (nI d)), (2, .int (nI t))]) hx hb d_Mo_seconds_38 rfl hl (by decide) rfl (fun ls hl => ?_)
          refine lv_iload_n hx hb d_Mo_seconds_39 rfl (lv_at hl 2 rfl) ?_
          refine lv_bipush (v := nI 32) hx hb d_Mo_seconds_40 (by decide) ?_
          refine lv_idiv hx hb d_Mo_seconds_42 (by decide) ?_
          refine mk_ti (y := nI (d / 32)) (pk_div (by omega) (by decide) (by decide)) ?_
          refine lv_bipush (v := nI 16) hx hb d_Mo_seconds_43 (by decide) ?_
          refine lv_irem hx hb d_Mo_seconds_45 (by decide) ?_
          refine mk_ti (y := nI ((d / 32) % 16)) (pk_rem (by omega) (by decide) (by decide)) ?_
          refine lv_istore (lv' := [(4, .int (nI ((d / 32) % 16))), (3, .int (nI (1980 + d / 512))), (0, .ref m0), (1, .int (nI d)), (2, .int (nI t))]) hx hb d_Mo_seconds_46 hl (by decide) rfl (fun ls hl => ?_)
          refine lv_iload_n hx hb d_Mo_seconds_48 rfl (lv_at hl 3 rfl) ?_
          refine lv_bipush (v := nI 32) hx hb d_Mo_seconds_49 (by decide) ?_
          refine lv_irem hx hb d_Mo_seconds_51 (by decide) ?_
          refine mk_ti (y := nI (d % 32)) (pk_rem (by omega) (by decide) (by decide)) ?_
          refine lv_istore (lv' := [(5, .int (nI (d % 32))), (4, .int (nI ((d / 32) % 16))), (3, .int (nI (1980 + d / 512))), (0, .ref m0), (1, .int (nI d)), (2, .int (nI t))]) hx hb d_Mo_seconds_52 hl (by decide) rfl (fun ls hl => ?_)
          refine lv_iload_n hx hb d_Mo_seconds_54 rfl (lv_at hl 5 rfl) ?_
          refine lv_sipush (v := nI 2048) hx hb d_Mo_seconds_55 (by decide) ?_
          refine lv_idiv hx hb d_Mo_seconds_58 (by decide) ?_
          refine mk_ti (y := nI (t / 2048)) (pk_div (by omega) (by decide) (by decide)) ?_
          refine lv_istore (lv' := [(6, .int (nI (t / 2048))), (5, .int (nI (d % 32))), (4, .int (nI ((d / 32) % 16))), (3, .int (nI (1980 + d / 512))), (0, .ref m0), (1, .int (nI d)), (2, .int (nI t))]) hx hb d_Mo_seconds_59 hl (by decide) rfl (fun ls hl => ?_)
          refine lv_iload_n hx hb d_Mo_seconds_61 rfl (lv_at hl 6 rfl) ?_
          refine lv_bipush (v := nI 32) hx hb d_Mo_seconds_62 (by decide) ?_
          refine lv_idiv hx hb d_Mo_seconds_64 (by decide) ?_
          refine mk_ti (y := nI (t / 32)) (pk_div (by omega) (by decide) (by decide)) ?_
          refine lv_bipush (v := nI 64) hx hb d_Mo_seconds_65 (by decide) ?_
          refine lv_irem hx hb d_Mo_seconds_67 (by decide) ?_
          refine mk_ti (y := nI ((t / 32) % 64)) (pk_rem (by omega) (by decide) (by decide)) ?_
          refine lv_istore (lv' := [(7, .int (nI ((t / 32) % 64))), (6, .int (nI (t / 2048))), (5, .int (nI (d % 32))), (4, .int (nI ((d / 32) % 16))), (3, .int (nI (1980 + d / 512))), (0, .ref m0), (1, .int (nI d)), (2, .int (nI t))]) hx hb d_Mo_seconds_68 hl (by decide) rfl (fun ls hl => ?_)
          refine lv_iload hx hb d_Mo_seconds_70 (lv_at hl 3 rfl) ?_
          refine lv_iconst (v := nI 1) hx hb d_Mo_seconds_72 (by decide) ?_
          refine lv_icmp_lt (tgt := 123) hx hb d_Mo_seconds_73 (by decide) (fun c_5 => ?_) (fun c_5 => ?_)
          · skip
            rw [nI_ltI (by omega) (by omega)] at c_5
            refine lv_ldc2 (v := (-1)) hx hb hown (hts _ (List.mem_cons_of_mem _ k_660)) d_Mo_seconds_123 ?_
            exact hret _ _ _ _ d_Mo_seconds_126 hP hD hS
          · skip
            rw [nI_ltI (by omega) (by omega)] at c_5
            refine lv_iload hx hb d_Mo_seconds_76 (lv_at hl 3 rfl) ?_
            refine lv_bipush (v := nI 12) hx hb d_Mo_seconds_78 (by decide) ?_
            refine lv_icmp_gt (tgt := 123) hx hb d_Mo_seconds_80 (by decide) (fun c_6 => ?_) (fun c_6 => ?_)
            · skip
              rw [nI_ltI (by omega) (by omega)] at c_6
              refine lv_ldc2 (v := (-1)) hx hb hown (hts _ (List.mem_cons_of_mem _ k_660)) d_Mo_seconds_123 ?_
              exact hret _ _ _ _ d_Mo_seconds_126 hP hD hS
            · skip
              rw [nI_ltI (by omega) (by omega)] at c_6
              refine lv_iload hx hb d_Mo_seconds_83 (lv_at hl 2 rfl) ?_
              refine lv_iconst (v := nI 1) hx hb d_Mo_seconds_85 (by decide) ?_
              refine lv_icmp_lt (tgt := 123) hx hb d_Mo_seconds_86 (by decide) (fun c_7 => ?_) (fun c_7 => ?_)
              · skip
                rw [nI_ltI (by omega) (by omega)] at c_7
                refine lv_ldc2 (v := (-1)) hx hb hown (hts _ (List.mem_cons_of_mem _ k_660)) d_Mo_seconds_123 ?_
                exact hret _ _ _ _ d_Mo_seconds_126 hP hD hS
              · skip
                rw [nI_ltI (by omega) (by omega)] at c_7
                refine lv_iload hx hb d_Mo_seconds_89 (lv_at hl 2 rfl) ?_
                refine lv_iload hx hb d_Mo_seconds_91 (lv_at hl 3 rfl) ?_
                refine lv_iload_n hx hb d_Mo_seconds_93 rfl (lv_at hl 4 rfl) ?_
                refine mk_r1 (W.runS (As := [.int (nI ((d / 32) % 16)), .int (nI (1980 + d / 512))]) (rest := [.int (nI (d % 32))]) S (c_Mo_len l dC dI cI ((d / 32) % 16) (1980 + d / 512) (by first | assumption | omega) (by first | assumption | omega)) (gS 2 hts k_661 k_662 k_29 k_663 (by decide +kernel) ⟨Nat.le_of_ble_eq_true rfl, Nat.le_of_ble_eq_true rfl⟩) (mk_sR hP hK hT hS [] rfl) rfl rfl hl.1 rfl (lv_room (Nat.le_of_ble_eq_true rfl)) d_Mo_seconds_94 ⟨Nat.zero_le _, Nat.zero_le _⟩) ?_
                have b_8 := mlN2_le (1980 + d / 512) ((d / 32) % 16)
                refine lv_icmp_gt (tgt := 123) hx hb d_Mo_seconds_97 (by decide) (fun c_9 => ?_) (fun c_9 => ?_)
                · skip
                  rw [nI_ltI (by omega) (by omega)] at c_9
                  refine lv_ldc2 (v := (-1)) hx hb hown (hts _ (List.mem_cons_of_mem _ k_660)) d_Mo_seconds_123 ?_
                  exact hret _ _ _ _ d_Mo_seconds_126 hP hD hS
                · skip
                  rw [nI_ltI (by omega) (by omega)] at c_9
                  refine lv_iload hx hb d_Mo_seconds_100 (lv_at hl 1 rfl) ?_
                  refine lv_bipush (v := nI 23) hx hb d_Mo_seconds_102 (by decide) ?_
                  refine lv_icmp_gt (tgt := 123) hx hb d_Mo_seconds_104 (by decide) (fun c_10 => ?_) (fun c_10 => ?_)
                  · skip
                    rw [nI_ltI (by omega) (by omega)] at c_10
                    refine lv_ldc2 (v := (-1)) hx hb hown (hts _ (List.mem_cons_of_mem _ k_660)) d_Mo_seconds_123 ?_
                    exact hret _ _ _ _ d_Mo_seconds_126 hP hD hS
                  · skip
                    rw [nI_ltI (by omega) (by omega)] at c_10
                    refine lv_iload hx hb d_Mo_seconds_107 (lv_at hl 0 rfl) ?_
                    refine lv_bipush (v := nI 59) hx hb d_Mo_seconds_109 (by decide) ?_
                    refine lv_icmp_gt (tgt := 123) hx hb d_Mo_seconds_111 (by decide) (fun c_11 => ?_) (fun c_11 => ?_)
                    · skip
                      rw [nI_ltI (by omega) (by omega)] at c_11
                      refine lv_ldc2 (v := (-1)) hx hb hown (hts _ (List.mem_cons_of_mem _ k_660)) d_Mo_seconds_123 ?_
                      exact hret _ _ _ _ d_Mo_seconds_126 hP hD hS
                    · skip
                      rw [nI_ltI (by omega) (by omega)] at c_11
                      refine lv_iload_n hx hb d_Mo_seconds_114 rfl (lv_at hl 7 rfl) ?_
                      refine lv_bipush (v := nI 32) hx hb d_Mo_seconds_115 (by decide) ?_
                      refine lv_irem hx hb d_Mo_seconds_117 (by decide) ?_
                      refine mk_ti (y := nI (t % 32)) (pk_rem (by omega) (by decide) (by decide)) ?_
                      refine lv_bipush (v := nI 29) hx hb d_Mo_seconds_118 (by decide) ?_
                      refine lv_icmp_le (tgt := 127) hx hb d_Mo_seconds_120 (by decide) (fun c_12 => ?_) (fun c_12 => ?_)
                      · skip
                        rw [nI_leI (by omega) (by omega)] at c_12
                        first | omega | contradiction
                      · skip
                        rw [nI_leI (by omega) (by omega)] at c_12
                        refine lv_ldc2 (v := (-1)) hx hb hown (hts _ (List.mem_cons_of_mem _ k_660)) d_Mo_seconds_123 ?_
                        exact hret _ _ _ _ d_Mo_seconds_126 hP hD hS
        · skip
          rw [nI_leI (by omega) (by omega)] at c_4
          first | omega | contradiction

set_option maxHeartbeats 1000000 in
set_option maxRecDepth 100000 in
theorem c_Mo_sec (l : Launch) (dC : Nat → ClassId) (dI : Nat → Nat → Nat) (cI : ClassId) (m0 : Nat) (th : Int32) (mu mz mb mr : Nat) (U Z B b : Nat → Nat) (d t : Nat) (hU : ∀ j, U j < 65536) (hZ : ∀ j, Z j ≤ 255) (hB : ∀ j, B j < 65536) (hb9 : ∀ j, b j < 65536) (hd : d < 65536) (ht : t < 65536) (hg : sgN d t = true) : mM l y_Mo_seconds w_Mo_seconds ({ frames := 2, cells := 0, slots := 0, locals := 41 } : Room) [.ref m0, .int (nI d), .int (nI t)] (dC, dI) vwCl [(cI, .int)] [(m0, .inr (5, [.int th, .ref mu, .ref mz, .ref mb, .ref mr])), (mu, .inl (cI, 510, .inl (nf U))), (mz, .inl (cI, 2, .inl (nf Z))), (mb, .inl (cI, 1024, .inl (nf B))), (mr, .inl (cI, 11, .inl (nf b)))] (some (.long (lN (ssN d t)))) [(m0, .inr (5, [.int (nI 0), .ref mu, .ref mz, .ref mb, .ref mr])), (mu, .inl (cI, 510, .inl (nf U))), (mz, .inl (cI, 2, .inl (nf Z))), (mb, .inl (cI, 1024, .inl (nf B))), (mr, .inl (cI, 11, .inl (nf b)))] := by
  simp only [sgN, decide_eq_true_eq] at hg
  refine mk_Ml (cc := b_Mo_seconds) (maxL := 11) (by decide) rfl (Nat.le_of_ble_eq_true rfl) ?_
  intro p e s m below meth c Q A ls S hP hK hT hS hl hD hA hret
  obtain ⟨hx, hb, hml, hown, hts⟩ := id S
  have hl : lv_has ls 11 [(0, .ref m0), (1, .int (nI d)), (2, .int (nI t))] := hl
  refine lv_aload_n hx hb d_Mo_seconds_0 rfl (lv_at hl 0 rfl) ?_
  refine lv_iconst (v := nI 0) hx hb d_Mo_seconds_1 (by decide) ?_
  refine va_put (D := (dC, dI)) (ci := 5) (v := .int (nI 0)) (ty := .int) (C := "LongNamesModel") (T := F_Mo) (N := 5) hx hb hts (iw_Mo _) t_Mo t_Mo_ok n_Mo hown hK hP hD hS 0 rfl rfl 0 (by decide) (hts _ (List.mem_cons_of_mem _ k_522)) (fun _ h9 => h9) rfl (by decide +kernel) rfl rfl (Nat.le_of_ble_eq_true rfl) d_Mo_seconds_2 (fun H locs hP hD hS => ?_)
  have hP : va_P (dC, dI) vwCl [(m0, .inr (5, [.int (nI 0), .ref mu, .ref mz, .ref mb, .ref mr])), (mu, .inl (cI, 510, .inl (nf U))), (mz, .inl (cI, 2, .inl (nf Z))), (mb, .inl (cI, 1024, .inl (nf B))), (mr, .inl (cI, 11, .inl (nf b)))] H := hP
  have hD : va_D A [(m0, .inr (5, [.int (nI 0), .ref mu, .ref mz, .ref mb, .ref mr])), (mu, .inl (cI, 510, .inl (nf U))), (mz, .inl (cI, 2, .inl (nf Z))), (mb, .inl (cI, 1024, .inl (nf B))), (mr, .inl (cI, 11, .inl (nf b)))] := hD
  refine lv_iload_n hx hb d_Mo_seconds_5 rfl (lv_at hl 1 rfl) ?_
  refine lv_if_lt (tgt := 25) hx hb d_Mo_seconds_6 (by decide) (fun c_1 => ?_) (fun c_1 => ?_)
  · skip
    rw [mk_clt (by omega)] at c_1
    first | omega | contradiction
  · skip
    rw [mk_clt (by omega)] at c_1
    refine lv_iload_n hx hb d_Mo_seconds_9 rfl (lv_at hl 1 rfl) ?_
    refine lv_ldc (v := nI 65535) hx hb hown (hts _ (List.mem_cons_of_mem _ k_549)) d_Mo_seconds_10 ?_
    refine lv_icmp_gt (tgt := 25) hx hb d_Mo_seconds_12 (by decide) (fun c_2 => ?_) (fun c_2 => ?_)
    · skip
      rw [nI_ltI (by omega) (by omega)] at c_2
      first | omega | contradiction
    · skip
      rw [nI_ltI (by omega) (by omega)] at c_2
      refine lv_iload_n hx hb d_Mo_seconds_15 rfl (lv_at hl 2 rfl) ?_
      refine lv_if_lt (tgt := 25) hx hb d_Mo_seconds_16 (by decide) (fun c_3 => ?_) (fun c_3 => ?_)
      · skip
        rw [mk_clt (by omega)] at c_3
        first | omega | contradiction
      · skip
        rw [mk_clt (by omega)] at c_3
        refine lv_iload_n hx hb d_Mo_seconds_19 rfl (lv_at hl 2 rfl) ?_
        refine lv_ldc (v := nI 65535) hx hb hown (hts _ (List.mem_cons_of_mem _ k_549)) d_Mo_seconds_20 ?_
        refine lv_icmp_le (tgt := 29) hx hb d_Mo_seconds_22 (by decide) (fun c_4 => ?_) (fun c_4 => ?_)
        · skip
          rw [nI_leI (by omega) (by omega)] at c_4
          refine lv_sipush (v := nI 1980) hx hb d_Mo_seconds_29 (by decide) ?_
          refine lv_iload_n hx hb d_Mo_seconds_32 rfl (lv_at hl 1 rfl) ?_
          refine lv_sipush (v := nI 512) hx hb d_Mo_seconds_33 (by decide) ?_
          refine lv_idiv hx hb d_Mo_seconds_36 (by decide) ?_
          refine mk_ti (y := nI (d / 512)) (pk_div (by omega) (by decide) (by decide)) ?_
          refine lv_iadd hx hb d_Mo_seconds_37 ?_
          refine mk_ti (y := nI (1980 + d / 512)) (nI_add 1980 (d / 512)) ?_
          refine lv_istore_n (lv' := [(3, .int (nI (1980 + d / 512))), (0, .ref m0), (1, .int (nI d)), (2, .int (nI t))]) hx hb d_Mo_seconds_38 rfl hl (by decide) rfl (fun ls hl => ?_)
          refine lv_iload_n hx hb d_Mo_seconds_39 rfl (lv_at hl 2 rfl) ?_
          refine lv_bipush (v := nI 32) hx hb d_Mo_seconds_40 (by decide) ?_
          refine lv_idiv hx hb d_Mo_seconds_42 (by decide) ?_
          refine mk_ti (y := nI (d / 32)) (pk_div (by omega) (by decide) (by decide)) ?_
          refine lv_bipush (v := nI 16) hx hb d_Mo_seconds_43 (by decide) ?_
          refine lv_irem hx hb d_Mo_seconds_45 (by decide) ?_
          refine mk_ti (y := nI ((d / 32) % 16)) (pk_rem (by omega) (by decide) (by decide)) ?_
          refine lv_istore (lv' := [(4, .int (nI ((d / 32) % 16))), (3, .int (nI (1980 + d / 512))), (0, .ref m0), (1, .int (nI d)), (2, .int (nI t))]) hx hb d_Mo_seconds_46 hl (by decide) rfl (fun ls hl => ?_)
          refine lv_iload_n hx hb d_Mo_seconds_48 rfl (lv_at hl 3 rfl) ?_
          refine lv_bipush (v := nI 32) hx hb d_Mo_seconds_49 (by decide) ?_
          refine lv_irem hx hb d_Mo_seconds_51 (by decide) ?_
          refine mk_ti (y := nI (d % 32)) (pk_rem (by omega) (by decide) (by decide)) ?_
          refine lv_istore (lv' := [(5, .int (nI (d % 32))), (4, .int (nI ((d / 32) % 16))), (3, .int (nI (1980 + d / 512))), (0, .ref m0), (1, .int (nI d)), (2, .int (nI t))]) hx hb d_Mo_seconds_52 hl (by decide) rfl (fun ls hl => ?_)
          refine lv_iload_n hx hb d_Mo_seconds_54 rfl (lv_at hl 5 rfl) ?_
          refine lv_sipush (v := nI 2048) hx hb d_Mo_seconds_55 (by decide) ?_
          refine lv_idiv hx hb d_Mo_seconds_58 (by decide) ?_
          refine mk_ti (y := nI (t / 2048)) (pk_div (by omega) (by decide) (by decide)) ?_
          refine lv_istore (lv' := [(6, .int (nI (t / 2048))), (5, .int (nI (d % 32))), (4, .int (nI ((d / 32) % 16))), (3, .int (nI (1980 + d / 512))), (0, .ref m0), (1, .int (nI d)), (2, .int (nI t))]) hx hb d_Mo_seconds_59 hl (by decide) rfl (fun ls hl => ?_)
          refine lv_iload_n hx hb d_Mo_seconds_61 rfl (lv_at hl 6 rfl) ?_
          refine lv_bipush (v := nI 32) hx hb d_Mo_seconds_62 (by decide) ?_
          refine lv_idiv hx hb d_Mo_seconds_64 (by decide) ?_
          refine mk_ti (y := nI (t / 32)) (pk_div (by omega) (by decide) (by decide)) ?_
          refine lv_bipush (v := nI 64) hx hb d_Mo_seconds_65 (by decide) ?_
          refine lv_irem hx hb d_Mo_seconds_67 (by decide) ?_
          refine mk_ti (y := nI ((t / 32) % 64)) (pk_rem (by omega) (by decide) (by decide)) ?_
          refine lv_istore (lv' := [(7, .int (nI ((t / 32) % 64))), (6, .int (nI (t / 2048))), (5, .int (nI (d % 32))), (4, .int (nI ((d / 32) % 16))), (3, .int (nI (1980 + d / 512))), (0, .ref m0), (1, .int (nI d)), (2, .int (nI t))]) hx hb d_Mo_seconds_68 hl (by decide) rfl (fun ls hl => ?_)
          refine lv_iload hx hb d_Mo_seconds_70 (lv_at hl 3 rfl) ?_
          refine lv_iconst (v := nI 1) hx hb d_Mo_seconds_72 (by decide) ?_
          refine lv_icmp_lt (tgt := 123) hx hb d_Mo_seconds_73 (by decide) (fun c_5 => ?_) (fun c_5 => ?_)
          · skip
            rw [nI_ltI (by omega) (by omega)] at c_5
            first | omega | contradiction
          · skip
            rw [nI_ltI (by omega) (by omega)] at c_5
            refine lv_iload hx hb d_Mo_seconds_76 (lv_at hl 3 rfl) ?_
            refine lv_bipush (v := nI 12) hx hb d_Mo_seconds_78 (by decide) ?_
            refine lv_icmp_gt (tgt := 123) hx hb d_Mo_seconds_80 (by decide) (fun c_6 => ?_) (fun c_6 => ?_)
            · skip
              rw [nI_ltI (by omega) (by omega)] at c_6
              first | omega | contradiction
            · skip
              rw [nI_ltI (by omega) (by omega)] at c_6
              refine lv_iload hx hb d_Mo_seconds_83 (lv_at hl 2 rfl) ?_
              refine lv_iconst (v := nI 1) hx hb d_Mo_seconds_85 (by decide) ?_
              refine lv_icmp_lt (tgt := 123) hx hb d_Mo_seconds_86 (by decide) (fun c_7 => ?_) (fun c_7 => ?_)
              · skip
                rw [nI_ltI (by omega) (by omega)] at c_7
                first | omega | contradiction
              · skip
                rw [nI_ltI (by omega) (by omega)] at c_7
                refine lv_iload hx hb d_Mo_seconds_89 (lv_at hl 2 rfl) ?_
                refine lv_iload hx hb d_Mo_seconds_91 (lv_at hl 3 rfl) ?_
                refine lv_iload_n hx hb d_Mo_seconds_93 rfl (lv_at hl 4 rfl) ?_
                refine mk_r1 (W.runS (As := [.int (nI ((d / 32) % 16)), .int (nI (1980 + d / 512))]) (rest := [.int (nI (d % 32))]) S (c_Mo_len l dC dI cI ((d / 32) % 16) (1980 + d / 512) (by first | assumption | omega) (by first | assumption | omega)) (gS 2 hts k_661 k_662 k_29 k_663 (by decide +kernel) ⟨Nat.le_of_ble_eq_true rfl, Nat.le_of_ble_eq_true rfl⟩) (mk_sR hP hK hT hS [] rfl) rfl rfl hl.1 rfl (lv_room (Nat.le_of_ble_eq_true rfl)) d_Mo_seconds_94 ⟨Nat.zero_le _, Nat.zero_le _⟩) ?_
                have b_8 := mlN2_le (1980 + d / 512) ((d / 32) % 16)
                refine lv_icmp_gt (tgt := 123) hx hb d_Mo_seconds_97 (by decide) (fun c_9 => ?_) (fun c_9 => ?_)
                · skip
                  rw [nI_ltI (by omega) (by omega)] at c_9
                  first | omega | contradiction
                · skip
                  rw [nI_ltI (by omega) (by omega)] at c_9
                  refine lv_iload hx hb d_Mo_seconds_100 (lv_at hl 1 rfl) ?_
                  refine lv_bipush (v := nI 23) hx hb d_Mo_seconds_102 (by decide) ?_
                  refine lv_icmp_gt (tgt := 123) hx hb d_Mo_seconds_104 (by decide) (fun c_10 => ?_) (fun c_10 => ?_)
                  · skip
                    rw [nI_ltI (by omega) (by omega)] at c_10
                    first | omega | contradiction
                  · skip
                    rw [nI_ltI (by omega) (by omega)] at c_10
                    refine lv_iload hx hb d_Mo_seconds_107 (lv_at hl 0 rfl) ?_
                    refine lv_bipush (v := nI 59) hx hb d_Mo_seconds_109 (by decide) ?_
                    refine lv_icmp_gt (tgt := 123) hx hb d_Mo_seconds_111 (by decide) (fun c_11 => ?_) (fun c_11 => ?_)
                    · skip
                      rw [nI_ltI (by omega) (by omega)] at c_11
                      first | omega | contradiction
                    · skip
                      rw [nI_ltI (by omega) (by omega)] at c_11
                      refine lv_iload_n hx hb d_Mo_seconds_114 rfl (lv_at hl 7 rfl) ?_
                      refine lv_bipush (v := nI 32) hx hb d_Mo_seconds_115 (by decide) ?_
                      refine lv_irem hx hb d_Mo_seconds_117 (by decide) ?_
                      refine mk_ti (y := nI (t % 32)) (pk_rem (by omega) (by decide) (by decide)) ?_
                      refine lv_bipush (v := nI 29) hx hb d_Mo_seconds_118 (by decide) ?_
                      refine lv_icmp_le (tgt := 127) hx hb d_Mo_seconds_120 (by decide) (fun c_12 => ?_) (fun c_12 => ?_)
                      · skip
                        rw [nI_leI (by omega) (by omega)] at c_12
                        refine lv_iload hx hb d_Mo_seconds_127 (lv_at hl 2 rfl) ?_
                        refine lv_iconst (v := nI 1) hx hb d_Mo_seconds_129 (by decide) ?_
                        refine lv_isub hx hb d_Mo_seconds_130 ?_
                        refine mk_ti (y := nI (d % 32 - 1)) (pk_sub (by omega)) ?_
                        refine lv_i2l (v := lN (d % 32 - 1)) hx hb d_Mo_seconds_131 (nI_l (by omega)) ?_
                        refine lv_lstore (lv' := [(8, .long (lN (d % 32 - 1))), (7, .int (nI ((t / 32) % 64))), (6, .int (nI (t / 2048))), (5, .int (nI (d % 32))), (4, .int (nI ((d / 32) % 16))), (3, .int (nI (1980 + d / 512))), (0, .ref m0), (1, .int (nI d)), (2, .int (nI t))]) hx hb d_Mo_seconds_132 hl (by decide) rfl (fun ls hl => ?_)
                        refine lv_sipush (v := nI 1970) hx hb d_Mo_seconds_134 (by decide) ?_
                        refine lv_istore (lv' := [(10, .int (nI 1970)), (8, .long (lN (d % 32 - 1))), (7, .int (nI ((t / 32) % 64))), (6, .int (nI (t / 2048))), (5, .int (nI (d % 32))), (4, .int (nI ((d / 32) % 16))), (3, .int (nI (1980 + d / 512))), (0, .ref m0), (1, .int (nI d)), (2, .int (nI t))]) hx hb d_Mo_seconds_137 hl (by decide) rfl (fun ls hl => ?_)
                        have lp139 : ∀ (k : Nat) (i : Nat) (H : Heap) (locs : List Loc) (ls : Array Slot), (1970 + i + k = (1980 + d / 512)) → va_P (dC, dI) vwCl [(m0, .inr (5, [.int (nI 0), .ref mu, .ref mz, .ref mb, .ref mr])), (mu, .inl (cI, 510, .inl (nf U))), (mz, .inl (cI, 2, .inl (nf Z))), (mb, .inl (cI, 1024, .inl (nf B))), (mr, .inl (cI, 11, .inl (nf b)))] H → va_D A [(m0, .inr (5, [.int (nI 0), .ref mu, .ref mz, .ref mb, .ref mr])), (mu, .inl (cI, 510, .inl (nf U))), (mz, .inl (cI, 2, .inl (nf Z))), (mb, .inl (cI, 1024, .inl (nf B))), (mr, .inl (cI, 11, .inl (nf b)))] → va_S A s.heap H locs → lv_has ls 11 [(0, .ref m0), (2, .int (nI t)), (3, .int (nI (1980 + d / 512))), (4, .int (nI (d / 32 % 16))), (6, .int (nI (t / 2048))), (7, .int (nI (t / 32 % 64))), (8, .long (lN (d % 32 - 1 + ydN i))), (10, .int (nI (1970 + i)))] → W p l e ({ frames := 2, cells := 0, slots := 0, locals := 41 } : Room) s m ([.ref m0, .int (nI d), .int (nI t)] : List Value).toArray below meth c H locs 0 0 Q (F0 m 139 ls []) := by
                          intro k
                          induction k with
                          | zero =>
                            intro i H locs ls hi hP hD hS hl
                            refine lv_iload hx hb d_Mo_seconds_139 (lv_at hl 7 rfl) ?_
                            refine lv_iload_n hx hb d_Mo_seconds_141 rfl (lv_at hl 2 rfl) ?_
                            refine lv_icmp_ge (tgt := 174) hx hb d_Mo_seconds_142 (by decide) (fun c_13 => ?_) (fun c_13 => ?_)
                            · skip
                              rw [nI_leI (by omega) (by omega)] at c_13
                              refine lv_iconst (v := nI 1) hx hb d_Mo_seconds_174 (by decide) ?_
                              refine lv_istore (lv' := [(10, .int (nI 1)), (0, .ref m0), (2, .int (nI t)), (3, .int (nI (1980 + d / 512))), (4, .int (nI (d / 32 % 16))), (6, .int (nI (t / 2048))), (7, .int (nI (t / 32 % 64))), (8, .long (lN (d % 32 - 1 + ydN i)))]) hx hb d_Mo_seconds_175 hl (by decide) rfl (fun ls hl => ?_)
                              have lp177 : ∀ (k2 : Nat) (j : Nat) (H : Heap) (locs : List Loc) (ls : Array Slot), (j + 1 + k2 = d / 32 % 16) → va_P (dC, dI) vwCl [(m0, .inr (5, [.int (nI 0), .ref mu, .ref mz, .ref mb, .ref mr])), (mu, .inl (cI, 510, .inl (nf U))), (mz, .inl (cI, 2, .inl (nf Z))), (mb, .inl (cI, 1024, .inl (nf B))), (mr, .inl (cI, 11, .inl (nf b)))] H → va_D A [(m0, .inr (5, [.int (nI 0), .ref mu, .ref mz, .ref mb, .ref mr])), (mu, .inl (cI, 510, .inl (nf U))), (mz, .inl (cI, 2, .inl (nf Z))), (mb, .inl (cI, 1024, .inl (nf B))), (mr, .inl (cI, 11, .inl (nf b)))] → va_S A s.heap H locs → lv_has ls 11 [(0, .ref m0), (2, .int (nI t)), (3, .int (nI (1980 + d / 512))), (4, .int (nI (d / 32 % 16))), (6, .int (nI (t / 2048))), (7, .int (nI (t / 32 % 64))), (8, .long (lN (d % 32 - 1 + ydN ((1980 + d / 512) - 1970) + md2 (1980 + d / 512) j))), (10, .int (nI (j + 1)))] → W p l e ({ frames := 2, cells := 0, slots := 0, locals := 41 } : Room) s m ([.ref m0, .int (nI d), .int (nI t)] : List Value).toArray below meth c H locs 0 0 Q (F0 m 177 ls []) := by
                                intro k2
                                induction k2 with
                                | zero =>
                                  intro j H locs ls hj hP hD hS hl
                                  refine lv_iload hx hb d_Mo_seconds_177 (lv_at hl 7 rfl) ?_
                                  refine lv_iload hx hb d_Mo_seconds_179 (lv_at hl 3 rfl) ?_
                                  refine lv_icmp_ge (tgt := 202) hx hb d_Mo_seconds_181 (by decide) (fun c_14 => ?_) (fun c_14 => ?_)
                                  · skip
                                    rw [nI_leI (by omega) (by omega)] at c_14
                                    refine lv_lload hx hb d_Mo_seconds_202 (lv_at hl 6 rfl) ?_
                                    refine lv_ldc2 (v := lN 24) hx hb hown (hts _ (List.mem_cons_of_mem _ k_667)) d_Mo_seconds_204 ?_
                                    refine lv_lmul hx hb d_Mo_seconds_207 ?_
                                    refine mk_tl (y := lN ((d % 32 - 1 + ydN ((1980 + d / 512) - 1970) + md2 (1980 + d / 512) j) * 24)) (lN_mul (d % 32 - 1 + ydN ((1980 + d / 512) - 1970) + md2 (1980 + d / 512) j) 24) ?_
                                    refine lv_iload hx hb d_Mo_seconds_208 (lv_at hl 4 rfl) ?_
                                    refine lv_i2l (v := lN (t / 2048)) hx hb d_Mo_seconds_210 (nI_l (by omega)) ?_
                                    refine lv_ladd hx hb d_Mo_seconds_211 ?_
                                    refine mk_tl (y := lN ((d % 32 - 1 + ydN ((1980 + d / 512) - 1970) + md2 (1980 + d / 512) j) * 24 + t / 2048)) (lN_add ((d % 32 - 1 + ydN ((1980 + d / 512) - 1970) + md2 (1980 + d / 512) j) * 24) (t / 2048)) ?_
                                    refine lv_ldc2 (v := lN 60) hx hb hown (hts _ (List.mem_cons_of_mem _ k_668)) d_Mo_seconds_212 ?_
                                    refine lv_lmul hx hb d_Mo_seconds_215 ?_
                                    refine mk_tl (y := lN (((d % 32 - 1 + ydN ((1980 + d / 512) - 1970) + md2 (1980 + d / 512) j) * 24 + t / 2048) * 60)) (lN_mul ((d % 32 - 1 + ydN ((1980 + d / 512) - 1970) + md2 (1980 + d / 512) j) * 24 + t / 2048) 60) ?_
                                    refine lv_iload hx hb d_Mo_seconds_216 (lv_at hl 5 rfl) ?_
                                    refine lv_i2l (v := lN (t / 32 % 64)) hx hb d_Mo_seconds_218 (nI_l (by omega)) ?_
                                    refine lv_ladd hx hb d_Mo_seconds_219 ?_
                                    refine mk_tl (y := lN (((d % 32 - 1 + ydN ((1980 + d / 512) - 1970) + md2 (1980 + d / 512) j) * 24 + t / 2048) * 60 + t / 32 % 64)) (lN_add (((d % 32 - 1 + ydN ((1980 + d / 512) - 1970) + md2 (1980 + d / 512) j) * 24 + t / 2048) * 60) (t / 32 % 64)) ?_
                                    refine lv_ldc2 (v := lN 60) hx hb hown (hts _ (List.mem_cons_of_mem _ k_668)) d_Mo_seconds_220 ?_
                                    refine lv_lmul hx hb d_Mo_seconds_223 ?_
                                    refine mk_tl (y := lN ((((d % 32 - 1 + ydN ((1980 + d / 512) - 1970) + md2 (1980 + d / 512) j) * 24 + t / 2048) * 60 + t / 32 % 64) * 60)) (lN_mul (((d % 32 - 1 + ydN ((1980 + d / 512) - 1970) + md2 (1980 + d / 512) j) * 24 + t / 2048) * 60 + t / 32 % 64) 60) ?_
                                    refine lv_iconst (v := nI 2) hx hb d_Mo_seconds_224 (by decide) ?_
                                    refine lv_iload_n hx hb d_Mo_seconds_225 rfl (lv_at hl 1 rfl) ?_
                                    refine lv_bipush (v := nI 32) hx hb d_Mo_seconds_226 (by decide) ?_
                                    refine lv_irem hx hb d_Mo_seconds_228 (by decide) ?_
                                    refine mk_ti (y := nI (t % 32)) (pk_rem (by omega) (by decide) (by decide)) ?_
                                    refine lv_imul hx hb d_Mo_seconds_229 ?_
                                    refine mk_ti (y := nI (2 * (t % 32))) (pk_mul 2 (t % 32)) ?_
                                    refine lv_i2l (v := lN (2 * (t % 32))) hx hb d_Mo_seconds_230 (nI_l (by omega)) ?_
                                    refine lv_ladd hx hb d_Mo_seconds_231 ?_
                                    refine mk_tl (y := lN ((((d % 32 - 1 + ydN ((1980 + d / 512) - 1970) + md2 (1980 + d / 512) j) * 24 + t / 2048) * 60 + t / 32 % 64) * 60 + 2 * (t % 32))) (lN_add ((((d % 32 - 1 + ydN ((1980 + d / 512) - 1970) + md2 (1980 + d / 512) j) * 24 + t / 2048) * 60 + t / 32 % 64) * 60) (2 * (t % 32))) ?_
                                    exact mk_tl (by rw [ssN, show j = d / 32 % 16 - 1 by omega]) (hret _ _ _ _ d_Mo_seconds_232 hP hD hS)
                                  · skip
                                    rw [nI_leI (by omega) (by omega)] at c_14
                                    first | omega | contradiction
                                | succ k2 ih177 =>
                                  intro j H locs ls hj hP hD hS hl
                                  refine lv_iload hx hb d_Mo_seconds_177 (lv_at hl 7 rfl) ?_
                                  refine lv_iload hx hb d_Mo_seconds_179 (lv_at hl 3 rfl) ?_
                                  refine lv_icmp_ge (tgt := 202) hx hb d_Mo_seconds_181 (by decide) (fun c_15 => ?_) (fun c_15 => ?_)
                                  · skip
                                    rw [nI_leI (by omega) (by omega)] at c_15
                                    first | omega | contradiction
                                  · skip
                                    rw [nI_leI (by omega) (by omega)] at c_15
                                    refine lv_lload hx hb d_Mo_seconds_184 (lv_at hl 6 rfl) ?_
                                    refine lv_iload hx hb d_Mo_seconds_186 (lv_at hl 7 rfl) ?_
                                    refine lv_iload_n hx hb d_Mo_seconds_188 rfl (lv_at hl 2 rfl) ?_
                                    refine mk_r1 (W.runS (As := [.int (nI (j + 1)), .int (nI (1980 + d / 512))]) (rest := [.long (lN (d % 32 - 1 + ydN ((1980 + d / 512) - 1970) + md2 (1980 + d / 512) j))]) S (c_Mo_len l dC dI cI (j + 1) (1980 + d / 512) (by first | assumption | omega) (by first | assumption | omega)) (gS 2 hts k_661 k_662 k_29 k_663 (by decide +kernel) ⟨Nat.le_of_ble_eq_true rfl, Nat.le_of_ble_eq_true rfl⟩) (mk_sR hP hK hT hS [] rfl) rfl rfl hl.1 rfl (lv_room (Nat.le_of_ble_eq_true rfl)) d_Mo_seconds_189 ⟨Nat.zero_le _, Nat.zero_le _⟩) ?_
                                    have b_16 := mlN2_le (1980 + d / 512) (j + 1)
                                    refine lv_i2l (v := lN (mlN2 (1980 + d / 512) (j + 1))) hx hb d_Mo_seconds_192 (nI_l (by omega)) ?_
                                    refine lv_ladd hx hb d_Mo_seconds_193 ?_
                                    refine mk_tl (y := lN (d % 32 - 1 + ydN ((1980 + d / 512) - 1970) + md2 (1980 + d / 512) j + mlN2 (1980 + d / 512) (j + 1))) (lN_add (d % 32 - 1 + ydN ((1980 + d / 512) - 1970) + md2 (1980 + d / 512) j) (mlN2 (1980 + d / 512) (j + 1))) ?_
                                    refine lv_lstore (lv' := [(8, .long (lN (d % 32 - 1 + ydN ((1980 + d / 512) - 1970) + md2 (1980 + d / 512) j + mlN2 (1980 + d / 512) (j + 1)))), (0, .ref m0), (2, .int (nI t)), (3, .int (nI (1980 + d / 512))), (4, .int (nI (d / 32 % 16))), (6, .int (nI (t / 2048))), (7, .int (nI (t / 32 % 64))), (10, .int (nI (j + 1)))]) hx hb d_Mo_seconds_194 hl (by decide) rfl (fun ls hl => ?_)
                                    refine lv_iinc (v := nI (j + 1 + 1)) (lv' := [(10, .int (nI (j + 1 + 1))), (8, .long (lN (d % 32 - 1 + ydN ((1980 + d / 512) - 1970) + md2 (1980 + d / 512) j + mlN2 (1980 + d / 512) (j + 1)))), (0, .ref m0), (2, .int (nI t)), (3, .int (nI (1980 + d / 512))), (4, .int (nI (d / 32 % 16))), (6, .int (nI (t / 2048))), (7, .int (nI (t / 32 % 64)))]) hx hb d_Mo_seconds_196 hl (k := 7) rfl (mk_i1 (j + 1)) (by decide) rfl (fun ls hl => ?_)
                                    refine lv_goto (tgt := 177) hx hb d_Mo_seconds_199 (by decide) ?_
                                    have hl : lv_has ls 11 [(0, .ref m0), (2, .int (nI t)), (3, .int (nI (1980 + d / 512))), (4, .int (nI (d / 32 % 16))), (6, .int (nI (t / 2048))), (7, .int (nI (t / 32 % 64))), (8, .long (lN (d % 32 - 1 + ydN ((1980 + d / 512) - 1970) + md2 (1980 + d / 512) j + mlN2 (1980 + d / 512) (j + 1)))), (10, .int (nI (j + 1 + 1)))] := lv_sub hl [2, 3, 4, 5, 6, 7, 1, 0] rfl
                                    have hl9 : ([(0, .ref m0), (2, .int (nI t)), (3, .int (nI (1980 + d / 512))), (4, .int (nI (d / 32 % 16))), (6, .int (nI (t / 2048))), (7, .int (nI (t / 32 % 64))), (8, .long (lN (d % 32 - 1 + ydN ((1980 + d / 512) - 1970) + md2 (1980 + d / 512) j + mlN2 (1980 + d / 512) (j + 1)))), (10, .int (nI (j + 1 + 1)))] : List (Nat × Value)) = [(0, .ref m0), (2, .int (nI t)), (3, .int (nI (1980 + d / 512))), (4, .int (nI (d / 32 % 16))), (6, .int (nI (t / 2048))), (7, .int (nI (t / 32 % 64))), (8, .long (lN (d % 32 - 1 + ydN ((1980 + d / 512) - 1970) + md2 (1980 + d / 512) (j + 1)))), (10, .int (nI ((j + 1) + 1)))] := by rw [md2, ← Nat.add_assoc]
                                    rw [hl9] at hl
                                    exact ih177 (j + 1) _ _ _ (by omega) hP hD hS hl
                              have hl : lv_has ls 11 [(0, .ref m0), (2, .int (nI t)), (3, .int (nI (1980 + d / 512))), (4, .int (nI (d / 32 % 16))), (6, .int (nI (t / 2048))), (7, .int (nI (t / 32 % 64))), (8, .long (lN (d % 32 - 1 + ydN i))), (10, .int (nI 1))] := lv_sub hl [1, 2, 3, 4, 5, 6, 7, 0] rfl
                              have hl9 : ([(0, .ref m0), (2, .int (nI t)), (3, .int (nI (1980 + d / 512))), (4, .int (nI (d / 32 % 16))), (6, .int (nI (t / 2048))), (7, .int (nI (t / 32 % 64))), (8, .long (lN (d % 32 - 1 + ydN i))), (10, .int (nI 1))] : List (Nat × Value)) = [(0, .ref m0), (2, .int (nI t)), (3, .int (nI (1980 + d / 512))), (4, .int (nI (d / 32 % 16))), (6, .int (nI (t / 2048))), (7, .int (nI (t / 32 % 64))), (8, .long (lN (d % 32 - 1 + ydN ((1980 + d / 512) - 1970) + md2 (1980 + d / 512) 0))), (10, .int (nI (0 + 1)))] := by rw [show i = (1980 + d / 512) - 1970 by omega]; rfl
                              rw [hl9] at hl
                              exact lp177 (d / 32 % 16 - 1) 0 _ _ _ (by omega) hP hD hS hl
                            · skip
                              rw [nI_leI (by omega) (by omega)] at c_13
                              first | omega | contradiction
                          | succ k ih139 =>
                            intro i H locs ls hi hP hD hS hl
                            refine lv_iload hx hb d_Mo_seconds_139 (lv_at hl 7 rfl) ?_
                            refine lv_iload_n hx hb d_Mo_seconds_141 rfl (lv_at hl 2 rfl) ?_
                            refine lv_icmp_ge (tgt := 174) hx hb d_Mo_seconds_142 (by decide) (fun c_17 => ?_) (fun c_17 => ?_)
                            · skip
                              rw [nI_leI (by omega) (by omega)] at c_17
                              first | omega | contradiction
                            · skip
                              rw [nI_leI (by omega) (by omega)] at c_17
                              refine lv_lload hx hb d_Mo_seconds_145 (lv_at hl 6 rfl) ?_
                              refine lv_iload hx hb d_Mo_seconds_147 (lv_at hl 7 rfl) ?_
                              refine mk_r1 (W.runS (As := [.int (nI (1970 + i))]) (rest := [.long (lN (d % 32 - 1 + ydN i))]) S (c_Mo_leap l dC dI cI (1970 + i) (by first | assumption | omega)) (gS 1 hts k_664 k_665 k_29 k_666 (by decide +kernel) ⟨Nat.le_of_ble_eq_true rfl, Nat.le_of_ble_eq_true rfl⟩) (mk_sR hP hK hT hS [] rfl) rfl rfl hl.1 rfl (lv_room (Nat.le_of_ble_eq_true rfl)) d_Mo_seconds_149 ⟨Nat.zero_le _, Nat.zero_le _⟩) ?_
                              refine lv_if_eq (tgt := 161) hx hb d_Mo_seconds_152 (by decide) (fun c_18 => ?_) (fun c_18 => ?_)
                              · skip
                                have c_18 := bI_0 c_18
                                refine lv_sipush (v := nI 365) hx hb d_Mo_seconds_161 (by decide) ?_
                                refine lv_i2l (v := lN 365) hx hb d_Mo_seconds_164 (nI_l (by omega)) ?_
                                refine lv_ladd hx hb d_Mo_seconds_165 ?_
                                refine mk_tl (y := lN (d % 32 - 1 + ydN i + 365)) (lN_add (d % 32 - 1 + ydN i) 365) ?_
                                refine lv_lstore (lv' := [(8, .long (lN (d % 32 - 1 + ydN i + 365))), (0, .ref m0), (2, .int (nI t)), (3, .int (nI (1980 + d / 512))), (4, .int (nI (d / 32 % 16))), (6, .int (nI (t / 2048))), (7, .int (nI (t / 32 % 64))), (10, .int (nI (1970 + i)))]) hx hb d_Mo_seconds_166 hl (by decide) rfl (fun ls hl => ?_)
                                refine lv_iinc (v := nI (1970 + i + 1)) (lv' := [(10, .int (nI (1970 + i + 1))), (8, .long (lN (d % 32 - 1 + ydN i + 365))), (0, .ref m0), (2, .int (nI t)), (3, .int (nI (1980 + d / 512))), (4, .int (nI (d / 32 % 16))), (6, .int (nI (t / 2048))), (7, .int (nI (t / 32 % 64)))]) hx hb d_Mo_seconds_168 hl (k := 7) rfl (mk_i1 (1970 + i)) (by decide) rfl (fun ls hl => ?_)
                                refine lv_goto (tgt := 139) hx hb d_Mo_seconds_171 (by decide) ?_
                                have hl : lv_has ls 11 [(0, .ref m0), (2, .int (nI t)), (3, .int (nI (1980 + d / 512))), (4, .int (nI (d / 32 % 16))), (6, .int (nI (t / 2048))), (7, .int (nI (t / 32 % 64))), (8, .long (lN (d % 32 - 1 + ydN i + 365))), (10, .int (nI (1970 + i + 1)))] := lv_sub hl [2, 3, 4, 5, 6, 7, 1, 0] rfl
                                have hl9 : ([(0, .ref m0), (2, .int (nI t)), (3, .int (nI (1980 + d / 512))), (4, .int (nI (d / 32 % 16))), (6, .int (nI (t / 2048))), (7, .int (nI (t / 32 % 64))), (8, .long (lN (d % 32 - 1 + ydN i + 365))), (10, .int (nI (1970 + i + 1)))] : List (Nat × Value)) = [(0, .ref m0), (2, .int (nI t)), (3, .int (nI (1980 + d / 512))), (4, .int (nI (d / 32 % 16))), (6, .int (nI (t / 2048))), (7, .int (nI (t / 32 % 64))), (8, .long (lN (d % 32 - 1 + ydN (i + 1)))), (10, .int (nI (1970 + (i + 1))))] := by rw [ydN]; first | rw [if_pos (by assumption), ← Nat.add_assoc]; rfl | rw [if_neg (by simp [c_18]), ← Nat.add_assoc]; rfl
                                rw [hl9] at hl
                                exact ih139 (i + 1) _ _ _ (by omega) hP hD hS hl
                              · skip
                                have c_18 := bI_1 c_18
                                refine lv_sipush (v := nI 366) hx hb d_Mo_seconds_155 (by decide) ?_
                                refine lv_goto (tgt := 164) hx hb d_Mo_seconds_158 (by decide) ?_
                                refine lv_i2l (v := lN 366) hx hb d_Mo_seconds_164 (nI_l (by omega)) ?_
                                refine lv_ladd hx hb d_Mo_seconds_165 ?_
                                refine mk_tl (y := lN (d % 32 - 1 + ydN i + 366)) (lN_add (d % 32 - 1 + ydN i) 366) ?_
                                refine lv_lstore (lv' := [(8, .long (lN (d % 32 - 1 + ydN i + 366))), (0, .ref m0), (2, .int (nI t)), (3, .int (nI (1980 + d / 512))), (4, .int (nI (d / 32 % 16))), (6, .int (nI (t / 2048))), (7, .int (nI (t / 32 % 64))), (10, .int (nI (1970 + i)))]) hx hb d_Mo_seconds_166 hl (by decide) rfl (fun ls hl => ?_)
                                refine lv_iinc (v := nI (1970 + i + 1)) (lv' := [(10, .int (nI (1970 + i + 1))), (8, .long (lN (d % 32 - 1 + ydN i + 366))), (0, .ref m0), (2, .int (nI t)), (3, .int (nI (1980 + d / 512))), (4, .int (nI (d / 32 % 16))), (6, .int (nI (t / 2048))), (7, .int (nI (t / 32 % 64)))]) hx hb d_Mo_seconds_168 hl (k := 7) rfl (mk_i1 (1970 + i)) (by decide) rfl (fun ls hl => ?_)
                                refine lv_goto (tgt := 139) hx hb d_Mo_seconds_171 (by decide) ?_
                                have hl : lv_has ls 11 [(0, .ref m0), (2, .int (nI t)), (3, .int (nI (1980 + d / 512))), (4, .int (nI (d / 32 % 16))), (6, .int (nI (t / 2048))), (7, .int (nI (t / 32 % 64))), (8, .long (lN (d % 32 - 1 + ydN i + 366))), (10, .int (nI (1970 + i + 1)))] := lv_sub hl [2, 3, 4, 5, 6, 7, 1, 0] rfl
                                have hl9 : ([(0, .ref m0), (2, .int (nI t)), (3, .int (nI (1980 + d / 512))), (4, .int (nI (d / 32 % 16))), (6, .int (nI (t / 2048))), (7, .int (nI (t / 32 % 64))), (8, .long (lN (d % 32 - 1 + ydN i + 366))), (10, .int (nI (1970 + i + 1)))] : List (Nat × Value)) = [(0, .ref m0), (2, .int (nI t)), (3, .int (nI (1980 + d / 512))), (4, .int (nI (d / 32 % 16))), (6, .int (nI (t / 2048))), (7, .int (nI (t / 32 % 64))), (8, .long (lN (d % 32 - 1 + ydN (i + 1)))), (10, .int (nI (1970 + (i + 1))))] := by rw [ydN]; first | rw [if_pos (by assumption), ← Nat.add_assoc]; rfl | rw [if_neg (by simp [c_18]), ← Nat.add_assoc]; rfl
                                rw [hl9] at hl
                                exact ih139 (i + 1) _ _ _ (by omega) hP hD hS hl
                        have hl : lv_has ls 11 [(0, .ref m0), (2, .int (nI t)), (3, .int (nI (1980 + d / 512))), (4, .int (nI ((d / 32) % 16))), (6, .int (nI (t / 2048))), (7, .int (nI ((t / 32) % 64))), (8, .long (lN (d % 32 - 1))), (10, .int (nI 1970))] := lv_sub hl [7, 9, 6, 5, 3, 2, 1, 0] rfl
                        have hl9 : ([(0, .ref m0), (2, .int (nI t)), (3, .int (nI (1980 + d / 512))), (4, .int (nI ((d / 32) % 16))), (6, .int (nI (t / 2048))), (7, .int (nI ((t / 32) % 64))), (8, .long (lN (d % 32 - 1))), (10, .int (nI 1970))] : List (Nat × Value)) = [(0, .ref m0), (2, .int (nI t)), (3, .int (nI (1980 + d / 512))), (4, .int (nI (d / 32 % 16))), (6, .int (nI (t / 2048))), (7, .int (nI (t / 32 % 64))), (8, .long (lN (d % 32 - 1 + ydN 0))), (10, .int (nI (1970 + 0)))] := by rfl
                        rw [hl9] at hl
                        exact lp139 ((1980 + d / 512) - 1970) 0 _ _ _ (by omega) hP hD hS hl
                      · skip
                        rw [nI_leI (by omega) (by omega)] at c_12
                        first | omega | contradiction
        · skip
          rw [nI_leI (by omega) (by omega)] at c_4
          first | omega | contradiction

