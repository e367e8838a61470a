set_option maxHeartbeats 1000000 in
set_option maxRecDepth 100000 in
theorem c_Mo_thrown (l : Launch) (dC : Nat → ClassId) (dI : Nat → Nat → Nat) (cI : ClassId) (m0 : Nat) (th : Int32) (mu mz mb mr : Nat)  : mR l y_Mo_thrown w_Mo_thrown ({ frames := 0, cells := 0, slots := 0, locals := 0 } : Room) [.ref m0] (dC, dI) vwCl [(cI, .int)] [(m0, .inr (5, [.int th, .ref mu, .ref mz, .ref mb, .ref mr]))] (some (.int th)) := by
  refine mk_Ri (cc := b_Mo_thrown) (maxL := 1) (by decide) rfl (Nat.le_of_ble_eq_true rfl) rfl ?_
  intro p e s m below meth c Q A ls S hP hK hT hS hl hret
  obtain ⟨hx, hb, hml, hown, hts⟩ := id S
  have hl : lv_has ls 1 [(0, .ref m0)] := hl
  refine lv_aload_n hx hb d_Mo_thrown_0 rfl (lv_at hl 0 rfl) ?_
  refine va_get (D := (dC, dI)) (ci := 5) (v := .int th) (C := "LongNamesModel") (T := F_Mo) (N := 5) hx hb hts (iw_Mo _) hown hK hP 0 rfl rfl 0 (by decide) (hts _ (List.mem_cons_of_mem _ k_522)) (fun _ h9 => h9) rfl d_Mo_thrown_1 ?_
  exact hret _ _ d_Mo_thrown_4

set_option maxHeartbeats 1000000 in
set_option maxRecDepth 100000 in
theorem c_Mo_at (l : Launch) (dC : Nat → ClassId) (dI : Nat → Nat → Nat) (cI : ClassId) (m0 : Nat) (th : Int32) (mu mz mb mr : Nat) (U : Nat → Nat) (r i : Nat) (hr : r < 2) (hi : i < 255) : mR l y_Mo_at w_Mo_at ({ frames := 0, cells := 0, slots := 0, locals := 0 } : Room) [.ref m0, .int (nI r), .int (nI i)] (dC, dI) vwCl [(cI, .int)] [(m0, .inr (5, [.int th, .ref mu, .ref mz, .ref mb, .ref mr])), (mu, .inl (cI, 510, .inl (nf U)))] (some (.int (nI (rv U r i)))) := by
  refine mk_Ri (cc := b_Mo_at) (maxL := 3) (by decide) rfl (Nat.le_of_ble_eq_true rfl) rfl ?_
  intro p e s m below meth c Q A ls S hP hK hT hS hl hret
  obtain ⟨hx, hb, hml, hown, hts⟩ := id S
  have hl : lv_has ls 3 [(0, .ref m0), (1, .int (nI r)), (2, .int (nI i))] := hl
  refine lv_aload_n hx hb d_Mo_at_0 rfl (lv_at hl 0 rfl) ?_
  refine va_get (D := (dC, dI)) (ci := 5) (v := .ref mu) (C := "LongNamesModel") (T := F_Mo) (N := 5) hx hb hts (iw_Mo _) hown hK hP 0 rfl rfl 1 (by decide) (hts _ (List.mem_cons_of_mem _ k_523)) (fun _ h9 => h9) rfl d_Mo_at_1 ?_
  refine lv_sipush (v := nI 255) hx hb d_Mo_at_4 (by decide) ?_
  refine lv_iload_n hx hb d_Mo_at_7 rfl (lv_at hl 1 rfl) ?_
  refine lv_imul hx hb d_Mo_at_8 ?_
  refine mk_ti (y := nI (255 * r)) (pk_mul 255 r) ?_
  refine lv_iload_n hx hb d_Mo_at_9 rfl (lv_at hl 2 rfl) ?_
  refine lv_iadd hx hb d_Mo_at_10 ?_
  refine mk_ti (y := nI (255 * r + i)) (nI_add (255 * r) i) ?_
  refine va_iald hx hb hK hP 1 0 rfl rfl (vp_in_nI (N := 510) (show 255 * r + i < 510 by omega) (by decide)) d_Mo_at_11 ?_
  refine mk_ti (y := nI (U (255 * r + i))) (by rw [nI_clamp (by omega)]; rfl) ?_
  exact mk_ti (by rfl) (hret _ _ d_Mo_at_12)

set_option maxHeartbeats 1000000 in
set_option maxRecDepth 100000 in
theorem c_Mo_name (l : Launch) (dC : Nat → ClassId) (dI : Nat → Nat → Nat) (cI : ClassId) (m0 : Nat) (th : Int32) (mu mz mb mr : Nat) (U Z : Nat → Nat) (r : Nat) (hU : ∀ j, U j < 65536) (hZ : ∀ j, Z j ≤ 255) (hr : r < 2) : mR l y_Mo_isName w_Mo_isName ({ frames := 1, cells := 0, slots := 0, locals := 22 } : Room) [.ref m0, .int (nI r)] (dC, dI) vwCl [(cI, .int)] [(m0, .inr (5, [.int th, .ref mu, .ref mz, .ref mb, .ref mr])), (mu, .inl (cI, 510, .inl (nf U))), (mz, .inl (cI, 2, .inl (nf Z)))] (some (.int (bI (nameN (rv U r) (Z r))))) := by
  have hZr := hZ r
  refine mk_Ri (cc := b_Mo_isName) (maxL := 4) (by decide) rfl (Nat.le_of_ble_eq_true rfl) (mk_nz _) ?_
  intro p e s m below meth c Q A ls S hP hK hT hS hl hret
  obtain ⟨hx, hb, hml, hown, hts⟩ := id S
  have hl : lv_has ls 4 [(0, .ref m0), (1, .int (nI r))] := hl
  refine lv_aload_n hx hb d_Mo_isName_0 rfl (lv_at hl 0 rfl) ?_
  refine va_get (D := (dC, dI)) (ci := 5) (v := .ref mz) (C := "LongNamesModel") (T := F_Mo) (N := 5) hx hb hts (iw_Mo _) hown hK hP 0 rfl rfl 2 (by decide) (hts _ (List.mem_cons_of_mem _ k_524)) (fun _ h9 => h9) rfl d_Mo_isName_1 ?_
  refine lv_iload_n hx hb d_Mo_isName_4 rfl (lv_at hl 1 rfl) ?_
  refine va_iald hx hb hK hP 2 0 rfl rfl (vp_in_nI (N := 2) (show r < 2 by omega) (by decide)) d_Mo_isName_5 ?_
  refine mk_ti (y := nI (Z r)) (by rw [nI_clamp (by omega)]; rfl) ?_
  refine lv_istore_n (lv' := [(2, .int (nI (Z r))), (0, .ref m0), (1, .int (nI r))]) hx hb d_Mo_isName_6 rfl hl (by decide) rfl (fun ls hl => ?_)
  refine lv_iload_n hx hb d_Mo_isName_7 rfl (lv_at hl 0 rfl) ?_
  refine lv_if_eq (tgt := 37) hx hb d_Mo_isName_8 (by decide) (fun c_1 => ?_) (fun c_1 => ?_)
  · skip
    rw [mk_ceq (by omega)] at c_1
    refine lv_iconst (v := nI 0) hx hb d_Mo_isName_37 (by decide) ?_
    exact mk_ti (by exact mk_bf (by simp only [nameN, decide_eq_false_iff_not]; intro h9; omega)) (hret _ _ d_Mo_isName_38)
  · skip
    rw [mk_ceq (by omega)] at c_1
    refine lv_aload_n hx hb d_Mo_isName_11 rfl (lv_at hl 1 rfl) ?_
    refine lv_iload_n hx hb d_Mo_isName_12 rfl (lv_at hl 2 rfl) ?_
    refine lv_iload_n hx hb d_Mo_isName_13 rfl (lv_at hl 0 rfl) ?_
    refine lv_iconst (v := nI 1) hx hb d_Mo_isName_14 (by decide) ?_
    refine lv_isub hx hb d_Mo_isName_15 ?_
    refine mk_ti (y := nI (Z r - 1)) (pk_sub (by omega)) ?_
    refine mk_r1 (W.runV (As := [.int (nI r), .int (nI (Z r - 1))]) (rest := []) S (c_Mo_at l dC dI cI m0 th mu mz mb mr U r (Z r - 1) (by first | assumption | omega) (by first | assumption | omega)) (gV 2 hts k_562 k_564 k_14 k_29 k_565 (by decide +kernel) ⟨Nat.le_of_ble_eq_true rfl, Nat.le_of_ble_eq_true rfl⟩) (mk_vR hP hK hT hS [0, 1] rfl (q0 := 0) (ci := 5) rfl rfl) rfl rfl hl.1 rfl (lv_room (Nat.le_of_ble_eq_true rfl)) d_Mo_isName_16 ⟨Nat.zero_le _, Nat.zero_le _⟩) ?_
    have b_2 := (show rv U r (Z r - 1) < 65536 from rv_lt (show ∀ j9, U j9 < 65536 by assumption) (Z r - 1))
    refine lv_bipush (v := nI 32) hx hb d_Mo_isName_19 (by decide) ?_
    refine lv_icmp_eq (tgt := 37) hx hb d_Mo_isName_21 (by decide) (fun c_3 => ?_) (fun c_3 => ?_)
    · skip
      rw [nI_eq (by omega) (by omega)] at c_3
      refine lv_iconst (v := nI 0) hx hb d_Mo_isName_37 (by decide) ?_
      exact mk_ti (by exact mk_bf (by simp only [nameN, decide_eq_false_iff_not]; intro h9; omega)) (hret _ _ d_Mo_isName_38)
    · skip
      rw [nI_eq (by omega) (by omega)] at c_3
      refine lv_aload_n hx hb d_Mo_isName_24 rfl (lv_at hl 1 rfl) ?_
      refine lv_iload_n hx hb d_Mo_isName_25 rfl (lv_at hl 2 rfl) ?_
      refine lv_iload_n hx hb d_Mo_isName_26 rfl (lv_at hl 0 rfl) ?_
      refine lv_iconst (v := nI 1) hx hb d_Mo_isName_27 (by decide) ?_
      refine lv_isub hx hb d_Mo_isName_28 ?_
      refine mk_ti (y := nI (Z r - 1)) (pk_sub (by omega)) ?_
      refine mk_r1 (W.runV (As := [.int (nI r), .int (nI (Z r - 1))]) (rest := []) S (c_Mo_at l dC dI cI m0 th mu mz mb mr U r (Z r - 1) (by first | assumption | omega) (by first | assumption | omega)) (gV 2 hts k_562 k_564 k_14 k_29 k_565 (by decide +kernel) ⟨Nat.le_of_ble_eq_true rfl, Nat.le_of_ble_eq_true rfl⟩) (mk_vR hP hK hT hS [0, 1] rfl (q0 := 0) (ci := 5) rfl rfl) rfl rfl hl.1 rfl (lv_room (Nat.le_of_ble_eq_true rfl)) d_Mo_isName_29 ⟨Nat.zero_le _, Nat.zero_le _⟩) ?_
      have b_4 := (show rv U r (Z r - 1) < 65536 from rv_lt (show ∀ j9, U j9 < 65536 by assumption) (Z r - 1))
      refine lv_bipush (v := nI 46) hx hb d_Mo_isName_32 (by decide) ?_
      refine lv_icmp_ne (tgt := 39) hx hb d_Mo_isName_34 (by decide) (fun c_5 => ?_) (fun c_5 => ?_)
      · skip
        rw [nI_eq (by omega) (by omega)] at c_5
        refine lv_iconst (v := nI 0) hx hb d_Mo_isName_39 (by decide) ?_
        refine lv_istore_n (lv' := [(3, .int (nI 0)), (2, .int (nI (Z r))), (0, .ref m0), (1, .int (nI r))]) hx hb d_Mo_isName_40 rfl hl (by decide) rfl (fun ls hl => ?_)
        have lp41 : ∀ (k : Nat) (i : Nat) (ls : Array Slot), (i + k = Z r) → (∀ j, j < i → okN (rv U r j) = true) → lv_has ls 4 [(0, .ref m0), (1, .int (nI r)), (2, .int (nI (Z r))), (3, .int (nI i))] → W p l e ({ frames := 1, cells := 0, slots := 0, locals := 22 } : Room) s m ([.ref m0, .int (nI r)] : List Value).toArray below meth c s.heap [] 0 0 Q (F0 m 41 ls []) := by
          intro k
          induction k with
          | zero =>
            intro i ls hi hq hl
            refine lv_iload_n hx hb d_Mo_isName_41 rfl (lv_at hl 3 rfl) ?_
            refine lv_iload_n hx hb d_Mo_isName_42 rfl (lv_at hl 2 rfl) ?_
            refine lv_icmp_ge (tgt := 66) hx hb d_Mo_isName_43 (by decide) (fun c_6 => ?_) (fun c_6 => ?_)
            · skip
              rw [nI_leI (by omega) (by omega)] at c_6
              refine lv_iconst (v := nI 1) hx hb d_Mo_isName_66 (by decide) ?_
              exact mk_ti (by exact mk_bt (by simp only [nameN, decide_eq_true_eq]; exact ⟨by omega, fun j hj => hq j (by omega), by omega, by omega⟩)) (hret _ _ d_Mo_isName_67)
            · skip
              rw [nI_leI (by omega) (by omega)] at c_6
              first | omega | contradiction
          | succ k ih41 =>
            intro i ls hi hq hl
            refine lv_iload_n hx hb d_Mo_isName_41 rfl (lv_at hl 3 rfl) ?_
            refine lv_iload_n hx hb d_Mo_isName_42 rfl (lv_at hl 2 rfl) ?_
            refine lv_icmp_ge (tgt := 66) hx hb d_Mo_isName_43 (by decide) (fun c_7 => ?_) (fun c_7 => ?_)
            · skip
              rw [nI_leI (by omega) (by omega)] at c_7
              first | omega | contradiction
            · skip
              rw [nI_leI (by omega) (by omega)] at c_7
              refine lv_aload_n hx hb d_Mo_isName_46 rfl (lv_at hl 0 rfl) ?_
              refine lv_iload_n hx hb d_Mo_isName_47 rfl (lv_at hl 1 rfl) ?_
              refine lv_iload_n hx hb d_Mo_isName_48 rfl (lv_at hl 3 rfl) ?_
              refine mk_r1 (W.runV (As := [.int (nI r), .int (nI i)]) (rest := []) S (c_Mo_at l dC dI cI m0 th mu mz mb mr U r i (by first | assumption | omega) (by first | assumption | omega)) (gV 2 hts k_562 k_564 k_14 k_29 k_565 (by decide +kernel) ⟨Nat.le_of_ble_eq_true rfl, Nat.le_of_ble_eq_true rfl⟩) (mk_vR hP hK hT hS [0, 1] rfl (q0 := 0) (ci := 5) rfl rfl) rfl rfl hl.1 rfl (lv_room (Nat.le_of_ble_eq_true rfl)) d_Mo_isName_49 ⟨Nat.zero_le _, Nat.zero_le _⟩) ?_
              have b_8 := (show rv U r i < 65536 from rv_lt (show ∀ j9, U j9 < 65536 by assumption) i)
              refine mk_r1 (W.runS (As := [.int (nI (rv U r i))]) (rest := []) S (c_Mo_bar l dC dI cI (rv U r i) (by first | assumption | omega)) (gS 1 hts k_566 k_567 k_29 k_568 (by decide +kernel) ⟨Nat.le_of_ble_eq_true rfl, Nat.le_of_ble_eq_true rfl⟩) (mk_sR hP hK hT hS [] rfl) rfl rfl hl.1 rfl (lv_room (Nat.le_of_ble_eq_true rfl)) d_Mo_isName_52 ⟨Nat.zero_le _, Nat.zero_le _⟩) ?_
              refine lv_if_eq (tgt := 60) hx hb d_Mo_isName_55 (by decide) (fun c_9 => ?_) (fun c_9 => ?_)
              · skip
                have c_9 := bI_0 c_9
                refine lv_iinc (v := nI (i + 1)) (lv' := [(3, .int (nI (i + 1))), (0, .ref m0), (1, .int (nI r)), (2, .int (nI (Z r)))]) hx hb d_Mo_isName_60 hl (k := 3) rfl (mk_i1 i) (by decide) rfl (fun ls hl => ?_)
                refine lv_goto (tgt := 41) hx hb d_Mo_isName_63 (by decide) ?_
                have hl : lv_has ls 4 [(0, .ref m0), (1, .int (nI r)), (2, .int (nI (Z r))), (3, .int (nI (i + 1)))] := lv_sub hl [1, 2, 3, 0] rfl
                exact ih41 (i + 1) _ (by omega) (lt_s hq (baN_f (by assumption))) hl
              · skip
                have c_9 := bI_1 c_9
                refine lv_iconst (v := nI 0) hx hb d_Mo_isName_58 (by decide) ?_
                exact mk_ti (by exact mk_bf (by simp only [nameN, decide_eq_false_iff_not]; intro h9; have h8 := h9.2.1 i (by omega); rw [baN_t c_9] at h8; exact absurd h8 (by decide))) (hret _ _ d_Mo_isName_59)
        have hl : lv_has ls 4 [(0, .ref m0), (1, .int (nI r)), (2, .int (nI (Z r))), (3, .int (nI 0))] := lv_sub hl [2, 3, 1, 0] rfl
        exact lp41 (Z r) 0 _ (by omega) (fun j hj => absurd hj (Nat.not_lt_zero j)) hl
      · skip
        rw [nI_eq (by omega) (by omega)] at c_5
        refine lv_iconst (v := nI 0) hx hb d_Mo_isName_37 (by decide) ?_
        exact mk_ti (by exact mk_bf (by simp only [nameN, decide_eq_false_iff_not]; intro h9; omega)) (hret _ _ d_Mo_isName_38)

set_option maxHeartbeats 1000000 in
set_option maxRecDepth 100000 in
theorem c_Mo_point (l : Launch) (dC : Nat → ClassId) (dI : Nat → Nat → Nat) (cI : ClassId) (m0 : Nat) (th : Int32) (mu mz mb mr : Nat) (U Z : Nat → Nat) (r : Nat) (hU : ∀ j, U j < 65536) (hZ : ∀ j, Z j ≤ 255) (hr : r < 2) : mR l y_Mo_pointOf w_Mo_pointOf ({ frames := 1, cells := 0, slots := 0, locals := 22 } : Room) [.ref m0, .int (nI r)] (dC, dI) vwCl [(cI, .int)] [(m0, .inr (5, [.int th, .ref mu, .ref mz, .ref mb, .ref mr])), (mu, .inl (cI, 510, .inl (nf U))), (mz, .inl (cI, 2, .inl (nf Z)))] (some (.int (nI (fpN (rv U r) (Z r) 0)))) := by
  have hZr := hZ r
  refine mk_Ri (cc := b_Mo_pointOf) (maxL := 3) (by decide) rfl (Nat.le_of_ble_eq_true rfl) rfl ?_
  intro p e s m below meth c Q A ls S hP hK hT hS hl hret
  obtain ⟨hx, hb, hml, hown, hts⟩ := id S
  have hl : lv_has ls 3 [(0, .ref m0), (1, .int (nI r))] := hl
  refine lv_iconst (v := nI 0) hx hb d_Mo_pointOf_0 (by decide) ?_
  refine lv_istore_n (lv' := [(2, .int (nI 0)), (0, .ref m0), (1, .int (nI r))]) hx hb d_Mo_pointOf_1 rfl hl (by decide) rfl (fun ls hl => ?_)
  have lp2 : ∀ (k : Nat) (i : Nat) (ls : Array Slot), (i + k = Z r) → (fpN (rv U r) (Z r) 0 = fpN (rv U r) k i) → lv_has ls 3 [(0, .ref m0), (1, .int (nI r)), (2, .int (nI i))] → W p l e ({ frames := 1, cells := 0, slots := 0, locals := 22 } : Room) s m ([.ref m0, .int (nI r)] : List Value).toArray below meth c s.heap [] 0 0 Q (F0 m 2 ls []) := by
    intro k
    induction k with
    | zero =>
      intro i ls hi hE hl
      refine lv_iload_n hx hb d_Mo_pointOf_2 rfl (lv_at hl 2 rfl) ?_
      refine lv_aload_n hx hb d_Mo_pointOf_3 rfl (lv_at hl 0 rfl) ?_
      refine va_get (D := (dC, dI)) (ci := 5) (v := .ref mz) (C := "LongNamesModel") (T := F_Mo) (N := 5) hx hb hts (iw_Mo _) hown hK hP 0 rfl rfl 2 (by decide) (hts _ (List.mem_cons_of_mem _ k_524)) (fun _ h9 => h9) rfl d_Mo_pointOf_4 ?_
      refine lv_iload_n hx hb d_Mo_pointOf_7 rfl (lv_at hl 1 rfl) ?_
      refine va_iald hx hb hK hP 2 0 rfl rfl (vp_in_nI (N := 2) (show r < 2 by omega) (by decide)) d_Mo_pointOf_8 ?_
      refine mk_ti (y := nI (Z r)) (by rw [nI_clamp (by omega)]; rfl) ?_
      refine lv_icmp_ge (tgt := 29) hx hb d_Mo_pointOf_9 (by decide) (fun c_1 => ?_) (fun c_1 => ?_)
      · skip
        rw [nI_leI (by omega) (by omega)] at c_1
        refine lv_iload_n hx hb d_Mo_pointOf_29 rfl (lv_at hl 2 rfl) ?_
        exact mk_ti (by rw [hE]; first | rfl | rw [fpN, if_pos c_1]) (hret _ _ d_Mo_pointOf_30)
      · skip
        rw [nI_leI (by omega) (by omega)] at c_1
        first | omega | contradiction
    | succ k ih2 =>
      intro i ls hi hE hl
      refine lv_iload_n hx hb d_Mo_pointOf_2 rfl (lv_at hl 2 rfl) ?_
      refine lv_aload_n hx hb d_Mo_pointOf_3 rfl (lv_at hl 0 rfl) ?_
      refine va_get (D := (dC, dI)) (ci := 5) (v := .ref mz) (C := "LongNamesModel") (T := F_Mo) (N := 5) hx hb hts (iw_Mo _) hown hK hP 0 rfl rfl 2 (by decide) (hts _ (List.mem_cons_of_mem _ k_524)) (fun _ h9 => h9) rfl d_Mo_pointOf_4 ?_
      refine lv_iload_n hx hb d_Mo_pointOf_7 rfl (lv_at hl 1 rfl) ?_
      refine va_iald hx hb hK hP 2 0 rfl rfl (vp_in_nI (N := 2) (show r < 2 by omega) (by decide)) d_Mo_pointOf_8 ?_
      refine mk_ti (y := nI (Z r)) (by rw [nI_clamp (by omega)]; rfl) ?_
      refine lv_icmp_ge (tgt := 29) hx hb d_Mo_pointOf_9 (by decide) (fun c_2 => ?_) (fun c_2 => ?_)
      · skip
        rw [nI_leI (by omega) (by omega)] at c_2
        first | omega | contradiction
      · skip
        rw [nI_leI (by omega) (by omega)] at c_2
        refine lv_aload_n hx hb d_Mo_pointOf_12 rfl (lv_at hl 0 rfl) ?_
        refine lv_iload_n hx hb d_Mo_pointOf_13 rfl (lv_at hl 1 rfl) ?_
        refine lv_iload_n hx hb d_Mo_pointOf_14 rfl (lv_at hl 2 rfl) ?_
        refine mk_r1 (W.runV (As := [.int (nI r), .int (nI i)]) (rest := []) S (c_Mo_at l dC dI cI m0 th mu mz mb mr U r i (by first | assumption | omega) (by first | assumption | omega)) (gV 2 hts k_562 k_564 k_14 k_29 k_565 (by decide +kernel) ⟨Nat.le_of_ble_eq_true rfl, Nat.le_of_ble_eq_true rfl⟩) (mk_vR hP hK hT hS [0, 1] rfl (q0 := 0) (ci := 5) rfl rfl) rfl rfl hl.1 rfl (lv_room (Nat.le_of_ble_eq_true rfl)) d_Mo_pointOf_15 ⟨Nat.zero_le _, Nat.zero_le _⟩) ?_
        have b_3 := (show rv U r i < 65536 from rv_lt (show ∀ j9, U j9 < 65536 by assumption) i)
        refine lv_bipush (v := nI 46) hx hb d_Mo_pointOf_18 (by decide) ?_
        refine lv_icmp_eq (tgt := 29) hx hb d_Mo_pointOf_20 (by decide) (fun c_4 => ?_) (fun c_4 => ?_)
        · skip
          rw [nI_eq (by omega) (by omega)] at c_4
          refine lv_iload_n hx hb d_Mo_pointOf_29 rfl (lv_at hl 2 rfl) ?_
          exact mk_ti (by rw [hE]; first | rfl | rw [fpN, if_pos c_4]) (hret _ _ d_Mo_pointOf_30)
        · skip
          rw [nI_eq (by omega) (by omega)] at c_4
          refine lv_iinc (v := nI (i + 1)) (lv' := [(2, .int (nI (i + 1))), (0, .ref m0), (1, .int (nI r))]) hx hb d_Mo_pointOf_23 hl (k := 2) rfl (mk_i1 i) (by decide) rfl (fun ls hl => ?_)
          refine lv_goto (tgt := 2) hx hb d_Mo_pointOf_26 (by decide) ?_
          have hl : lv_has ls 3 [(0, .ref m0), (1, .int (nI r)), (2, .int (nI (i + 1)))] := lv_sub hl [1, 2, 0] rfl
          exact ih2 (i + 1) _ (by omega) (hE.trans (by rw [fpN, if_neg c_4])) hl
  have hl : lv_has ls 3 [(0, .ref m0), (1, .int (nI r)), (2, .int (nI 0))] := lv_sub hl [1, 2, 0] rfl
  exact lp2 (Z r) 0 _ (by omega) rfl hl

set_option maxHeartbeats 1000000 in
set_option maxRecDepth 100000 in
theorem c_Mo_shown (l : Launch) (dC : Nat → ClassId) (dI : Nat → Nat → Nat) (cI : ClassId) (m0 : Nat) (th : Int32) (mu mz mb mr : Nat) (U Z b : Nat → Nat) (r : Nat) (hU : ∀ j, U j < 65536) (hZ : ∀ j, Z j ≤ 255) (hr : r < 2) : mM l y_Mo_isShown w_Mo_isShown ({ frames := 2, cells := 0, slots := 0, locals := 44 } : Room) [.ref m0, .int (nI r)] (dC, dI) vwCl [(cI, .int)] [(m0, .inr (5, [.int th, .ref mu, .ref mz, .ref mb, .ref mr])), (mu, .inl (cI, 510, .inl (nf U))), (mz, .inl (cI, 2, .inl (nf Z))), (mr, .inl (cI, 11, .inl (nf b)))] (some (.int (bI (swR (rv U r) (Z r))))) [(m0, .inr (5, [.int th, .ref mu, .ref mz, .ref mb, .ref mr])), (mu, .inl (cI, 510, .inl (nf U))), (mz, .inl (cI, 2, .inl (nf Z))), (mr, .inl (cI, 11, .inl (nf (swB (rv U r) (Z r) b))))] := by
  have hZr := hZ r
  have hp9 := fpN_le (rv U r) (Z r) 0
  refine mk_Mi (cc := b_Mo_isShown) (maxL := 5) (by decide) rfl (Nat.le_of_ble_eq_true rfl) (mk_nz _) ?_
  intro p e s m below meth c Q A ls S hP hK hT hS hl hD hA hret
  obtain ⟨hx, hb, hml, hown, hts⟩ := id S
  have hl : lv_has ls 5 [(0, .ref m0), (1, .int (nI r))] := hl
  refine lv_aload_n hx hb d_Mo_isShown_0 rfl (lv_at hl 0 rfl) ?_
  refine va_get (D := (dC, dI)) (ci := 5) (v := .ref mz) (C := "LongNamesModel") (T := F_Mo) (N := 5) hx hb hts (iw_Mo _) hown hK hP 0 rfl rfl 2 (by decide) (hts _ (List.mem_cons_of_mem _ k_524)) (fun _ h9 => h9) rfl d_Mo_isShown_1 ?_
  refine lv_iload_n hx hb d_Mo_isShown_4 rfl (lv_at hl 1 rfl) ?_
  refine va_iald hx hb hK hP 2 0 rfl rfl (vp_in_nI (N := 2) (show r < 2 by omega) (by decide)) d_Mo_isShown_5 ?_
  refine mk_ti (y := nI (Z r)) (by rw [nI_clamp (by omega)]; rfl) ?_
  refine lv_istore_n (lv' := [(2, .int (nI (Z r))), (0, .ref m0), (1, .int (nI r))]) hx hb d_Mo_isShown_6 rfl hl (by decide) rfl (fun ls hl => ?_)
  refine lv_aload_n hx hb d_Mo_isShown_7 rfl (lv_at hl 1 rfl) ?_
  refine lv_iload_n hx hb d_Mo_isShown_8 rfl (lv_at hl 2 rfl) ?_
  refine mk_r1 (W.runV (As := [.int (nI r)]) (rest := []) S (c_Mo_point l dC dI cI m0 th mu mz mb mr U Z r (by first | assumption | omega) (by first | assumption | omega) (by first | assumption | omega)) (gV 1 hts k_576 k_578 k_16 k_29 k_579 (by decide +kernel) ⟨Nat.le_of_ble_eq_true rfl, Nat.le_of_ble_eq_true rfl⟩) (mk_vR hP hK hT hS [0, 1, 2] rfl (q0 := 0) (ci := 5) rfl rfl) rfl rfl hl.1 rfl (lv_room (Nat.le_of_ble_eq_true rfl)) d_Mo_isShown_9 ⟨Nat.zero_le _, Nat.zero_le _⟩) ?_
  refine lv_istore_n (lv' := [(3, .int (nI (fpN (rv U r) (Z r) 0))), (2, .int (nI (Z r))), (0, .ref m0), (1, .int (nI r))]) hx hb d_Mo_isShown_12 rfl hl (by decide) rfl (fun ls hl => ?_)
  have jn45 : ∀  (H : Heap) (locs : List Loc) (ls : Array Slot), (spOk (fpN (rv U r) (Z r) 0) (Z r) = true) → va_P (dC, dI) vwCl [(m0, .inr (5, [.int th, .ref mu, .ref mz, .ref mb, .ref mr])), (mu, .inl (cI, 510, .inl (nf U))), (mz, .inl (cI, 2, .inl (nf Z))), (mr, .inl (cI, 11, .inl (nf b)))] H → va_D A [(m0, .inr (5, [.int th, .ref mu, .ref mz, .ref mb, .ref mr])), (mu, .inl (cI, 510, .inl (nf U))), (mz, .inl (cI, 2, .inl (nf Z))), (mr, .inl (cI, 11, .inl (nf b)))] → va_S A s.heap H locs → lv_has ls 5 [(0, .ref m0), (1, .int (nI r)), (2, .int (nI (Z r))), (3, .int (nI (fpN (rv U r) (Z r) 0)))] → W p l e ({ frames := 2, cells := 0, slots := 0, locals := 44 } : Room) s m ([.ref m0, .int (nI r)] : List Value).toArray below meth c H locs 0 0 Q (F0 m 45 ls []) := by
    intro H locs ls hsp hP hD hS hl
    have hsq := hsp
    simp only [spOk, decide_eq_true_eq] at hsq
    refine lv_iconst (v := nI 0) hx hb d_Mo_isShown_45 (by decide) ?_
    refine lv_istore (lv' := [(4, .int (nI 0)), (0, .ref m0), (1, .int (nI r)), (2, .int (nI (Z r))), (3, .int (nI (fpN (rv U r) (Z r) 0)))]) hx hb d_Mo_isShown_46 hl (by decide) rfl (fun ls hl => ?_)
    have lp48 : ∀ (k : Nat) (i : Nat) (H : Heap) (locs : List Loc) (ls : Array Slot), (i + k = 11) → va_P (dC, dI) vwCl [(m0, .inr (5, [.int th, .ref mu, .ref mz, .ref mb, .ref mr])), (mu, .inl (cI, 510, .inl (nf U))), (mz, .inl (cI, 2, .inl (nf Z))), (mr, .inl (cI, 11, .inl (nf (fiN b 32 i))))] H → va_D A [(m0, .inr (5, [.int th, .ref mu, .ref mz, .ref mb, .ref mr])), (mu, .inl (cI, 510, .inl (nf U))), (mz, .inl (cI, 2, .inl (nf Z))), (mr, .inl (cI, 11, .inl (nf (fiN b 32 i))))] → va_S A s.heap H locs → lv_has ls 5 [(0, .ref m0), (1, .int (nI r)), (2, .int (nI (Z r))), (3, .int (nI (fpN (rv U r) (Z r) 0))), (4, .int (nI i))] → W p l e ({ frames := 2, cells := 0, slots := 0, locals := 44 } : Room) s m ([.ref m0, .int (nI r)] : List Value).toArray below meth c H locs 0 0 Q (F0 m 48 ls []) := by
      intro k
      induction k with
      | zero =>
        intro i H locs ls hi hP hD hS hl
        refine lv_iload hx hb d_Mo_isShown_48 (lv_at hl 4 rfl) ?_
        refine lv_bipush (v := nI 11) hx hb d_Mo_isShown_50 (by decide) ?_
        refine lv_icmp_ge (tgt := 70) hx hb d_Mo_isShown_52 (by decide) (fun c_1 => ?_) (fun c_1 => ?_)
        · skip
          rw [nI_leI (by omega) (by omega)] at c_1
          refine lv_iconst (v := nI 0) hx hb d_Mo_isShown_70 (by decide) ?_
          refine lv_istore (lv' := [(4, .int (nI 0)), (0, .ref m0), (1, .int (nI r)), (2, .int (nI (Z r))), (3, .int (nI (fpN (rv U r) (Z r) 0)))]) hx hb d_Mo_isShown_71 hl (by decide) rfl (fun ls hl => ?_)
          have lp73 : ∀ (k2 : Nat) (i2 : Nat) (H : Heap) (locs : List Loc) (ls : Array Slot), (i2 + k2 = Z r) → (fkN (rv U r) (fpN (rv U r) (Z r) 0) (Z r) 0 = fkN (rv U r) (fpN (rv U r) (Z r) 0) k2 i2 ∧ fkR (rv U r) (fpN (rv U r) (Z r) 0) (Z r) 0 = fkR (rv U r) (fpN (rv U r) (Z r) 0) k2 i2) → va_P (dC, dI) vwCl [(m0, .inr (5, [.int th, .ref mu, .ref mz, .ref mb, .ref mr])), (mu, .inl (cI, 510, .inl (nf U))), (mz, .inl (cI, 2, .inl (nf Z))), (mr, .inl (cI, 11, .inl (nf (sbL (rv U r) (fpN (rv U r) (Z r) 0) (fiN b 32 11) i2))))] H → va_D A [(m0, .inr (5, [.int th, .ref mu, .ref mz, .ref mb, .ref mr])), (mu, .inl (cI, 510, .inl (nf U))), (mz, .inl (cI, 2, .inl (nf Z))), (mr, .inl (cI, 11, .inl (nf (sbL (rv U r) (fpN (rv U r) (Z r) 0) (fiN b 32 11) i2))))] → va_S A s.heap H locs → lv_has ls 5 [(0, .ref m0), (1, .int (nI r)), (2, .int (nI (Z r))), (3, .int (nI (fpN (rv U r) (Z r) 0))), (4, .int (nI i2))] → W p l e ({ frames := 2, cells := 0, slots := 0, locals := 44 } : Room) s m ([.ref m0, .int (nI r)] : List Value).toArray below meth c H locs 0 0 Q (F0 m 73 ls []) := by
            intro k2
            induction k2 with
            | zero =>
              intro i2 H locs ls hi2 hE2 hP hD hS hl
              refine lv_iload hx hb d_Mo_isShown_73 (lv_at hl 4 rfl) ?_
              refine lv_iload_n hx hb d_Mo_isShown_75 rfl (lv_at hl 2 rfl) ?_
              refine lv_icmp_ge (tgt := 151) hx hb d_Mo_isShown_76 (by decide) (fun c_2 => ?_) (fun c_2 => ?_)
              · skip
                rw [nI_leI (by omega) (by omega)] at c_2
                refine lv_iconst (v := nI 1) hx hb d_Mo_isShown_151 (by decide) ?_
                have hw9 : ([(m0, .inr (5, [.int th, .ref mu, .ref mz, .ref mb, .ref mr])), (mu, .inl (cI, 510, .inl (nf U))), (mz, .inl (cI, 2, .inl (nf Z))), (mr, .inl (cI, 11, .inl (nf (sbL (rv U r) (fpN (rv U r) (Z r) 0) (fiN b 32 11) i2))))] : va_W) = [(m0, .inr (5, [.int th, .ref mu, .ref mz, .ref mb, .ref mr])), (mu, .inl (cI, 510, .inl (nf U))), (mz, .inl (cI, 2, .inl (nf Z))), (mr, .inl (cI, 11, .inl (nf (swB (rv U r) (Z r) b))))] := by rw [swB, if_pos hsp, hE2.1]; rfl
                rw [hw9] at hP hD
                exact mk_ti (by exact mk_bt (by rw [swR, hsp, hE2.2]; rfl)) (hret _ _ _ _ d_Mo_isShown_152 hP hD hS)
              · skip
                rw [nI_leI (by omega) (by omega)] at c_2
                first | omega | contradiction
            | succ k2 ih73 =>
              intro i2 H locs ls hi2 hE2 hP hD hS hl
              refine lv_iload hx hb d_Mo_isShown_73 (lv_at hl 4 rfl) ?_
              refine lv_iload_n hx hb d_Mo_isShown_75 rfl (lv_at hl 2 rfl) ?_
              refine lv_icmp_ge (tgt := 151) hx hb d_Mo_isShown_76 (by decide) (fun c_3 => ?_) (fun c_3 => ?_)
              · skip
                rw [nI_leI (by omega) (by omega)] at c_3
                first | omega | contradiction
              · skip
                rw [nI_leI (by omega) (by omega)] at c_3
                refine lv_iload hx hb d_Mo_isShown_79 (lv_at hl 4 rfl) ?_
                refine lv_iload_n hx hb d_Mo_isShown_81 rfl (lv_at hl 3 rfl) ?_
                refine lv_icmp_eq (tgt := 100) hx hb d_Mo_isShown_82 (by decide) (fun c_4 => ?_) (fun c_4 => ?_)
                · skip
                  rw [nI_eq (by omega) (by omega)] at c_4
                  refine lv_iload hx hb d_Mo_isShown_100 (lv_at hl 4 rfl) ?_
                  refine lv_iload_n hx hb d_Mo_isShown_102 rfl (lv_at hl 3 rfl) ?_
                  refine lv_icmp_ge (tgt := 120) hx hb d_Mo_isShown_103 (by decide) (fun c_5 => ?_) (fun c_5 => ?_)
                  · skip
                    rw [nI_leI (by omega) (by omega)] at c_5
                    refine lv_iload hx hb d_Mo_isShown_120 (lv_at hl 4 rfl) ?_
                    refine lv_iload_n hx hb d_Mo_isShown_122 rfl (lv_at hl 3 rfl) ?_
                    refine lv_icmp_le (tgt := 145) hx hb d_Mo_isShown_123 (by decide) (fun c_6 => ?_) (fun c_6 => ?_)
                    · skip
                      rw [nI_leI (by omega) (by omega)] at c_6
                      refine lv_iinc (v := nI (i2 + 1)) (lv' := [(4, .int (nI (i2 + 1))), (0, .ref m0), (1, .int (nI r)), (2, .int (nI (Z r))), (3, .int (nI (fpN (rv U r) (Z r) 0)))]) hx hb d_Mo_isShown_145 hl (k := 4) rfl (mk_i1 i2) (by decide) rfl (fun ls hl => ?_)
                      refine lv_goto (tgt := 73) hx hb d_Mo_isShown_148 (by decide) ?_
                      have hl : lv_has ls 5 [(0, .ref m0), (1, .int (nI r)), (2, .int (nI (Z r))), (3, .int (nI (fpN (rv U r) (Z r) 0))), (4, .int (nI (i2 + 1)))] := lv_sub hl [1, 2, 3, 4, 0] rfl
                      have hw9 : ([(m0, .inr (5, [.int th, .ref mu, .ref mz, .ref mb, .ref mr])), (mu, .inl (cI, 510, .inl (nf U))), (mz, .inl (cI, 2, .inl (nf Z))), (mr, .inl (cI, 11, .inl (nf (sbL (rv U r) (fpN (rv U r) (Z r) 0) (fiN b 32 11) i2))))] : va_W) = [(m0, .inr (5, [.int th, .ref mu, .ref mz, .ref mb, .ref mr])), (mu, .inl (cI, 510, .inl (nf U))), (mz, .inl (cI, 2, .inl (nf Z))), (mr, .inl (cI, 11, .inl (nf (sbL (rv U r) (fpN (rv U r) (Z r) 0) (fiN b 32 11) (i2 + 1)))))] := by first | (exfalso; omega) | rw [sbL, sbN]; first | rw [if_pos (by omega)] | rw [if_neg (by omega), if_pos (by omega)] | rw [if_neg (by omega), if_neg (by omega)]
                      rw [hw9] at hP hD
                      exact ih73 (i2 + 1) _ _ _ (by omega) ⟨hE2.1.trans (by first | (exfalso; omega) | rw [fkN, if_neg (by first | (intro h9; exact h9.1 (by omega)) | (intro h9; exact absurd (h9.2.symm.trans (by assumption)) (by decide)))]), hE2.2.trans (by first | (exfalso; omega) | rw [fkR, if_neg (by first | (intro h9; exact h9.1 (by omega)) | (intro h9; exact absurd (h9.2.symm.trans (by assumption)) (by decide)))])⟩ hP hD hS hl
                    · skip
                      rw [nI_leI (by omega) (by omega)] at c_6
                      refine lv_aload_n hx hb d_Mo_isShown_126 rfl (lv_at hl 0 rfl) ?_
                      refine va_get (D := (dC, dI)) (ci := 5) (v := .ref mr) (C := "LongNamesModel") (T := F_Mo) (N := 5) hx hb hts (iw_Mo _) hown hK hP 0 rfl rfl 4 (by decide) (hts _ (List.mem_cons_of_mem _ k_526)) (fun _ h9 => h9) rfl d_Mo_isShown_127 ?_
                      refine lv_bipush (v := nI 7) hx hb d_Mo_isShown_130 (by decide) ?_
                      refine lv_iload hx hb d_Mo_isShown_132 (lv_at hl 4 rfl) ?_
                      refine lv_iadd hx hb d_Mo_isShown_134 ?_
                      refine mk_ti (y := nI (7 + i2)) (nI_add 7 i2) ?_
                      refine lv_iload_n hx hb d_Mo_isShown_135 rfl (lv_at hl 3 rfl) ?_
                      refine lv_isub hx hb d_Mo_isShown_136 ?_
                      refine mk_ti (y := nI (7 + i2 - (fpN (rv U r) (Z r) 0))) (pk_sub (by omega)) ?_
                      refine lv_aload_n hx hb d_Mo_isShown_137 rfl (lv_at hl 0 rfl) ?_
                      refine lv_iload_n hx hb d_Mo_isShown_138 rfl (lv_at hl 1 rfl) ?_
                      refine lv_iload hx hb d_Mo_isShown_139 (lv_at hl 4 rfl) ?_
                      refine mk_r1 (W.runV (As := [.int (nI r), .int (nI i2)]) (rest := [.int (nI (7 + i2 - (fpN (rv U r) (Z r) 0))), .ref mr]) S (c_Mo_at l dC dI cI m0 th mu mz mb mr U r i2 (by first | assumption | omega) (by first | assumption | omega)) (gV 2 hts k_562 k_564 k_14 k_29 k_565 (by decide +kernel) ⟨Nat.le_of_ble_eq_true rfl, Nat.le_of_ble_eq_true rfl⟩) (mk_vR hP hK hT hS [0, 1] rfl (q0 := 0) (ci := 5) rfl rfl) rfl rfl hl.1 rfl (lv_room (Nat.le_of_ble_eq_true rfl)) d_Mo_isShown_141 ⟨Nat.zero_le _, Nat.zero_le _⟩) ?_
                      have b_7 := (show rv U r i2 < 65536 from rv_lt (show ∀ j9, U j9 < 65536 by assumption) i2)
                      refine va_iast hx hb hK hP hD hS 3 0 rfl rfl (vp_in_nI (N := 11) (show 7 + i2 - (fpN (rv U r) (Z r) 0) < 11 by omega) (by decide)) d_Mo_isShown_144 (fun H locs hP hD hS => ?_)
                      rw [nI_clamp (by omega), nf_up] at hP hD
                      have hP : va_P (dC, dI) vwCl [(m0, .inr (5, [.int th, .ref mu, .ref mz, .ref mb, .ref mr])), (mu, .inl (cI, 510, .inl (nf U))), (mz, .inl (cI, 2, .inl (nf Z))), (mr, .inl (cI, 11, .inl (nf (uN (sbL (rv U r) (fpN (rv U r) (Z r) 0) (fiN b 32 11) i2) (7 + i2 - (fpN (rv U r) (Z r) 0)) (rv U r i2)))))] H := hP
                      have hD : va_D A [(m0, .inr (5, [.int th, .ref mu, .ref mz, .ref mb, .ref mr])), (mu, .inl (cI, 510, .inl (nf U))), (mz, .inl (cI, 2, .inl (nf Z))), (mr, .inl (cI, 11, .inl (nf (uN (sbL (rv U r) (fpN (rv U r) (Z r) 0) (fiN b 32 11) i2) (7 + i2 - (fpN (rv U r) (Z r) 0)) (rv U r i2)))))] := hD
                      refine lv_iinc (v := nI (i2 + 1)) (lv' := [(4, .int (nI (i2 + 1))), (0, .ref m0), (1, .int (nI r)), (2, .int (nI (Z r))), (3, .int (nI (fpN (rv U r) (Z r) 0)))]) hx hb d_Mo_isShown_145 hl (k := 4) rfl (mk_i1 i2) (by decide) rfl (fun ls hl => ?_)
                      refine lv_goto (tgt := 73) hx hb d_Mo_isShown_148 (by decide) ?_
                      have hl : lv_has ls 5 [(0, .ref m0), (1, .int (nI r)), (2, .int (nI (Z r))), (3, .int (nI (fpN (rv U r) (Z r) 0))), (4, .int (nI (i2 + 1)))] := lv_sub hl [1, 2, 3, 4, 0] rfl
                      have hw9 : ([(m0, .inr (5, [.int th, .ref mu, .ref mz, .ref mb, .ref mr])), (mu, .inl (cI, 510, .inl (nf U))), (mz, .inl (cI, 2, .inl (nf Z))), (mr, .inl (cI, 11, .inl (nf (uN (sbL (rv U r) (fpN (rv U r) (Z r) 0) (fiN b 32 11) i2) (7 + i2 - (fpN (rv U r) (Z r) 0)) (rv U r i2)))))] : va_W) = [(m0, .inr (5, [.int th, .ref mu, .ref mz, .ref mb, .ref mr])), (mu, .inl (cI, 510, .inl (nf U))), (mz, .inl (cI, 2, .inl (nf Z))), (mr, .inl (cI, 11, .inl (nf (sbL (rv U r) (fpN (rv U r) (Z r) 0) (fiN b 32 11) (i2 + 1)))))] := by first | (exfalso; omega) | rw [sbL, sbN]; first | rw [if_pos (by omega)] | rw [if_neg (by omega), if_pos (by omega)] | rw [if_neg (by omega), if_neg (by omega)]
                      rw [hw9] at hP hD
                      exact ih73 (i2 + 1) _ _ _ (by omega) ⟨hE2.1.trans (by first | (exfalso; omega) | rw [fkN, if_neg (by first | (intro h9; exact h9.1 (by omega)) | (intro h9; exact absurd (h9.2.symm.trans (by assumption)) (by decide)))]), hE2.2.trans (by first | (exfalso; omega) | rw [fkR, if_neg (by first | (intro h9; exact h9.1 (by omega)) | (intro h9; exact absurd (h9.2.symm.trans (by assumption)) (by decide)))])⟩ hP hD hS hl
                  · skip
                    rw [nI_leI (by omega) (by omega)] at c_5
                    refine lv_aload_n hx hb d_Mo_isShown_106 rfl (lv_at hl 0 rfl) ?_
                    refine va_get (D := (dC, dI)) (ci := 5) (v := .ref mr) (C := "LongNamesModel") (T := F_Mo) (N := 5) hx hb hts (iw_Mo _) hown hK hP 0 rfl rfl 4 (by decide) (hts _ (List.mem_cons_of_mem _ k_526)) (fun _ h9 => h9) rfl d_Mo_isShown_107 ?_
                    refine lv_iload hx hb d_Mo_isShown_110 (lv_at hl 4 rfl) ?_
                    refine lv_aload_n hx hb d_Mo_isShown_112 rfl (lv_at hl 0 rfl) ?_
                    refine lv_iload_n hx hb d_Mo_isShown_113 rfl (lv_at hl 1 rfl) ?_
                    refine lv_iload hx hb d_Mo_isShown_114 (lv_at hl 4 rfl) ?_
                    refine mk_r1 (W.runV (As := [.int (nI r), .int (nI i2)]) (rest := [.int (nI i2), .ref mr]) S (c_Mo_at l dC dI cI m0 th mu mz mb mr U r i2 (by first | assumption | omega) (by first | assumption | omega)) (gV 2 hts k_562 k_564 k_14 k_29 k_565 (by decide +kernel) ⟨Nat.le_of_ble_eq_true rfl, Nat.le_of_ble_eq_true rfl⟩) (mk_vR hP hK hT hS [0, 1] rfl (q0 := 0) (ci := 5) rfl rfl) rfl rfl hl.1 rfl (lv_room (Nat.le_of_ble_eq_true rfl)) d_Mo_isShown_116 ⟨Nat.zero_le _, Nat.zero_le _⟩) ?_
                    have b_8 := (show rv U r i2 < 65536 from rv_lt (show ∀ j9, U j9 < 65536 by assumption) i2)
                    refine va_iast hx hb hK hP hD hS 3 0 rfl rfl (vp_in_nI (N := 11) (show i2 < 11 by omega) (by decide)) d_Mo_isShown_119 (fun H locs hP hD hS => ?_)
                    rw [nI_clamp (by omega), nf_up] at hP hD
                    have hP : va_P (dC, dI) vwCl [(m0, .inr (5, [.int th, .ref mu, .ref mz, .ref mb, .ref mr])), (mu, .inl (cI, 510, .inl (nf U))), (mz, .inl (cI, 2, .inl (nf Z))), (mr, .inl (cI, 11, .inl (nf (uN (sbL (rv U r) (fpN (rv U r) (Z r) 0) (fiN b 32 11) i2) i2 (rv U r i2)))))] H := hP
                    have hD : va_D A [(m0, .inr (5, [.int th, .ref mu, .ref mz, .ref mb, .ref mr])), (mu, .inl (cI, 510, .inl (nf U))), (mz, .inl (cI, 2, .inl (nf Z))), (mr, .inl (cI, 11, .inl (nf (uN (sbL (rv U r) (fpN (rv U r) (Z r) 0) (fiN b 32 11) i2) i2 (rv U r i2)))))] := hD
                    refine lv_iload hx hb d_Mo_isShown_120 (lv_at hl 4 rfl) ?_
                    refine lv_iload_n hx hb d_Mo_isShown_122 rfl (lv_at hl 3 rfl) ?_
                    refine lv_icmp_le (tgt := 145) hx hb d_Mo_isShown_123 (by decide) (fun c_9 => ?_) (fun c_9 => ?_)
                    · skip
                      rw [nI_leI (by omega) (by omega)] at c_9
                      refine lv_iinc (v := nI (i2 + 1)) (lv' := [(4, .int (nI (i2 + 1))), (0, .ref m0), (1, .int (nI r)), (2, .int (nI (Z r))), (3, .int (nI (fpN (rv U r) (Z r) 0)))]) hx hb d_Mo_isShown_145 hl (k := 4) rfl (mk_i1 i2) (by decide) rfl (fun ls hl => ?_)
                      refine lv_goto (tgt := 73) hx hb d_Mo_isShown_148 (by decide) ?_
                      have hl : lv_has ls 5 [(0, .ref m0), (1, .int (nI r)), (2, .int (nI (Z r))), (3, .int (nI (fpN (rv U r) (Z r) 0))), (4, .int (nI (i2 + 1)))] := lv_sub hl [1, 2, 3, 4, 0] rfl
                      have hw9 : ([(m0, .inr (5, [.int th, .ref mu, .ref mz, .ref mb, .ref mr])), (mu, .inl (cI, 510, .inl (nf U))), (mz, .inl (cI, 2, .inl (nf Z))), (mr, .inl (cI, 11, .inl (nf (uN (sbL (rv U r) (fpN (rv U r) (Z r) 0) (fiN b 32 11) i2) i2 (rv U r i2)))))] : va_W) = [(m0, .inr (5, [.int th, .ref mu, .ref mz, .ref mb, .ref mr])), (mu, .inl (cI, 510, .inl (nf U))), (mz, .inl (cI, 2, .inl (nf Z))), (mr, .inl (cI, 11, .inl (nf (sbL (rv U r) (fpN (rv U r) (Z r) 0) (fiN b 32 11) (i2 + 1)))))] := by first | (exfalso; omega) | rw [sbL, sbN]; first | rw [if_pos (by omega)] | rw [if_neg (by omega), if_pos (by omega)] | rw [if_neg (by omega), if_neg (by omega)]
                      rw [hw9] at hP hD
                      exact ih73 (i2 + 1) _ _ _ (by omega) ⟨hE2.1.trans (by first | (exfalso; omega) | rw [fkN, if_neg (by first | (intro h9; exact h9.1 (by omega)) | (intro h9; exact absurd (h9.2.symm.trans (by assumption)) (by decide)))]), hE2.2.trans (by first | (exfalso; omega) | rw [fkR, if_neg (by first | (intro h9; exact h9.1 (by omega)) | (intro h9; exact absurd (h9.2.symm.trans (by assumption)) (by decide)))])⟩ hP hD hS hl
                    · skip
                      rw [nI_leI (by omega) (by omega)] at c_9
                      refine lv_aload_n hx hb d_Mo_isShown_126 rfl (lv_at hl 0 rfl) ?_
                      refine va_get (D := (dC, dI)) (ci := 5) (v := .ref mr) (C := "LongNamesModel") (T := F_Mo) (N := 5) hx hb hts (iw_Mo _) hown hK hP 0 rfl rfl 4 (by decide) (hts _ (List.mem_cons_of_mem _ k_526)) (fun _ h9 => h9) rfl d_Mo_isShown_127 ?_
                      refine lv_bipush (v := nI 7) hx hb d_Mo_isShown_130 (by decide) ?_
                      refine lv_iload hx hb d_Mo_isShown_132 (lv_at hl 4 rfl) ?_
                      refine lv_iadd hx hb d_Mo_isShown_134 ?_
                      refine mk_ti (y := nI (7 + i2)) (nI_add 7 i2) ?_
                      refine lv_iload_n hx hb d_Mo_isShown_135 rfl (lv_at hl 3 rfl) ?_
                      refine lv_isub hx hb d_Mo_isShown_136 ?_
                      refine mk_ti (y := nI (7 + i2 - (fpN (rv U r) (Z r) 0))) (pk_sub (by omega)) ?_
                      refine lv_aload_n hx hb d_Mo_isShown_137 rfl (lv_at hl 0 rfl) ?_
                      refine lv_iload_n hx hb d_Mo_isShown_138 rfl (lv_at hl 1 rfl) ?_
                      refine lv_iload hx hb d_Mo_isShown_139 (lv_at hl 4 rfl) ?_
                      refine mk_r1 (W.runV (As := [.int (nI r), .int (nI i2)]) (rest := [.int (nI (7 + i2 - (fpN (rv U r) (Z r) 0))), .ref mr]) S (c_Mo_at l dC dI cI m0 th mu mz mb mr U r i2 (by first | assumption | omega) (by first | assumption | omega)) (gV 2 hts k_562 k_564 k_14 k_29 k_565 (by decide +kernel) ⟨Nat.le_of_ble_eq_true rfl, Nat.le_of_ble_eq_true rfl⟩) (mk_vR hP hK hT hS [0, 1] rfl (q0 := 0) (ci := 5) rfl rfl) rfl rfl hl.1 rfl (lv_room (Nat.le_of_ble_eq_true rfl)) d_Mo_isShown_141 ⟨Nat.zero_le _, Nat.zero_le _⟩) ?_
                      have b_10 := (show rv U r i2 < 65536 from rv_lt (show ∀ j9, U j9 < 65536 by assumption) i2)
                      refine va_iast hx hb hK hP hD hS 3 0 rfl rfl (vp_in_nI (N := 11) (show 7 + i2 - (fpN (rv U r) (Z r) 0) < 11 by omega) (by decide)) d_Mo_isShown_144 (fun H locs hP hD hS => ?_)
                      rw [nI_clamp (by omega), nf_up] at hP hD
                      have hP : va_P (dC, dI) vwCl [(m0, .inr (5, [.int th, .ref mu, .ref mz, .ref mb, .ref mr])), (mu, .inl (cI, 510, .inl (nf U))), (mz, .inl (cI, 2, .inl (nf Z))), (mr, .inl (cI, 11, .inl (nf (uN (uN (sbL (rv U r) (fpN (rv U r) (Z r) 0) (fiN b 32 11) i2) i2 (rv U r i2)) (7 + i2 - (fpN (rv U r) (Z r) 0)) (rv U r i2)))))] H := hP
                      have hD : va_D A [(m0, .inr (5, [.int th, .ref mu, .ref mz, .ref mb, .ref mr])), (mu, .inl (cI, 510, .inl (nf U))), (mz, .inl (cI, 2, .inl (nf Z))), (mr, .inl (cI, 11, .inl (nf (uN (uN (sbL (rv U r) (fpN (rv U r) (Z r) 0) (fiN b 32 11) i2) i2 (rv U r i2)) (7 + i2 - (fpN (rv U r) (Z r) 0)) (rv U r i2)))))] := hD
                      refine lv_iinc (v := nI (i2 + 1)) (lv' := [(4, .int (nI (i2 + 1))), (0, .ref m0), (1, .int (nI r)), (2, .int (nI (Z r))), (3, .int (nI (fpN (rv U r) (Z r) 0)))]) hx hb d_Mo_isShown_145 hl (k := 4) rfl (mk_i1 i2) (by decide) rfl (fun ls hl => ?_)
                      refine lv_goto (tgt := 73) hx hb d_Mo_isShown_148 (by decide) ?_
                      have hl : lv_has ls 5 [(0, .ref m0), (1, .int (nI r)), (2, .int (nI (Z r))), (3, .int (nI (fpN (rv U r) (Z r) 0))), (4, .int (nI (i2 + 1)))] := lv_sub hl [1, 2, 3, 4, 0] rfl
                      have hw9 : ([(m0, .inr (5, [.int th, .ref mu, .ref mz, .ref mb, .ref mr])), (mu, .inl (cI, 510, .inl (nf U))), (mz, .inl (cI, 2, .inl (nf Z))), (mr, .inl (cI, 11, .inl (nf (uN (uN (sbL (rv U r) (fpN (rv U r) (Z r) 0) (fiN b 32 11) i2) i2 (rv U r i2)) (7 + i2 - (fpN (rv U r) (Z r) 0)) (rv U r i2)))))] : va_W) = [(m0, .inr (5, [.int th, .ref mu, .ref mz, .ref mb, .ref mr])), (mu, .inl (cI, 510, .inl (nf U))), (mz, .inl (cI, 2, .inl (nf Z))), (mr, .inl (cI, 11, .inl (nf (sbL (rv U r) (fpN (rv U r) (Z r) 0) (fiN b 32 11) (i2 + 1)))))] := by first | (exfalso; omega) | rw [sbL, sbN]; first | rw [if_pos (by omega)] | rw [if_neg (by omega), if_pos (by omega)] | rw [if_neg (by omega), if_neg (by omega)]
                      rw [hw9] at hP hD
                      exact ih73 (i2 + 1) _ _ _ (by omega) ⟨hE2.1.trans (by first | (exfalso; omega) | rw [fkN, if_neg (by first | (intro h9; exact h9.1 (by omega)) | (intro h9; exact absurd (h9.2.symm.trans (by assumption)) (by decide)))]), hE2.2.trans (by first | (exfalso; omega) | rw [fkR, if_neg (by first | (intro h9; exact h9.1 (by omega)) | (intro h9; exact absurd (h9.2.symm.trans (by assumption)) (by decide)))])⟩ hP hD hS hl
                · skip
                  rw [nI_eq (by omega) (by omega)] at c_4
                  refine lv_aload_n hx hb d_Mo_isShown_85 rfl (lv_at hl 0 rfl) ?_
                  refine lv_iload_n hx hb d_Mo_isShown_86 rfl (lv_at hl 1 rfl) ?_
                  refine lv_iload hx hb d_Mo_isShown_87 (lv_at hl 4 rfl) ?_
                  refine mk_r1 (W.runV (As := [.int (nI r), .int (nI i2)]) (rest := []) S (c_Mo_at l dC dI cI m0 th mu mz mb mr U r i2 (by first | assumption | omega) (by first | assumption | omega)) (gV 2 hts k_562 k_564 k_14 k_29 k_565 (by decide +kernel) ⟨Nat.le_of_ble_eq_true rfl, Nat.le_of_ble_eq_true rfl⟩) (mk_vR hP hK hT hS [0, 1] rfl (q0 := 0) (ci := 5) rfl rfl) rfl rfl hl.1 rfl (lv_room (Nat.le_of_ble_eq_true rfl)) d_Mo_isShown_89 ⟨Nat.zero_le _, Nat.zero_le _⟩) ?_
                  have b_11 := (show rv U r i2 < 65536 from rv_lt (show ∀ j9, U j9 < 65536 by assumption) i2)
                  refine mk_r1 (W.runS (As := [.int (nI (rv U r i2))]) (rest := []) S (c_Mo_sign l dC dI cI (rv U r i2) (by first | assumption | omega)) (gS 1 hts k_580 k_581 k_29 k_582 (by decide +kernel) ⟨Nat.le_of_ble_eq_true rfl, Nat.le_of_ble_eq_true rfl⟩) (mk_sR hP hK hT hS [] rfl) rfl rfl hl.1 rfl (lv_room (Nat.le_of_ble_eq_true rfl)) d_Mo_isShown_92 ⟨Nat.zero_le _, Nat.zero_le _⟩) ?_
                  refine lv_if_ne (tgt := 100) hx hb d_Mo_isShown_95 (by decide) (fun c_12 => ?_) (fun c_12 => ?_)
                  · skip
                    have c_12 := bI_1 c_12
                    refine lv_iload hx hb d_Mo_isShown_100 (lv_at hl 4 rfl) ?_
                    refine lv_iload_n hx hb d_Mo_isShown_102 rfl (lv_at hl 3 rfl) ?_
                    refine lv_icmp_ge (tgt := 120) hx hb d_Mo_isShown_103 (by decide) (fun c_13 => ?_) (fun c_13 => ?_)
                    · skip
                      rw [nI_leI (by omega) (by omega)] at c_13
                      refine lv_iload hx hb d_Mo_isShown_120 (lv_at hl 4 rfl) ?_
                      refine lv_iload_n hx hb d_Mo_isShown_122 rfl (lv_at hl 3 rfl) ?_
                      refine lv_icmp_le (tgt := 145) hx hb d_Mo_isShown_123 (by decide) (fun c_14 => ?_) (fun c_14 => ?_)
                      · skip
                        rw [nI_leI (by omega) (by omega)] at c_14
                        refine lv_iinc (v := nI (i2 + 1)) (lv' := [(4, .int (nI (i2 + 1))), (0, .ref m0), (1, .int (nI r)), (2, .int (nI (Z r))), (3, .int (nI (fpN (rv U r) (Z r) 0)))]) hx hb d_Mo_isShown_145 hl (k := 4) rfl (mk_i1 i2) (by decide) rfl (fun ls hl => ?_)
                        refine lv_goto (tgt := 73) hx hb d_Mo_isShown_148 (by decide) ?_
                        have hl : lv_has ls 5 [(0, .ref m0), (1, .int (nI r)), (2, .int (nI (Z r))), (3, .int (nI (fpN (rv U r) (Z r) 0))), (4, .int (nI (i2 + 1)))] := lv_sub hl [1, 2, 3, 4, 0] rfl
                        have hw9 : ([(m0, .inr (5, [.int th, .ref mu, .ref mz, .ref mb, .ref mr])), (mu, .inl (cI, 510, .inl (nf U))), (mz, .inl (cI, 2, .inl (nf Z))), (mr, .inl (cI, 11, .inl (nf (sbL (rv U r) (fpN (rv U r) (Z r) 0) (fiN b 32 11) i2))))] : va_W) = [(m0, .inr (5, [.int th, .ref mu, .ref mz, .ref mb, .ref mr])), (mu, .inl (cI, 510, .inl (nf U))), (mz, .inl (cI, 2, .inl (nf Z))), (mr, .inl (cI, 11, .inl (nf (sbL (rv U r) (fpN (rv U r) (Z r) 0) (fiN b 32 11) (i2 + 1)))))] := by first | (exfalso; omega) | rw [sbL, sbN]; first | rw [if_pos (by omega)] | rw [if_neg (by omega), if_pos (by omega)] | rw [if_neg (by omega), if_neg (by omega)]
                        rw [hw9] at hP hD
                        exact ih73 (i2 + 1) _ _ _ (by omega) ⟨hE2.1.trans (by first | (exfalso; omega) | rw [fkN, if_neg (by first | (intro h9; exact h9.1 (by omega)) | (intro h9; exact absurd (h9.2.symm.trans (by assumption)) (by decide)))]), hE2.2.trans (by first | (exfalso; omega) | rw [fkR, if_neg (by first | (intro h9; exact h9.1 (by omega)) | (intro h9; exact absurd (h9.2.symm.trans (by assumption)) (by decide)))])⟩ hP hD hS hl
                      · skip
                        rw [nI_leI (by omega) (by omega)] at c_14
                        refine lv_aload_n hx hb d_Mo_isShown_126 rfl (lv_at hl 0 rfl) ?_
                        refine va_get (D := (dC, dI)) (ci := 5) (v := .ref mr) (C := "LongNamesModel") (T := F_Mo) (N := 5) hx hb hts (iw_Mo _) hown hK hP 0 rfl rfl 4 (by decide) (hts _ (List.mem_cons_of_mem _ k_526)) (fun _ h9 => h9) rfl d_Mo_isShown_127 ?_
                        refine lv_bipush (v := nI 7) hx hb d_Mo_isShown_130 (by decide) ?_
                        refine lv_iload hx hb d_Mo_isShown_132 (lv_at hl 4 rfl) ?_
                        refine lv_iadd hx hb d_Mo_isShown_134 ?_
                        refine mk_ti (y := nI (7 + i2)) (nI_add 7 i2) ?_
                        refine lv_iload_n hx hb d_Mo_isShown_135 rfl (lv_at hl 3 rfl) ?_
                        refine lv_isub hx hb d_Mo_isShown_136 ?_
                        refine mk_ti (y := nI (7 + i2 - (fpN (rv U r) (Z r) 0))) (pk_sub (by omega)) ?_
                        refine lv_aload_n hx hb d_Mo_isShown_137 rfl (lv_at hl 0 rfl) ?_
                        refine lv_iload_n hx hb d_Mo_isShown_138 rfl (lv_at hl 1 rfl) ?_
                        refine lv_iload hx hb d_Mo_isShown_139 (lv_at hl 4 rfl) ?_
                        refine mk_r1 (W.runV (As := [.int (nI r), .int (nI i2)]) (rest := [.int (nI (7 + i2 - (fpN (rv U r) (Z r) 0))), .ref mr]) S (c_Mo_at l dC dI cI m0 th mu mz mb mr U r i2 (by first | assumption | omega) (by first | assumption | omega)) (gV 2 hts k_562 k_564 k_14 k_29 k_565 (by decide +kernel) ⟨Nat.le_of_ble_eq_true rfl, Nat.le_of_ble_eq_true rfl⟩) (mk_vR hP hK hT hS [0, 1] rfl (q0 := 0) (ci := 5) rfl rfl) rfl rfl hl.1 rfl (lv_room (Nat.le_of_ble_eq_true rfl)) d_Mo_isShown_141 ⟨Nat.zero_le _, Nat.zero_le _⟩) ?_
                        have b_15 := (show rv U r i2 < 65536 from rv_lt (show ∀ j9, U j9 < 65536 by assumption) i2)
                        refine va_iast hx hb hK hP hD hS 3 0 rfl rfl (vp_in_nI (N := 11) (show 7 + i2 - (fpN (rv U r) (Z r) 0) < 11 by omega) (by decide)) d_Mo_isShown_144 (fun H locs hP hD hS => ?_)
                        rw [nI_clamp (by omega), nf_up] at hP hD
                        have hP : va_P (dC, dI) vwCl [(m0, .inr (5, [.int th, .ref mu, .ref mz, .ref mb, .ref mr])), (mu, .inl (cI, 510, .inl (nf U))), (mz, .inl (cI, 2, .inl (nf Z))), (mr, .inl (cI, 11, .inl (nf (uN (sbL (rv U r) (fpN (rv U r) (Z r) 0) (fiN b 32 11) i2) (7 + i2 - (fpN (rv U r) (Z r) 0)) (rv U r i2)))))] H := hP
                        have hD : va_D A [(m0, .inr (5, [.int th, .ref mu, .ref mz, .ref mb, .ref mr])), (mu, .inl (cI, 510, .inl (nf U))), (mz, .inl (cI, 2, .inl (nf Z))), (mr, .inl (cI, 11, .inl (nf (uN (sbL (rv U r) (fpN (rv U r) (Z r) 0) (fiN b 32 11) i2) (7 + i2 - (fpN (rv U r) (Z r) 0)) (rv U r i2)))))] := hD
                        refine lv_iinc (v := nI (i2 + 1)) (lv' := [(4, .int (nI (i2 + 1))), (0, .ref m0), (1, .int (nI r)), (2, .int (nI (Z r))), (3, .int (nI (fpN (rv U r) (Z r) 0)))]) hx hb d_Mo_isShown_145 hl (k := 4) rfl (mk_i1 i2) (by decide) rfl (fun ls hl => ?_)
                        refine lv_goto (tgt := 73) hx hb d_Mo_isShown_148 (by decide) ?_
                        have hl : lv_has ls 5 [(0, .ref m0), (1, .int (nI r)), (2, .int (nI (Z r))), (3, .int (nI (fpN (rv U r) (Z r) 0))), (4, .int (nI (i2 + 1)))] := lv_sub hl [1, 2, 3, 4, 0] rfl
                        have hw9 : ([(m0, .inr (5, [.int th, .ref mu, .ref mz, .ref mb, .ref mr])), (mu, .inl (cI, 510, .inl (nf U))), (mz, .inl (cI, 2, .inl (nf Z))), (mr, .inl (cI, 11, .inl (nf (uN (sbL (rv U r) (fpN (rv U r) (Z r) 0) (fiN b 32 11) i2) (7 + i2 - (fpN (rv U r) (Z r) 0)) (rv U r i2)))))] : va_W) = [(m0, .inr (5, [.int th, .ref mu, .ref mz, .ref mb, .ref mr])), (mu, .inl (cI, 510, .inl (nf U))), (mz, .inl (cI, 2, .inl (nf Z))), (mr, .inl (cI, 11, .inl (nf (sbL (rv U r) (fpN (rv U r) (Z r) 0) (fiN b 32 11) (i2 + 1)))))] := by first | (exfalso; omega) | rw [sbL, sbN]; first | rw [if_pos (by omega)] | rw [if_neg (by omega), if_pos (by omega)] | rw [if_neg (by omega), if_neg (by omega)]
                        rw [hw9] at hP hD
                        exact ih73 (i2 + 1) _ _ _ (by omega) ⟨hE2.1.trans (by first | (exfalso; omega) | rw [fkN, if_neg (by first | (intro h9; exact h9.1 (by omega)) | (intro h9; exact absurd (h9.2.symm.trans (by assumption)) (by decide)))]), hE2.2.trans (by first | (exfalso; omega) | rw [fkR, if_neg (by first | (intro h9; exact h9.1 (by omega)) | (intro h9; exact absurd (h9.2.symm.trans (by assumption)) (by decide)))])⟩ hP hD hS hl
                    · skip
                      rw [nI_leI (by omega) (by omega)] at c_13
                      refine lv_aload_n hx hb d_Mo_isShown_106 rfl (lv_at hl 0 rfl) ?_
                      refine va_get (D := (dC, dI)) (ci := 5) (v := .ref mr) (C := "LongNamesModel") (T := F_Mo) (N := 5) hx hb hts (iw_Mo _) hown hK hP 0 rfl rfl 4 (by decide) (hts _ (List.mem_cons_of_mem _ k_526)) (fun _ h9 => h9) rfl d_Mo_isShown_107 ?_
                      refine lv_iload hx hb d_Mo_isShown_110 (lv_at hl 4 rfl) ?_
                      refine lv_aload_n hx hb d_Mo_isShown_112 rfl (lv_at hl 0 rfl) ?_
                      refine lv_iload_n hx hb d_Mo_isShown_113 rfl (lv_at hl 1 rfl) ?_
                      refine lv_iload hx hb d_Mo_isShown_114 (lv_at hl 4 rfl) ?_
                      refine mk_r1 (W.runV (As := [.int (nI r), .int (nI i2)]) (rest := [.int (nI i2), .ref mr]) S (c_Mo_at l dC dI cI m0 th mu mz mb mr U r i2 (by first | assumption | omega) (by first | assumption | omega)) (gV 2 hts k_562 k_564 k_14 k_29 k_565 (by decide +kernel) ⟨Nat.le_of_ble_eq_true rfl, Nat.le_of_ble_eq_true rfl⟩) (mk_vR hP hK hT hS [0, 1] rfl (q0 := 0) (ci := 5) rfl rfl) rfl rfl hl.1 rfl (lv_room (Nat.le_of_ble_eq_true rfl)) d_Mo_isShown_116 ⟨Nat.zero_le _, Nat.zero_le _⟩) ?_
                      have b_16 := (show rv U r i2 < 65536 from rv_lt (show ∀ j9, U j9 < 65536 by assumption) i2)
                      refine va_iast hx hb hK hP hD hS 3 0 rfl rfl (vp_in_nI (N := 11) (show i2 < 11 by omega) (by decide)) d_Mo_isShown_119 (fun H locs hP hD hS => ?_)
                      rw [nI_clamp (by omega), nf_up] at hP hD
                      have hP : va_P (dC, dI) vwCl [(m0, .inr (5, [.int th, .ref mu, .ref mz, .ref mb, .ref mr])), (mu, .inl (cI, 510, .inl (nf U))), (mz, .inl (cI, 2, .inl (nf Z))), (mr, .inl (cI, 11, .inl (nf (uN (sbL (rv U r) (fpN (rv U r) (Z r) 0) (fiN b 32 11) i2) i2 (rv U r i2)))))] H := hP
                      have hD : va_D A [(m0, .inr (5, [.int th, .ref mu, .ref mz, .ref mb, .ref mr])), (mu, .inl (cI, 510, .inl (nf U))), (mz, .inl (cI, 2, .inl (nf Z))), (mr, .inl (cI, 11, .inl (nf (uN (sbL (rv U r) (fpN (rv U r) (Z r) 0) (fiN b 32 11) i2) i2 (rv U r i2)))))] := hD
                      refine lv_iload hx hb d_Mo_isShown_120 (lv_at hl 4 rfl) ?_
                      refine lv_iload_n hx hb d_Mo_isShown_122 rfl (lv_at hl 3 rfl) ?_
                      refine lv_icmp_le (tgt := 145) hx hb d_Mo_isShown_123 (by decide) (fun c_17 => ?_) (fun c_17 => ?_)
                      · skip
                        rw [nI_leI (by omega) (by omega)] at c_17
                        refine lv_iinc (v := nI (i2 + 1)) (lv' := [(4, .int (nI (i2 + 1))), (0, .ref m0), (1, .int (nI r)), (2, .int (nI (Z r))), (3, .int (nI (fpN (rv U r) (Z r) 0)))]) hx hb d_Mo_isShown_145 hl (k := 4) rfl (mk_i1 i2) (by decide) rfl (fun ls hl => ?_)
                        refine lv_goto (tgt := 73) hx hb d_Mo_isShown_148 (by decide) ?_
                        have hl : lv_has ls 5 [(0, .ref m0), (1, .int (nI r)), (2, .int (nI (Z r))), (3, .int (nI (fpN (rv U r) (Z r) 0))), (4, .int (nI (i2 + 1)))] := lv_sub hl [1, 2, 3, 4, 0] rfl
                        have hw9 : ([(m0, .inr (5, [.int th, .ref mu, .ref mz, .ref mb, .ref mr])), (mu, .inl (cI, 510, .inl (nf U))), (mz, .inl (cI, 2, .inl (nf Z))), (mr, .inl (cI, 11, .inl (nf (uN (sbL (rv U r) (fpN (rv U r) (Z r) 0) (fiN b 32 11) i2) i2 (rv U r i2)))))] : va_W) = [(m0, .inr (5, [.int th, .ref mu, .ref mz, .ref mb, .ref mr])), (mu, .inl (cI, 510, .inl (nf U))), (mz, .inl (cI, 2, .inl (nf Z))), (mr, .inl (cI, 11, .inl (nf (sbL (rv U r) (fpN (rv U r) (Z r) 0) (fiN b 32 11) (i2 + 1)))))] := by first | (exfalso; omega) | rw [sbL, sbN]; first | rw [if_pos (by omega)] | rw [if_neg (by omega), if_pos (by omega)] | rw [if_neg (by omega), if_neg (by omega)]
                        rw [hw9] at hP hD
                        exact ih73 (i2 + 1) _ _ _ (by omega) ⟨hE2.1.trans (by first | (exfalso; omega) | rw [fkN, if_neg (by first | (intro h9; exact h9.1 (by omega)) | (intro h9; exact absurd (h9.2.symm.trans (by assumption)) (by decide)))]), hE2.2.trans (by first | (exfalso; omega) | rw [fkR, if_neg (by first | (intro h9; exact h9.1 (by omega)) | (intro h9; exact absurd (h9.2.symm.trans (by assumption)) (by decide)))])⟩ hP hD hS hl
                      · skip
                        rw [nI_leI (by omega) (by omega)] at c_17
                        refine lv_aload_n hx hb d_Mo_isShown_126 rfl (lv_at hl 0 rfl) ?_
                        refine va_get (D := (dC, dI)) (ci := 5) (v := .ref mr) (C := "LongNamesModel") (T := F_Mo) (N := 5) hx hb hts (iw_Mo _) hown hK hP 0 rfl rfl 4 (by decide) (hts _ (List.mem_cons_of_mem _ k_526)) (fun _ h9 => h9) rfl d_Mo_isShown_127 ?_
                        refine lv_bipush (v := nI 7) hx hb d_Mo_isShown_130 (by decide) ?_
                        refine lv_iload hx hb d_Mo_isShown_132 (lv_at hl 4 rfl) ?_
                        refine lv_iadd hx hb d_Mo_isShown_134 ?_
                        refine mk_ti (y := nI (7 + i2)) (nI_add 7 i2) ?_
                        refine lv_iload_n hx hb d_Mo_isShown_135 rfl (lv_at hl 3 rfl) ?_
                        refine lv_isub hx hb d_Mo_isShown_136 ?_
                        refine mk_ti (y := nI (7 + i2 - (fpN (rv U r) (Z r) 0))) (pk_sub (by omega)) ?_
                        refine lv_aload_n hx hb d_Mo_isShown_137 rfl (lv_at hl 0 rfl) ?_
                        refine lv_iload_n hx hb d_Mo_isShown_138 rfl (lv_at hl 1 rfl) ?_
                        refine lv_iload hx hb d_Mo_isShown_139 (lv_at hl 4 rfl) ?_
                        refine mk_r1 (W.runV (As := [.int (nI r), .int (nI i2)]) (rest := [.int (nI (7 + i2 - (fpN (rv U r) (Z r) 0))), .ref mr]) S (c_Mo_at l dC dI cI m0 th mu mz mb mr U r i2 (by first | assumption | omega) (by first | assumption | omega)) (gV 2 hts k_562 k_564 k_14 k_29 k_565 (by decide +kernel) ⟨Nat.le_of_ble_eq_true rfl, Nat.le_of_ble_eq_true rfl⟩) (mk_vR hP hK hT hS [0, 1] rfl (q0 := 0) (ci := 5) rfl rfl) rfl rfl hl.1 rfl (lv_room (Nat.le_of_ble_eq_true rfl)) d_Mo_isShown_141 ⟨Nat.zero_le _, Nat.zero_le _⟩) ?_
                        have b_18 := (show rv U r i2 < 65536 from rv_lt (show ∀ j9, U j9 < 65536 by assumption) i2)
                        refine va_iast hx hb hK hP hD hS 3 0 rfl rfl (vp_in_nI (N := 11) (show 7 + i2 - (fpN (rv U r) (Z r) 0) < 11 by omega) (by decide)) d_Mo_isShown_144 (fun H locs hP hD hS => ?_)
                        rw [nI_clamp (by omega), nf_up] at hP hD
                        have hP : va_P (dC, dI) vwCl [(m0, .inr (5, [.int th, .ref mu, .ref mz, .ref mb, .ref mr])), (mu, .inl (cI, 510, .inl (nf U))), (mz, .inl (cI, 2, .inl (nf Z))), (mr, .inl (cI, 11, .inl (nf (uN (uN (sbL (rv U r) (fpN (rv U r) (Z r) 0) (fiN b 32 11) i2) i2 (rv U r i2)) (7 + i2 - (fpN (rv U r) (Z r) 0)) (rv U r i2)))))] H := hP
                        have hD : va_D A [(m0, .inr (5, [.int th, .ref mu, .ref mz, .ref mb, .ref mr])), (mu, .inl (cI, 510, .inl (nf U))), (mz, .inl (cI, 2, .inl (nf Z))), (mr, .inl (cI, 11, .inl (nf (uN (uN (sbL (rv U r) (fpN (rv U r) (Z r) 0) (fiN b 32 11) i2) i2 (rv U r i2)) (7 + i2 - (fpN (rv U r) (Z r) 0)) (rv U r i2)))))] := hD
                        refine lv_iinc (v := nI (i2 + 1)) (lv' := [(4, .int (nI (i2 + 1))), (0, .ref m0), (1, .int (nI r)), (2, .int (nI (Z r))), (3, .int (nI (fpN (rv U r) (Z r) 0)))]) hx hb d_Mo_isShown_145 hl (k := 4) rfl (mk_i1 i2) (by decide) rfl (fun ls hl => ?_)
                        refine lv_goto (tgt := 73) hx hb d_Mo_isShown_148 (by decide) ?_
                        have hl : lv_has ls 5 [(0, .ref m0), (1, .int (nI r)), (2, .int (nI (Z r))), (3, .int (nI (fpN (rv U r) (Z r) 0))), (4, .int (nI (i2 + 1)))] := lv_sub hl [1, 2, 3, 4, 0] rfl
                        have hw9 : ([(m0, .inr (5, [.int th, .ref mu, .ref mz, .ref mb, .ref mr])), (mu, .inl (cI, 510, .inl (nf U))), (mz, .inl (cI, 2, .inl (nf Z))), (mr, .inl (cI, 11, .inl (nf (uN (uN (sbL (rv U r) (fpN (rv U r) (Z r) 0) (fiN b 32 11) i2) i2 (rv U r i2)) (7 + i2 - (fpN (rv U r) (Z r) 0)) (rv U r i2)))))] : va_W) = [(m0, .inr (5, [.int th, .ref mu, .ref mz, .ref mb, .ref mr])), (mu, .inl (cI, 510, .inl (nf U))), (mz, .inl (cI, 2, .inl (nf Z))), (mr, .inl (cI, 11, .inl (nf (sbL (rv U r) (fpN (rv U r) (Z r) 0) (fiN b 32 11) (i2 + 1)))))] := by first | (exfalso; omega) | rw [sbL, sbN]; first | rw [if_pos (by omega)] | rw [if_neg (by omega), if_pos (by omega)] | rw [if_neg (by omega), if_neg (by omega)]
                        rw [hw9] at hP hD
                        exact ih73 (i2 + 1) _ _ _ (by omega) ⟨hE2.1.trans (by first | (exfalso; omega) | rw [fkN, if_neg (by first | (intro h9; exact h9.1 (by omega)) | (intro h9; exact absurd (h9.2.symm.trans (by assumption)) (by decide)))]), hE2.2.trans (by first | (exfalso; omega) | rw [fkR, if_neg (by first | (intro h9; exact h9.1 (by omega)) | (intro h9; exact absurd (h9.2.symm.trans (by assumption)) (by decide)))])⟩ hP hD hS hl
                  · skip
                    have c_12 := bI_0 c_12
                    refine lv_iconst (v := nI 0) hx hb d_Mo_isShown_98 (by decide) ?_
                    have hw9 : ([(m0, .inr (5, [.int th, .ref mu, .ref mz, .ref mb, .ref mr])), (mu, .inl (cI, 510, .inl (nf U))), (mz, .inl (cI, 2, .inl (nf Z))), (mr, .inl (cI, 11, .inl (nf (sbL (rv U r) (fpN (rv U r) (Z r) 0) (fiN b 32 11) i2))))] : va_W) = [(m0, .inr (5, [.int th, .ref mu, .ref mz, .ref mb, .ref mr])), (mu, .inl (cI, 510, .inl (nf U))), (mz, .inl (cI, 2, .inl (nf Z))), (mr, .inl (cI, 11, .inl (nf (swB (rv U r) (Z r) b))))] := by rw [swB, if_pos hsp, hE2.1, fkN, if_pos ⟨by omega, by assumption⟩]
                    rw [hw9] at hP hD
                    exact mk_ti (by exact mk_bf (by rw [swR, hE2.2, fkR, if_pos ⟨by omega, by assumption⟩, Bool.and_false])) (hret _ _ _ _ d_Mo_isShown_99 hP hD hS)
          have hl : lv_has ls 5 [(0, .ref m0), (1, .int (nI r)), (2, .int (nI (Z r))), (3, .int (nI (fpN (rv U r) (Z r) 0))), (4, .int (nI 0))] := lv_sub hl [1, 2, 3, 4, 0] rfl
          have hw9 : ([(m0, .inr (5, [.int th, .ref mu, .ref mz, .ref mb, .ref mr])), (mu, .inl (cI, 510, .inl (nf U))), (mz, .inl (cI, 2, .inl (nf Z))), (mr, .inl (cI, 11, .inl (nf (fiN b 32 i))))] : va_W) = [(m0, .inr (5, [.int th, .ref mu, .ref mz, .ref mb, .ref mr])), (mu, .inl (cI, 510, .inl (nf U))), (mz, .inl (cI, 2, .inl (nf Z))), (mr, .inl (cI, 11, .inl (nf (sbL (rv U r) (fpN (rv U r) (Z r) 0) (fiN b 32 11) 0))))] := by rw [show i = 11 by omega]; rfl
          rw [hw9] at hP hD
          exact lp73 (Z r) 0 _ _ _ (by omega) ⟨rfl, rfl⟩ hP hD hS hl
        · skip
          rw [nI_leI (by omega) (by omega)] at c_1
          first | omega | contradiction
      | succ k ih48 =>
        intro i H locs ls hi hP hD hS hl
        refine lv_iload hx hb d_Mo_isShown_48 (lv_at hl 4 rfl) ?_
        refine lv_bipush (v := nI 11) hx hb d_Mo_isShown_50 (by decide) ?_
        refine lv_icmp_ge (tgt := 70) hx hb d_Mo_isShown_52 (by decide) (fun c_19 => ?_) (fun c_19 => ?_)
        · skip
          rw [nI_leI (by omega) (by omega)] at c_19
          first | omega | contradiction
        · skip
          rw [nI_leI (by omega) (by omega)] at c_19
          refine lv_aload_n hx hb d_Mo_isShown_55 rfl (lv_at hl 0 rfl) ?_
          refine va_get (D := (dC, dI)) (ci := 5) (v := .ref mr) (C := "LongNamesModel") (T := F_Mo) (N := 5) hx hb hts (iw_Mo _) hown hK hP 0 rfl rfl 4 (by decide) (hts _ (List.mem_cons_of_mem _ k_526)) (fun _ h9 => h9) rfl d_Mo_isShown_56 ?_
          refine lv_iload hx hb d_Mo_isShown_59 (lv_at hl 4 rfl) ?_
          refine lv_bipush (v := nI 32) hx hb d_Mo_isShown_61 (by decide) ?_
          refine va_iast hx hb hK hP hD hS 3 0 rfl rfl (vp_in_nI (N := 11) (show i < 11 by omega) (by decide)) d_Mo_isShown_63 (fun H locs hP hD hS => ?_)
          rw [nI_clamp (by omega), nf_up] at hP hD
          have hP : va_P (dC, dI) vwCl [(m0, .inr (5, [.int th, .ref mu, .ref mz, .ref mb, .ref mr])), (mu, .inl (cI, 510, .inl (nf U))), (mz, .inl (cI, 2, .inl (nf Z))), (mr, .inl (cI, 11, .inl (nf (uN (fiN b 32 i) i 32))))] H := hP
          have hD : va_D A [(m0, .inr (5, [.int th, .ref mu, .ref mz, .ref mb, .ref mr])), (mu, .inl (cI, 510, .inl (nf U))), (mz, .inl (cI, 2, .inl (nf Z))), (mr, .inl (cI, 11, .inl (nf (uN (fiN b 32 i) i 32))))] := hD
          refine lv_iinc (v := nI (i + 1)) (lv' := [(4, .int (nI (i + 1))), (0, .ref m0), (1, .int (nI r)), (2, .int (nI (Z r))), (3, .int (nI (fpN (rv U r) (Z r) 0)))]) hx hb d_Mo_isShown_64 hl (k := 4) rfl (mk_i1 i) (by decide) rfl (fun ls hl => ?_)
          refine lv_goto (tgt := 48) hx hb d_Mo_isShown_67 (by decide) ?_
          have hl : lv_has ls 5 [(0, .ref m0), (1, .int (nI r)), (2, .int (nI (Z r))), (3, .int (nI (fpN (rv U r) (Z r) 0))), (4, .int (nI (i + 1)))] := lv_sub hl [1, 2, 3, 4, 0] rfl
          have hw9 : ([(m0, .inr (5, [.int th, .ref mu, .ref mz, .ref mb, .ref mr])), (mu, .inl (cI, 510, .inl (nf U))), (mz, .inl (cI, 2, .inl (nf Z))), (mr, .inl (cI, 11, .inl (nf (uN (fiN b 32 i) i 32))))] : va_W) = [(m0, .inr (5, [.int th, .ref mu, .ref mz, .ref mb, .ref mr])), (mu, .inl (cI, 510, .inl (nf U))), (mz, .inl (cI, 2, .inl (nf Z))), (mr, .inl (cI, 11, .inl (nf (fiN b 32 (i + 1)))))] := by rw [fiN_s]
          rw [hw9] at hP hD
          exact ih48 (i + 1) _ _ _ (by omega) hP hD hS hl
    have hl : lv_has ls 5 [(0, .ref m0), (1, .int (nI r)), (2, .int (nI (Z r))), (3, .int (nI (fpN (rv U r) (Z r) 0))), (4, .int (nI 0))] := lv_sub hl [1, 2, 3, 4, 0] rfl
    have hw9 : ([(m0, .inr (5, [.int th, .ref mu, .ref mz, .ref mb, .ref mr])), (mu, .inl (cI, 510, .inl (nf U))), (mz, .inl (cI, 2, .inl (nf Z))), (mr, .inl (cI, 11, .inl (nf b)))] : va_W) = [(m0, .inr (5, [.int th, .ref mu, .ref mz, .ref mb, .ref mr])), (mu, .inl (cI, 510, .inl (nf U))), (mz, .inl (cI, 2, .inl (nf Z))), (mr, .inl (cI, 11, .inl (nf (fiN b 32 0))))] := by rw [fiN_0]
    rw [hw9] at hP hD
    exact lp48 11 0 _ _ _ rfl hP hD hS hl
  refine lv_iload_n hx hb d_Mo_isShown_13 rfl (lv_at hl 0 rfl) ?_
  refine lv_iconst (v := nI 1) hx hb d_Mo_isShown_14 (by decide) ?_
  refine lv_icmp_lt (tgt := 43) hx hb d_Mo_isShown_15 (by decide) (fun c_20 => ?_) (fun c_20 => ?_)
  · skip
    rw [nI_ltI (by omega) (by omega)] at c_20
    refine lv_iconst (v := nI 0) hx hb d_Mo_isShown_43 (by decide) ?_
    have hw9 : ([(m0, .inr (5, [.int th, .ref mu, .ref mz, .ref mb, .ref mr])), (mu, .inl (cI, 510, .inl (nf U))), (mz, .inl (cI, 2, .inl (nf Z))), (mr, .inl (cI, 11, .inl (nf b)))] : va_W) = [(m0, .inr (5, [.int th, .ref mu, .ref mz, .ref mb, .ref mr])), (mu, .inl (cI, 510, .inl (nf U))), (mz, .inl (cI, 2, .inl (nf Z))), (mr, .inl (cI, 11, .inl (nf (swB (rv U r) (Z r) b))))] := by rw [swB, if_neg (by rw [(show spOk (fpN (rv U r) (Z r) 0) (Z r) = false from (by simp only [spOk, decide_eq_false_iff_not]; omega))]; decide)]
    rw [hw9] at hP hD
    exact mk_ti (by exact mk_bf (by rw [swR, (show spOk (fpN (rv U r) (Z r) 0) (Z r) = false from (by simp only [spOk, decide_eq_false_iff_not]; omega))]; rfl)) (hret _ _ _ _ d_Mo_isShown_44 hP hD hS)
  · skip
    rw [nI_ltI (by omega) (by omega)] at c_20
    refine lv_iload_n hx hb d_Mo_isShown_18 rfl (lv_at hl 0 rfl) ?_
    refine lv_bipush (v := nI 8) hx hb d_Mo_isShown_19 (by decide) ?_
    refine lv_icmp_gt (tgt := 43) hx hb d_Mo_isShown_21 (by decide) (fun c_21 => ?_) (fun c_21 => ?_)
    · skip
      rw [nI_ltI (by omega) (by omega)] at c_21
      refine lv_iconst (v := nI 0) hx hb d_Mo_isShown_43 (by decide) ?_
      have hw9 : ([(m0, .inr (5, [.int th, .ref mu, .ref mz, .ref mb, .ref mr])), (mu, .inl (cI, 510, .inl (nf U))), (mz, .inl (cI, 2, .inl (nf Z))), (mr, .inl (cI, 11, .inl (nf b)))] : va_W) = [(m0, .inr (5, [.int th, .ref mu, .ref mz, .ref mb, .ref mr])), (mu, .inl (cI, 510, .inl (nf U))), (mz, .inl (cI, 2, .inl (nf Z))), (mr, .inl (cI, 11, .inl (nf (swB (rv U r) (Z r) b))))] := by rw [swB, if_neg (by rw [(show spOk (fpN (rv U r) (Z r) 0) (Z r) = false from (by simp only [spOk, decide_eq_false_iff_not]; omega))]; decide)]
      rw [hw9] at hP hD
      exact mk_ti (by exact mk_bf (by rw [swR, (show spOk (fpN (rv U r) (Z r) 0) (Z r) = false from (by simp only [spOk, decide_eq_false_iff_not]; omega))]; rfl)) (hret _ _ _ _ d_Mo_isShown_44 hP hD hS)
    · skip
      rw [nI_ltI (by omega) (by omega)] at c_21
      refine lv_iload_n hx hb d_Mo_isShown_24 rfl (lv_at hl 0 rfl) ?_
      refine lv_iload_n hx hb d_Mo_isShown_25 rfl (lv_at hl 1 rfl) ?_
      refine lv_icmp_ge (tgt := 45) hx hb d_Mo_isShown_26 (by decide) (fun c_22 => ?_) (fun c_22 => ?_)
      · skip
        rw [nI_leI (by omega) (by omega)] at c_22
        have hl : lv_has ls 5 [(0, .ref m0), (1, .int (nI r)), (2, .int (nI (Z r))), (3, .int (nI (fpN (rv U r) (Z r) 0)))] := lv_sub hl [2, 3, 1, 0] rfl
        exact jn45 _ _ _ (by simp only [spOk, decide_eq_true_eq]; omega) hP hD hS hl
      · skip
        rw [nI_leI (by omega) (by omega)] at c_22
        refine lv_iload_n hx hb d_Mo_isShown_29 rfl (lv_at hl 1 rfl) ?_
        refine lv_iload_n hx hb d_Mo_isShown_30 rfl (lv_at hl 0 rfl) ?_
        refine lv_isub hx hb d_Mo_isShown_31 ?_
        refine mk_ti (y := nI (Z r - (fpN (rv U r) (Z r) 0))) (pk_sub (by omega)) ?_
        refine lv_iconst (v := nI 2) hx hb d_Mo_isShown_32 (by decide) ?_
        refine lv_icmp_lt (tgt := 43) hx hb d_Mo_isShown_33 (by decide) (fun c_23 => ?_) (fun c_23 => ?_)
        · skip
          rw [nI_ltI (by omega) (by omega)] at c_23
          refine lv_iconst (v := nI 0) hx hb d_Mo_isShown_43 (by decide) ?_
          have hw9 : ([(m0, .inr (5, [.int th, .ref mu, .ref mz, .ref mb, .ref mr])), (mu, .inl (cI, 510, .inl (nf U))), (mz, .inl (cI, 2, .inl (nf Z))), (mr, .inl (cI, 11, .inl (nf b)))] : va_W) = [(m0, .inr (5, [.int th, .ref mu, .ref mz, .ref mb, .ref mr])), (mu, .inl (cI, 510, .inl (nf U))), (mz, .inl (cI, 2, .inl (nf Z))), (mr, .inl (cI, 11, .inl (nf (swB (rv U r) (Z r) b))))] := by rw [swB, if_neg (by rw [(show spOk (fpN (rv U r) (Z r) 0) (Z r) = false from (by simp only [spOk, decide_eq_false_iff_not]; omega))]; decide)]
          rw [hw9] at hP hD
          exact mk_ti (by exact mk_bf (by rw [swR, (show spOk (fpN (rv U r) (Z r) 0) (Z r) = false from (by simp only [spOk, decide_eq_false_iff_not]; omega))]; rfl)) (hret _ _ _ _ d_Mo_isShown_44 hP hD hS)
        · skip
          rw [nI_ltI (by omega) (by omega)] at c_23
          refine lv_iload_n hx hb d_Mo_isShown_36 rfl (lv_at hl 1 rfl) ?_
          refine lv_iload_n hx hb d_Mo_isShown_37 rfl (lv_at hl 0 rfl) ?_
          refine lv_isub hx hb d_Mo_isShown_38 ?_
          refine mk_ti (y := nI (Z r - (fpN (rv U r) (Z r) 0))) (pk_sub (by omega)) ?_
          refine lv_iconst (v := nI 4) hx hb d_Mo_isShown_39 (by decide) ?_
          refine lv_icmp_le (tgt := 45) hx hb d_Mo_isShown_40 (by decide) (fun c_24 => ?_) (fun c_24 => ?_)
          · skip
            rw [nI_leI (by omega) (by omega)] at c_24
            have hl : lv_has ls 5 [(0, .ref m0), (1, .int (nI r)), (2, .int (nI (Z r))), (3, .int (nI (fpN (rv U r) (Z r) 0)))] := lv_sub hl [2, 3, 1, 0] rfl
            exact jn45 _ _ _ (by simp only [spOk, decide_eq_true_eq]; omega) hP hD hS hl
          · skip
            rw [nI_leI (by omega) (by omega)] at c_24
            refine lv_iconst (v := nI 0) hx hb d_Mo_isShown_43 (by decide) ?_
            have hw9 : ([(m0, .inr (5, [.int th, .ref mu, .ref mz, .ref mb, .ref mr])), (mu, .inl (cI, 510, .inl (nf U))), (mz, .inl (cI, 2, .inl (nf Z))), (mr, .inl (cI, 11, .inl (nf b)))] : va_W) = [(m0, .inr (5, [.int th, .ref mu, .ref mz, .ref mb, .ref mr])), (mu, .inl (cI, 510, .inl (nf U))), (mz, .inl (cI, 2, .inl (nf Z))), (mr, .inl (cI, 11, .inl (nf (swB (rv U r) (Z r) b))))] := by rw [swB, if_neg (by rw [(show spOk (fpN (rv U r) (Z r) 0) (Z r) = false from (by simp only [spOk, decide_eq_false_iff_not]; omega))]; decide)]
            rw [hw9] at hP hD
            exact mk_ti (by exact mk_bf (by rw [swR, (show spOk (fpN (rv U r) (Z r) 0) (Z r) = false from (by simp only [spOk, decide_eq_false_iff_not]; omega))]; rfl)) (hret _ _ _ _ d_Mo_isShown_44 hP hD hS)

set_option maxHeartbeats 1000000 in
set_option maxRecDepth 100000 in
theorem c_Mo_sumOf (l : Launch) (dC : Nat → ClassId) (dI : Nat → Nat → Nat) (cI : ClassId) (m0 : Nat) (th : Int32) (mu mz mb mr : Nat) (B : Nat → Nat) (f : Nat) (hB : ∀ j, B j < 65536) (hf : f + 11 ≤ 1024) : mR l y_Mo_sumOf w_Mo_sumOf ({ frames := 0, cells := 0, slots := 0, locals := 0 } : Room) [.ref m0, .int (nI f)] (dC, dI) vwCl [(cI, .int)] [(m0, .inr (5, [.int th, .ref mu, .ref mz, .ref mb, .ref mr])), (mb, .inl (cI, 1024, .inl (nf B)))] (some (.int (nI (suN B f 11)))) := by
  refine mk_Ri (cc := b_Mo_sumOf) (maxL := 4) (by decide) rfl (Nat.le_of_ble_eq_true rfl) rfl ?_
  intro p e s m below meth c Q A ls S hP hK hT hS hl hret
  obtain ⟨hx, hb, hml, hown, hts⟩ := id S
  have hl : lv_has ls 4 [(0, .ref m0), (1, .int (nI f))] := hl
  refine lv_iconst (v := nI 0) hx hb d_Mo_sumOf_0 (by decide) ?_
  refine lv_istore_n (lv' := [(2, .int (nI 0)), (0, .ref m0), (1, .int (nI f))]) hx hb d_Mo_sumOf_1 rfl hl (by decide) rfl (fun ls hl => ?_)
  refine lv_iconst (v := nI 0) hx hb d_Mo_sumOf_2 (by decide) ?_
  refine lv_istore_n (lv' := [(3, .int (nI 0)), (2, .int (nI 0)), (0, .ref m0), (1, .int (nI f))]) hx hb d_Mo_sumOf_3 rfl hl (by decide) rfl (fun ls hl => ?_)
  have lp4 : ∀ (k : Nat) (i : Nat) (ls : Array Slot), (i + k = 11) → lv_has ls 4 [(0, .ref m0), (1, .int (nI f)), (2, .int (nI (suN B f i))), (3, .int (nI i))] → W p l e ({ frames := 0, cells := 0, slots := 0, locals := 0 } : Room) s m ([.ref m0, .int (nI f)] : List Value).toArray below meth c s.heap [] 0 0 Q (F0 m 4 ls []) := by
    intro k
    induction k with
    | zero =>
      intro i ls hi hl
      have hs9 := suN_lt B f i
      refine lv_iload_n hx hb d_Mo_sumOf_4 rfl (lv_at hl 3 rfl) ?_
      refine lv_bipush (v := nI 11) hx hb d_Mo_sumOf_5 (by decide) ?_
      refine lv_icmp_ge (tgt := 41) hx hb d_Mo_sumOf_7 (by decide) (fun c_1 => ?_) (fun c_1 => ?_)
      · skip
        rw [nI_leI (by omega) (by omega)] at c_1
        refine lv_iload_n hx hb d_Mo_sumOf_41 rfl (lv_at hl 2 rfl) ?_
        exact mk_ti (by rw [show i = 11 by omega]) (hret _ _ d_Mo_sumOf_42)
      · skip
        rw [nI_leI (by omega) (by omega)] at c_1
        first | omega | contradiction
    | succ k ih4 =>
      intro i ls hi hl
      have hs9 := suN_lt B f i
      refine lv_iload_n hx hb d_Mo_sumOf_4 rfl (lv_at hl 3 rfl) ?_
      refine lv_bipush (v := nI 11) hx hb d_Mo_sumOf_5 (by decide) ?_
      refine lv_icmp_ge (tgt := 41) hx hb d_Mo_sumOf_7 (by decide) (fun c_2 => ?_) (fun c_2 => ?_)
      · skip
        rw [nI_leI (by omega) (by omega)] at c_2
        first | omega | contradiction
      · skip
        rw [nI_leI (by omega) (by omega)] at c_2
        refine lv_iload_n hx hb d_Mo_sumOf_10 rfl (lv_at hl 2 rfl) ?_
        refine lv_iconst (v := nI 2) hx hb d_Mo_sumOf_11 (by decide) ?_
        refine lv_idiv hx hb d_Mo_sumOf_12 (by decide) ?_
        refine mk_ti (y := nI ((suN B f i) / 2)) (pk_div (by omega) (by decide) (by decide)) ?_
        refine lv_iload_n hx hb d_Mo_sumOf_13 rfl (lv_at hl 2 rfl) ?_
        refine lv_iconst (v := nI 2) hx hb d_Mo_sumOf_14 (by decide) ?_
        refine lv_irem hx hb d_Mo_sumOf_15 (by decide) ?_
        refine mk_ti (y := nI ((suN B f i) % 2)) (pk_rem (by omega) (by decide) (by decide)) ?_
        refine lv_sipush (v := nI 128) hx hb d_Mo_sumOf_16 (by decide) ?_
        refine lv_imul hx hb d_Mo_sumOf_19 ?_
        refine mk_ti (y := nI (((suN B f i) % 2) * 128)) (pk_mul ((suN B f i) % 2) 128) ?_
        refine lv_iadd hx hb d_Mo_sumOf_20 ?_
        refine mk_ti (y := nI ((suN B f i) / 2 + ((suN B f i) % 2) * 128)) (nI_add ((suN B f i) / 2) (((suN B f i) % 2) * 128)) ?_
        refine lv_aload_n hx hb d_Mo_sumOf_21 rfl (lv_at hl 0 rfl) ?_
        refine va_get (D := (dC, dI)) (ci := 5) (v := .ref mb) (C := "LongNamesModel") (T := F_Mo) (N := 5) hx hb hts (iw_Mo _) hown hK hP 0 rfl rfl 3 (by decide) (hts _ (List.mem_cons_of_mem _ k_525)) (fun _ h9 => h9) rfl d_Mo_sumOf_22 ?_
        refine lv_iload_n hx hb d_Mo_sumOf_25 rfl (lv_at hl 1 rfl) ?_
        refine lv_iload_n hx hb d_Mo_sumOf_26 rfl (lv_at hl 3 rfl) ?_
        refine lv_iadd hx hb d_Mo_sumOf_27 ?_
        refine mk_ti (y := nI (f + i)) (nI_add f i) ?_
        refine va_iald hx hb hK hP 1 0 rfl rfl (vp_in_nI (N := 1024) (show f + i < 1024 by omega) (by decide)) d_Mo_sumOf_28 ?_
        refine mk_ti (y := nI (B (f + i))) (by rw [nI_clamp (by omega)]; rfl) ?_
        have b_3 := hB (f + i)
        refine lv_iadd hx hb d_Mo_sumOf_29 ?_
        refine mk_ti (y := nI ((suN B f i) / 2 + ((suN B f i) % 2) * 128 + B (f + i))) (nI_add ((suN B f i) / 2 + ((suN B f i) % 2) * 128) (B (f + i))) ?_
        refine lv_sipush (v := nI 256) hx hb d_Mo_sumOf_30 (by decide) ?_
        refine lv_irem hx hb d_Mo_sumOf_33 (by decide) ?_
        refine mk_ti (y := nI (((suN B f i) / 2 + ((suN B f i) % 2) * 128 + B (f + i)) % 256)) (pk_rem (by omega) (by decide) (by decide)) ?_
        refine lv_istore_n (lv' := [(2, .int (nI (((suN B f i) / 2 + ((suN B f i) % 2) * 128 + B (f + i)) % 256))), (0, .ref m0), (1, .int (nI f)), (3, .int (nI i))]) hx hb d_Mo_sumOf_34 rfl hl (by decide) rfl (fun ls hl => ?_)
        refine lv_iinc (v := nI (i + 1)) (lv' := [(3, .int (nI (i + 1))), (2, .int (nI (((suN B f i) / 2 + ((suN B f i) % 2) * 128 + B (f + i)) % 256))), (0, .ref m0), (1, .int (nI f))]) hx hb d_Mo_sumOf_35 hl (k := 3) rfl (mk_i1 i) (by decide) rfl (fun ls hl => ?_)
        refine lv_goto (tgt := 4) hx hb d_Mo_sumOf_38 (by decide) ?_
        have hl : lv_has ls 4 [(0, .ref m0), (1, .int (nI f)), (2, .int (nI (((suN B f i) / 2 + ((suN B f i) % 2) * 128 + B (f + i)) % 256))), (3, .int (nI (i + 1)))] := lv_sub hl [2, 3, 1, 0] rfl
        have hl9 : ([(0, .ref m0), (1, .int (nI f)), (2, .int (nI (((suN B f i) / 2 + ((suN B f i) % 2) * 128 + B (f + i)) % 256))), (3, .int (nI (i + 1)))] : List (Nat × Value)) = [(0, .ref m0), (1, .int (nI f)), (2, .int (nI (suN B f (i + 1)))), (3, .int (nI (i + 1)))] := by rw [show suN B f (i + 1) = (suN B f i / 2 + suN B f i % 2 * 128 + B (f + i)) % 256 from (by rw [suN]; omega)]
        rw [hl9] at hl
        exact ih4 (i + 1) _ (by omega) hl
  have hl : lv_has ls 4 [(0, .ref m0), (1, .int (nI f)), (2, .int (nI 0)), (3, .int (nI 0))] := lv_sub hl [2, 3, 1, 0] rfl
  have hl9 : ([(0, .ref m0), (1, .int (nI f)), (2, .int (nI 0)), (3, .int (nI 0))] : List (Nat × Value)) = [(0, .ref m0), (1, .int (nI f)), (2, .int (nI (suN B f 0))), (3, .int (nI 0))] := by rfl
  rw [hl9] at hl
  exact lp4 11 0 _ rfl hl

set_option maxHeartbeats 1000000 in
set_option maxRecDepth 100000 in
theorem c_Mo_isS (l : Launch) (dC : Nat → ClassId) (dI : Nat → Nat → Nat) (cI : ClassId) (m0 : Nat) (th : Int32) (mu mz mb mr : Nat) (B : Nat → Nat) (f : Nat) (hB : ∀ j, B j < 65536) (hf : f + 11 ≤ 1024) : mR l y_Mo_isShort w_Mo_isShort ({ frames := 1, cells := 0, slots := 0, locals := 20 } : Room) [.ref m0, .int (nI f)] (dC, dI) vwCl [(cI, .int)] [(m0, .inr (5, [.int th, .ref mu, .ref mz, .ref mb, .ref mr])), (mb, .inl (cI, 1024, .inl (nf B)))] (some (.int (bI (isF B f)))) := by
  refine mk_Ri (cc := b_Mo_isShort) (maxL := 4) (by decide) rfl (Nat.le_of_ble_eq_true rfl) (mk_nz _) ?_
  intro p e s m below meth c Q A ls S hP hK hT hS hl hret
  obtain ⟨hx, hb, hml, hown, hts⟩ := id S
  have hl : lv_has ls 4 [(0, .ref m0), (1, .int (nI f))] := hl
  refine lv_aload_n hx hb d_Mo_isShort_0 rfl (lv_at hl 0 rfl) ?_
  refine va_get (D := (dC, dI)) (ci := 5) (v := .ref mb) (C := "LongNamesModel") (T := F_Mo) (N := 5) hx hb hts (iw_Mo _) hown hK hP 0 rfl rfl 3 (by decide) (hts _ (List.mem_cons_of_mem _ k_525)) (fun _ h9 => h9) rfl d_Mo_isShort_1 ?_
  refine lv_iload_n hx hb d_Mo_isShort_4 rfl (lv_at hl 1 rfl) ?_
  refine va_iald hx hb hK hP 1 0 rfl rfl (vp_in_nI (N := 1024) (show f < 1024 by omega) (by decide)) d_Mo_isShort_5 ?_
  refine mk_ti (y := nI (B f)) (by rw [nI_clamp (by omega)]; rfl) ?_
  have b_1 := hB f
  refine lv_bipush (v := nI 32) hx hb d_Mo_isShort_6 (by decide) ?_
  refine lv_icmp_ne (tgt := 13) hx hb d_Mo_isShort_8 (by decide) (fun c_2 => ?_) (fun c_2 => ?_)
  · skip
    rw [nI_eq (by omega) (by omega)] at c_2
    refine lv_iconst (v := nI 0) hx hb d_Mo_isShort_13 (by decide) ?_
    refine lv_istore_n (lv' := [(2, .int (nI 0)), (0, .ref m0), (1, .int (nI f))]) hx hb d_Mo_isShort_14 rfl hl (by decide) rfl (fun ls hl => ?_)
    have lp15 : ∀ (k : Nat) (i : Nat) (ls : Array Slot), (i + k = 11) → (∀ j, j < i → isJ B f j = true) → lv_has ls 4 [(0, .ref m0), (1, .int (nI f)), (2, .int (nI i))] → W p l e ({ frames := 1, cells := 0, slots := 0, locals := 20 } : Room) s m ([.ref m0, .int (nI f)] : List Value).toArray below meth c s.heap [] 0 0 Q (F0 m 15 ls []) := by
      intro k
      induction k with
      | zero =>
        intro i ls hi hq hl
        refine lv_iload_n hx hb d_Mo_isShort_15 rfl (lv_at hl 2 rfl) ?_
        refine lv_bipush (v := nI 11) hx hb d_Mo_isShort_16 (by decide) ?_
        refine lv_icmp_ge (tgt := 84) hx hb d_Mo_isShort_18 (by decide) (fun c_3 => ?_) (fun c_3 => ?_)
        · skip
          rw [nI_leI (by omega) (by omega)] at c_3
          refine lv_iconst (v := nI 1) hx hb d_Mo_isShort_84 (by decide) ?_
          exact mk_ti (by exact mk_bt (by simp only [isF, isK, decide_eq_true_eq]; exact ⟨by omega, fun j hj => hq j (by omega)⟩)) (hret _ _ d_Mo_isShort_85)
        · skip
          rw [nI_leI (by omega) (by omega)] at c_3
          first | omega | contradiction
      | succ k ih15 =>
        intro i ls hi hq hl
        refine lv_iload_n hx hb d_Mo_isShort_15 rfl (lv_at hl 2 rfl) ?_
        refine lv_bipush (v := nI 11) hx hb d_Mo_isShort_16 (by decide) ?_
        refine lv_icmp_ge (tgt := 84) hx hb d_Mo_isShort_18 (by decide) (fun c_4 => ?_) (fun c_4 => ?_)
        · skip
          rw [nI_leI (by omega) (by omega)] at c_4
          first | omega | contradiction
        · skip
          rw [nI_leI (by omega) (by omega)] at c_4
          refine lv_aload_n hx hb d_Mo_isShort_21 rfl (lv_at hl 0 rfl) ?_
          refine va_get (D := (dC, dI)) (ci := 5) (v := .ref mb) (C := "LongNamesModel") (T := F_Mo) (N := 5) hx hb hts (iw_Mo _) hown hK hP 0 rfl rfl 3 (by decide) (hts _ (List.mem_cons_of_mem _ k_525)) (fun _ h9 => h9) rfl d_Mo_isShort_22 ?_
          refine lv_iload_n hx hb d_Mo_isShort_25 rfl (lv_at hl 1 rfl) ?_
          refine lv_iload_n hx hb d_Mo_isShort_26 rfl (lv_at hl 2 rfl) ?_
          refine lv_iadd hx hb d_Mo_isShort_27 ?_
          refine mk_ti (y := nI (f + i)) (nI_add f i) ?_
          refine va_iald hx hb hK hP 1 0 rfl rfl (vp_in_nI (N := 1024) (show f + i < 1024 by omega) (by decide)) d_Mo_isShort_28 ?_
          refine mk_ti (y := nI (B (f + i))) (by rw [nI_clamp (by omega)]; rfl) ?_
          have b_5 := hB (f + i)
          refine lv_istore_n (lv' := [(3, .int (nI (B (f + i)))), (0, .ref m0), (1, .int (nI f)), (2, .int (nI i))]) hx hb d_Mo_isShort_29 rfl hl (by decide) rfl (fun ls hl => ?_)
          refine lv_iload_n hx hb d_Mo_isShort_30 rfl (lv_at hl 0 rfl) ?_
          refine lv_bipush (v := nI 32) hx hb d_Mo_isShort_31 (by decide) ?_
          refine lv_icmp_eq (tgt := 45) hx hb d_Mo_isShort_33 (by decide) (fun c_6 => ?_) (fun c_6 => ?_)
          · skip
            rw [nI_eq (by omega) (by omega)] at c_6
            refine lv_iload_n hx hb d_Mo_isShort_45 rfl (lv_at hl 0 rfl) ?_
            refine lv_bipush (v := nI 32) hx hb d_Mo_isShort_46 (by decide) ?_
            refine lv_icmp_eq (tgt := 78) hx hb d_Mo_isShort_48 (by decide) (fun c_7 => ?_) (fun c_7 => ?_)
            · skip
              rw [nI_eq (by omega) (by omega)] at c_7
              refine lv_iinc (v := nI (i + 1)) (lv' := [(2, .int (nI (i + 1))), (3, .int (nI (B (f + i)))), (0, .ref m0), (1, .int (nI f))]) hx hb d_Mo_isShort_78 hl (k := 3) rfl (mk_i1 i) (by decide) rfl (fun ls hl => ?_)
              refine lv_goto (tgt := 15) hx hb d_Mo_isShort_81 (by decide) ?_
              have hl : lv_has ls 4 [(0, .ref m0), (1, .int (nI f)), (2, .int (nI (i + 1)))] := lv_sub hl [2, 3, 0] rfl
              exact ih15 (i + 1) _ (by omega) (lt_s hq (isJ_of (by first | exact Or.inl (by omega) | exact Or.inr (by assumption)) (by omega))) hl
            · skip
              rw [nI_eq (by omega) (by omega)] at c_7
              refine lv_iload_n hx hb d_Mo_isShort_51 rfl (lv_at hl 3 rfl) ?_
              refine lv_if_eq (tgt := 78) hx hb d_Mo_isShort_52 (by decide) (fun c_8 => ?_) (fun c_8 => ?_)
              · skip
                rw [mk_ceq (by omega)] at c_8
                refine lv_iinc (v := nI (i + 1)) (lv' := [(2, .int (nI (i + 1))), (3, .int (nI (B (f + i)))), (0, .ref m0), (1, .int (nI f))]) hx hb d_Mo_isShort_78 hl (k := 3) rfl (mk_i1 i) (by decide) rfl (fun ls hl => ?_)
                refine lv_goto (tgt := 15) hx hb d_Mo_isShort_81 (by decide) ?_
                have hl : lv_has ls 4 [(0, .ref m0), (1, .int (nI f)), (2, .int (nI (i + 1)))] := lv_sub hl [2, 3, 0] rfl
                exact ih15 (i + 1) _ (by omega) (lt_s hq (isJ_of (by first | exact Or.inl (by omega) | exact Or.inr (by assumption)) (by omega))) hl
              · skip
                rw [mk_ceq (by omega)] at c_8
                refine lv_iload_n hx hb d_Mo_isShort_55 rfl (lv_at hl 3 rfl) ?_
                refine lv_bipush (v := nI 8) hx hb d_Mo_isShort_56 (by decide) ?_
                refine lv_icmp_eq (tgt := 78) hx hb d_Mo_isShort_58 (by decide) (fun c_9 => ?_) (fun c_9 => ?_)
                · skip
                  rw [nI_eq (by omega) (by omega)] at c_9
                  refine lv_iinc (v := nI (i + 1)) (lv' := [(2, .int (nI (i + 1))), (3, .int (nI (B (f + i)))), (0, .ref m0), (1, .int (nI f))]) hx hb d_Mo_isShort_78 hl (k := 3) rfl (mk_i1 i) (by decide) rfl (fun ls hl => ?_)
                  refine lv_goto (tgt := 15) hx hb d_Mo_isShort_81 (by decide) ?_
                  have hl : lv_has ls 4 [(0, .ref m0), (1, .int (nI f)), (2, .int (nI (i + 1)))] := lv_sub hl [2, 3, 0] rfl
                  exact ih15 (i + 1) _ (by omega) (lt_s hq (isJ_of (by first | exact Or.inl (by omega) | exact Or.inr (by assumption)) (by omega))) hl
                · skip
                  rw [nI_eq (by omega) (by omega)] at c_9
                  refine lv_aload_n hx hb d_Mo_isShort_61 rfl (lv_at hl 1 rfl) ?_
                  refine va_get (D := (dC, dI)) (ci := 5) (v := .ref mb) (C := "LongNamesModel") (T := F_Mo) (N := 5) hx hb hts (iw_Mo _) hown hK hP 0 rfl rfl 3 (by decide) (hts _ (List.mem_cons_of_mem _ k_525)) (fun _ h9 => h9) rfl d_Mo_isShort_62 ?_
                  refine lv_iload_n hx hb d_Mo_isShort_65 rfl (lv_at hl 2 rfl) ?_
                  refine lv_iload_n hx hb d_Mo_isShort_66 rfl (lv_at hl 3 rfl) ?_
                  refine lv_iadd hx hb d_Mo_isShort_67 ?_
                  refine mk_ti (y := nI (f + i)) (nI_add f i) ?_
                  refine lv_iconst (v := nI 1) hx hb d_Mo_isShort_68 (by decide) ?_
                  refine lv_isub hx hb d_Mo_isShort_69 ?_
                  refine mk_ti (y := nI (f + i - 1)) (pk_sub (by omega)) ?_
                  refine va_iald hx hb hK hP 1 0 rfl rfl (vp_in_nI (N := 1024) (show f + i - 1 < 1024 by omega) (by decide)) d_Mo_isShort_70 ?_
                  refine mk_ti (y := nI (B (f + i - 1))) (by rw [nI_clamp (by omega)]; rfl) ?_
                  have b_10 := hB (f + i - 1)
                  refine lv_bipush (v := nI 32) hx hb d_Mo_isShort_71 (by decide) ?_
                  refine lv_icmp_ne (tgt := 78) hx hb d_Mo_isShort_73 (by decide) (fun c_11 => ?_) (fun c_11 => ?_)
                  · skip
                    rw [nI_eq (by omega) (by omega)] at c_11
                    refine lv_iinc (v := nI (i + 1)) (lv' := [(2, .int (nI (i + 1))), (3, .int (nI (B (f + i)))), (0, .ref m0), (1, .int (nI f))]) hx hb d_Mo_isShort_78 hl (k := 3) rfl (mk_i1 i) (by decide) rfl (fun ls hl => ?_)
                    refine lv_goto (tgt := 15) hx hb d_Mo_isShort_81 (by decide) ?_
                    have hl : lv_has ls 4 [(0, .ref m0), (1, .int (nI f)), (2, .int (nI (i + 1)))] := lv_sub hl [2, 3, 0] rfl
                    exact ih15 (i + 1) _ (by omega) (lt_s hq (isJ_of (by first | exact Or.inl (by omega) | exact Or.inr (by assumption)) (by omega))) hl
                  · skip
                    rw [nI_eq (by omega) (by omega)] at c_11
                    refine lv_iconst (v := nI 0) hx hb d_Mo_isShort_76 (by decide) ?_
                    exact mk_ti (by exact mk_bf (by simp only [isF, isK, decide_eq_false_iff_not]; intro h9; have h8 := (isJ_to (h9.2 i (by omega))).2; omega)) (hret _ _ d_Mo_isShort_77)
          · skip
            rw [nI_eq (by omega) (by omega)] at c_6
            refine lv_iload_n hx hb d_Mo_isShort_36 rfl (lv_at hl 0 rfl) ?_
            refine mk_r1 (W.runS (As := [.int (nI (B (f + i)))]) (rest := []) S (c_Mo_sign l dC dI cI (B (f + i)) (by first | assumption | omega)) (gS 1 hts k_580 k_581 k_29 k_582 (by decide +kernel) ⟨Nat.le_of_ble_eq_true rfl, Nat.le_of_ble_eq_true rfl⟩) (mk_sR hP hK hT hS [] rfl) rfl rfl hl.1 rfl (lv_room (Nat.le_of_ble_eq_true rfl)) d_Mo_isShort_37 ⟨Nat.zero_le _, Nat.zero_le _⟩) ?_
            refine lv_if_ne (tgt := 45) hx hb d_Mo_isShort_40 (by decide) (fun c_12 => ?_) (fun c_12 => ?_)
            · skip
              have c_12 := bI_1 c_12
              refine lv_iload_n hx hb d_Mo_isShort_45 rfl (lv_at hl 0 rfl) ?_
              refine lv_bipush (v := nI 32) hx hb d_Mo_isShort_46 (by decide) ?_
              refine lv_icmp_eq (tgt := 78) hx hb d_Mo_isShort_48 (by decide) (fun c_13 => ?_) (fun c_13 => ?_)
              · skip
                rw [nI_eq (by omega) (by omega)] at c_13
                refine lv_iinc (v := nI (i + 1)) (lv' := [(2, .int (nI (i + 1))), (3, .int (nI (B (f + i)))), (0, .ref m0), (1, .int (nI f))]) hx hb d_Mo_isShort_78 hl (k := 3) rfl (mk_i1 i) (by decide) rfl (fun ls hl => ?_)
                refine lv_goto (tgt := 15) hx hb d_Mo_isShort_81 (by decide) ?_
                have hl : lv_has ls 4 [(0, .ref m0), (1, .int (nI f)), (2, .int (nI (i + 1)))] := lv_sub hl [2, 3, 0] rfl
                exact ih15 (i + 1) _ (by omega) (lt_s hq (isJ_of (by first | exact Or.inl (by omega) | exact Or.inr (by assumption)) (by omega))) hl
              · skip
                rw [nI_eq (by omega) (by omega)] at c_13
                refine lv_iload_n hx hb d_Mo_isShort_51 rfl (lv_at hl 3 rfl) ?_
                refine lv_if_eq (tgt := 78) hx hb d_Mo_isShort_52 (by decide) (fun c_14 => ?_) (fun c_14 => ?_)
                · skip
                  rw [mk_ceq (by omega)] at c_14
                  refine lv_iinc (v := nI (i + 1)) (lv' := [(2, .int (nI (i + 1))), (3, .int (nI (B (f + i)))), (0, .ref m0), (1, .int (nI f))]) hx hb d_Mo_isShort_78 hl (k := 3) rfl (mk_i1 i) (by decide) rfl (fun ls hl => ?_)
                  refine lv_goto (tgt := 15) hx hb d_Mo_isShort_81 (by decide) ?_
                  have hl : lv_has ls 4 [(0, .ref m0), (1, .int (nI f)), (2, .int (nI (i + 1)))] := lv_sub hl [2, 3, 0] rfl
                  exact ih15 (i + 1) _ (by omega) (lt_s hq (isJ_of (by first | exact Or.inl (by omega) | exact Or.inr (by assumption)) (by omega))) hl
                · skip
                  rw [mk_ceq (by omega)] at c_14
                  refine lv_iload_n hx hb d_Mo_isShort_55 rfl (lv_at hl 3 rfl) ?_
                  refine lv_bipush (v := nI 8) hx hb d_Mo_isShort_56 (by decide) ?_
                  refine lv_icmp_eq (tgt := 78) hx hb d_Mo_isShort_58 (by decide) (fun c_15 => ?_) (fun c_15 => ?_)
                  · skip
                    rw [nI_eq (by omega) (by omega)] at c_15
                    refine lv_iinc (v := nI (i + 1)) (lv' := [(2, .int (nI (i + 1))), (3, .int (nI (B (f + i)))), (0, .ref m0), (1, .int (nI f))]) hx hb d_Mo_isShort_78 hl (k := 3) rfl (mk_i1 i) (by decide) rfl (fun ls hl => ?_)
                    refine lv_goto (tgt := 15) hx hb d_Mo_isShort_81 (by decide) ?_
                    have hl : lv_has ls 4 [(0, .ref m0), (1, .int (nI f)), (2, .int (nI (i + 1)))] := lv_sub hl [2, 3, 0] rfl
                    exact ih15 (i + 1) _ (by omega) (lt_s hq (isJ_of (by first | exact Or.inl (by omega) | exact Or.inr (by assumption)) (by omega))) hl
                  · skip
                    rw [nI_eq (by omega) (by omega)] at c_15
                    refine lv_aload_n hx hb d_Mo_isShort_61 rfl (lv_at hl 1 rfl) ?_
                    refine va_get (D := (dC, dI)) (ci := 5) (v := .ref mb) (C := "LongNamesModel") (T := F_Mo) (N := 5) hx hb hts (iw_Mo _) hown hK hP 0 rfl rfl 3 (by decide) (hts _ (List.mem_cons_of_mem _ k_525)) (fun _ h9 => h9) rfl d_Mo_isShort_62 ?_
                    refine lv_iload_n hx hb d_Mo_isShort_65 rfl (lv_at hl 2 rfl) ?_
                    refine lv_iload_n hx hb d_Mo_isShort_66 rfl (lv_at hl 3 rfl) ?_
                    refine lv_iadd hx hb d_Mo_isShort_67 ?_
                    refine mk_ti (y := nI (f + i)) (nI_add f i) ?_
                    refine lv_iconst (v := nI 1) hx hb d_Mo_isShort_68 (by decide) ?_
                    refine lv_isub hx hb d_Mo_isShort_69 ?_
                    refine mk_ti (y := nI (f + i - 1)) (pk_sub (by omega)) ?_
                    refine va_iald hx hb hK hP 1 0 rfl rfl (vp_in_nI (N := 1024) (show f + i - 1 < 1024 by omega) (by decide)) d_Mo_isShort_70 ?_
                    refine mk_ti (y := nI (B (f + i - 1))) (by rw [nI_clamp (by omega)]; rfl) ?_
                    have b_16 := hB (f + i - 1)
                    refine lv_bipush (v := nI 32) hx hb d_Mo_isShort_71 (by decide) ?_
                    refine lv_icmp_ne (tgt := 78) hx hb d_Mo_isShort_73 (by decide) (fun c_17 => ?_) (fun c_17 => ?_)
                    · skip
                      rw [nI_eq (by omega) (by omega)] at c_17
                      refine lv_iinc (v := nI (i + 1)) (lv' := [(2, .int (nI (i + 1))), (3, .int (nI (B (f + i)))), (0, .ref m0), (1, .int (nI f))]) hx hb d_Mo_isShort_78 hl (k := 3) rfl (mk_i1 i) (by decide) rfl (fun ls hl => ?_)
                      refine lv_goto (tgt := 15) hx hb d_Mo_isShort_81 (by decide) ?_
                      have hl : lv_has ls 4 [(0, .ref m0), (1, .int (nI f)), (2, .int (nI (i + 1)))] := lv_sub hl [2, 3, 0] rfl
                      exact ih15 (i + 1) _ (by omega) (lt_s hq (isJ_of (by first | exact Or.inl (by omega) | exact Or.inr (by assumption)) (by omega))) hl
                    · skip
                      rw [nI_eq (by omega) (by omega)] at c_17
                      refine lv_iconst (v := nI 0) hx hb d_Mo_isShort_76 (by decide) ?_
                      exact mk_ti (by exact mk_bf (by simp only [isF, isK, decide_eq_false_iff_not]; intro h9; have h8 := (isJ_to (h9.2 i (by omega))).2; omega)) (hret _ _ d_Mo_isShort_77)
            · skip
              have c_12 := bI_0 c_12
              refine lv_iconst (v := nI 0) hx hb d_Mo_isShort_43 (by decide) ?_
              exact mk_ti (by exact mk_bf (by simp only [isF, isK, decide_eq_false_iff_not]; intro h9; rcases (isJ_to (h9.2 i (by omega))).1 with h8 | h8 <;> first | omega | exact absurd (h8.symm.trans c_12) (by decide))) (hret _ _ d_Mo_isShort_44)
    have hl : lv_has ls 4 [(0, .ref m0), (1, .int (nI f)), (2, .int (nI 0))] := lv_sub hl [1, 2, 0] rfl
    exact lp15 11 0 _ rfl (fun j hj => absurd hj (Nat.not_lt_zero j)) hl
  · skip
    rw [nI_eq (by omega) (by omega)] at c_2
    refine lv_iconst (v := nI 0) hx hb d_Mo_isShort_11 (by decide) ?_
    exact mk_ti (by exact mk_bf (by simp only [isF, isK, decide_eq_false_iff_not]; intro h9; omega)) (hret _ _ d_Mo_isShort_12)

set_option maxHeartbeats 1000000 in
set_option maxRecDepth 100000 in
theorem c_Mo_add (l : Launch) (dC : Nat → ClassId) (dI : Nat → Nat → Nat) (cI : ClassId) (m0 : Nat) (th : Int32) (mu mz mb mr : Nat) (U Z : Nat → Nat) (r c9 x : Nat) (hr : r < 2) (hc : c9 < 255) : mM l y_Mo_add w_Mo_add ({ frames := 0, cells := 0, slots := 0, locals := 0 } : Room) [.ref m0, .int (nI r), .int (nI x)] (dC, dI) vwCl [(cI, .int)] [(m0, .inr (5, [.int th, .ref mu, .ref mz, .ref mb, .ref mr])), (mu, .inl (cI, 510, .inl (nf U))), (mz, .inl (cI, 2, .inl (nf (uN Z r c9))))] none [(m0, .inr (5, [.int th, .ref mu, .ref mz, .ref mb, .ref mr])), (mu, .inl (cI, 510, .inl (nf (uN U (255 * r + c9) x)))), (mz, .inl (cI, 2, .inl (nf (uN Z r (c9 + 1)))))] := by
  refine mk_Mv (cc := b_Mo_add) (maxL := 3) (by decide) rfl (Nat.le_of_ble_eq_true rfl) ?_
  intro p e s m below meth c Q A ls S hP hK hT hS hl hD hA hret
  obtain ⟨hx, hb, hml, hown, hts⟩ := id S
  have hl : lv_has ls 3 [(0, .ref m0), (1, .int (nI r)), (2, .int (nI x))] := hl
  refine lv_aload_n hx hb d_Mo_add_0 rfl (lv_at hl 0 rfl) ?_
  refine va_get (D := (dC, dI)) (ci := 5) (v := .ref mu) (C := "LongNamesModel") (T := F_Mo) (N := 5) hx hb hts (iw_Mo _) hown hK hP 0 rfl rfl 1 (by decide) (hts _ (List.mem_cons_of_mem _ k_523)) (fun _ h9 => h9) rfl d_Mo_add_1 ?_
  refine lv_sipush (v := nI 255) hx hb d_Mo_add_4 (by decide) ?_
  refine lv_iload_n hx hb d_Mo_add_7 rfl (lv_at hl 1 rfl) ?_
  refine lv_imul hx hb d_Mo_add_8 ?_
  refine mk_ti (y := nI (255 * r)) (pk_mul 255 r) ?_
  refine lv_aload_n hx hb d_Mo_add_9 rfl (lv_at hl 0 rfl) ?_
  refine va_get (D := (dC, dI)) (ci := 5) (v := .ref mz) (C := "LongNamesModel") (T := F_Mo) (N := 5) hx hb hts (iw_Mo _) hown hK hP 0 rfl rfl 2 (by decide) (hts _ (List.mem_cons_of_mem _ k_524)) (fun _ h9 => h9) rfl d_Mo_add_10 ?_
  refine lv_iload_n hx hb d_Mo_add_13 rfl (lv_at hl 1 rfl) ?_
  refine va_iald hx hb hK hP 2 0 rfl rfl (vp_in_nI (N := 2) (show r < 2 by omega) (by decide)) d_Mo_add_14 ?_
  refine mk_ti (y := nI c9) (by rw [nI_clamp (by omega)]; exact mk_uat) ?_
  refine lv_iadd hx hb d_Mo_add_15 ?_
  refine mk_ti (y := nI (255 * r + c9)) (nI_add (255 * r) c9) ?_
  refine lv_iload_n hx hb d_Mo_add_16 rfl (lv_at hl 2 rfl) ?_
  refine va_iast hx hb hK hP hD hS 1 0 rfl rfl (vp_in_nI (N := 510) (show 255 * r + c9 < 510 by omega) (by decide)) d_Mo_add_17 (fun H locs hP hD hS => ?_)
  rw [nI_clamp (by omega), nf_up] at hP hD
  have hP : va_P (dC, dI) vwCl [(m0, .inr (5, [.int th, .ref mu, .ref mz, .ref mb, .ref mr])), (mu, .inl (cI, 510, .inl (nf (uN U (255 * r + c9) x)))), (mz, .inl (cI, 2, .inl (nf (uN Z r c9))))] H := hP
  have hD : va_D A [(m0, .inr (5, [.int th, .ref mu, .ref mz, .ref mb, .ref mr])), (mu, .inl (cI, 510, .inl (nf (uN U (255 * r + c9) x)))), (mz, .inl (cI, 2, .inl (nf (uN Z r c9))))] := hD
  refine lv_aload_n hx hb d_Mo_add_18 rfl (lv_at hl 0 rfl) ?_
  refine va_get (D := (dC, dI)) (ci := 5) (v := .ref mz) (C := "LongNamesModel") (T := F_Mo) (N := 5) hx hb hts (iw_Mo _) hown hK hP 0 rfl rfl 2 (by decide) (hts _ (List.mem_cons_of_mem _ k_524)) (fun _ h9 => h9) rfl d_Mo_add_19 ?_
  refine lv_iload_n hx hb d_Mo_add_22 rfl (lv_at hl 1 rfl) ?_
  refine lv_dup2_11 hx hb d_Mo_add_23 rfl rfl ?_
  refine va_iald hx hb hK hP 2 0 rfl rfl (vp_in_nI (N := 2) (show r < 2 by omega) (by decide)) d_Mo_add_24 ?_
  refine mk_ti (y := nI c9) (by rw [nI_clamp (by omega)]; exact mk_uat) ?_
  refine lv_iconst (v := nI 1) hx hb d_Mo_add_25 (by decide) ?_
  refine lv_iadd hx hb d_Mo_add_26 ?_
  refine mk_ti (y := nI (c9 + 1)) (nI_add c9 1) ?_
  refine va_iast hx hb hK hP hD hS 2 0 rfl rfl (vp_in_nI (N := 2) (show r < 2 by omega) (by decide)) d_Mo_add_27 (fun H locs hP hD hS => ?_)
  rw [nI_clamp (by omega), nf_up, mk_uu] at hP hD
  have hP : va_P (dC, dI) vwCl [(m0, .inr (5, [.int th, .ref mu, .ref mz, .ref mb, .ref mr])), (mu, .inl (cI, 510, .inl (nf (uN U (255 * r + c9) x)))), (mz, .inl (cI, 2, .inl (nf (uN Z r (c9 + 1)))))] H := hP
  have hD : va_D A [(m0, .inr (5, [.int th, .ref mu, .ref mz, .ref mb, .ref mr])), (mu, .inl (cI, 510, .inl (nf (uN U (255 * r + c9) x)))), (mz, .inl (cI, 2, .inl (nf (uN Z r (c9 + 1)))))] := hD
  exact hret _ _ _ _ d_Mo_add_28 hP hD hS

set_option maxHeartbeats 1000000 in
set_option maxRecDepth 100000 in
theorem c_Mo_rs (l : Launch) (dC : Nat → ClassId) (dI : Nat → Nat → Nat) (cI : ClassId) (m0 : Nat) (th : Int32) (mu mz mb mr : Nat) (U Z B : Nat → Nat) (r f : Nat) (hB : ∀ j, B j < 65536) (hr : r < 2) (hf : f + 11 ≤ 1024) : mM l y_Mo_readShown w_Mo_readShown ({ frames := 1, cells := 0, slots := 0, locals := 22 } : Room) [.ref m0, .int (nI r), .int (nI f)] (dC, dI) vwCl [(cI, .int)] [(m0, .inr (5, [.int th, .ref mu, .ref mz, .ref mb, .ref mr])), (mu, .inl (cI, 510, .inl (nf U))), (mz, .inl (cI, 2, .inl (nf (uN Z r 0)))), (mb, .inl (cI, 1024, .inl (nf B)))] none [(m0, .inr (5, [.int th, .ref mu, .ref mz, .ref mb, .ref mr])), (mu, .inl (cI, 510, .inl (nf (rsU B f r 11 0 0 U)))), (mz, .inl (cI, 2, .inl (nf (uN Z r (rsC B f 11 0 0))))), (mb, .inl (cI, 1024, .inl (nf B)))] := by
  refine mk_Mv (cc := b_Mo_readShown) (maxL := 4) (by decide) rfl (Nat.le_of_ble_eq_true rfl) ?_
  intro p e s m below meth c Q A ls S hP hK hT hS hl hD hA hret
  obtain ⟨hx, hb, hml, hown, hts⟩ := id S
  have hl : lv_has ls 4 [(0, .ref m0), (1, .int (nI r)), (2, .int (nI f))] := hl
  refine lv_iconst (v := nI 0) hx hb d_Mo_readShown_0 (by decide) ?_
  refine lv_istore_n (lv' := [(3, .int (nI 0)), (0, .ref m0), (1, .int (nI r)), (2, .int (nI f))]) hx hb d_Mo_readShown_1 rfl hl (by decide) rfl (fun ls hl => ?_)
  have lp2 : ∀ (k : Nat) (i c9 : Nat) (U1 : Nat → Nat) (H : Heap) (locs : List Loc) (ls : Array Slot), (i + k = 11) → (c9 ≤ i + 1) → (i ≤ 8 → c9 ≤ i) → (rsC B f 11 0 0 = rsC B f k i c9 ∧ rsU B f r 11 0 0 U = rsU B f r k i c9 U1) → va_P (dC, dI) vwCl [(m0, .inr (5, [.int th, .ref mu, .ref mz, .ref mb, .ref mr])), (mu, .inl (cI, 510, .inl (nf U1))), (mz, .inl (cI, 2, .inl (nf (uN Z r c9)))), (mb, .inl (cI, 1024, .inl (nf B)))] H → va_D A [(m0, .inr (5, [.int th, .ref mu, .ref mz, .ref mb, .ref mr])), (mu, .inl (cI, 510, .inl (nf U1))), (mz, .inl (cI, 2, .inl (nf (uN Z r c9)))), (mb, .inl (cI, 1024, .inl (nf B)))] → va_S A s.heap H locs → lv_has ls 4 [(0, .ref m0), (1, .int (nI r)), (2, .int (nI f)), (3, .int (nI i))] → W p l e ({ frames := 1, cells := 0, slots := 0, locals := 22 } : Room) s m ([.ref m0, .int (nI r), .int (nI f)] : List Value).toArray below meth c H locs 0 0 Q (F0 m 2 ls []) := by
    intro k
    induction k with
    | zero =>
      intro i c9 U1 H locs ls hi hc hc2 hE hP hD hS hl
      refine lv_iload_n hx hb d_Mo_readShown_2 rfl (lv_at hl 3 rfl) ?_
      refine lv_bipush (v := nI 11) hx hb d_Mo_readShown_3 (by decide) ?_
      refine lv_icmp_ge (tgt := 67) hx hb d_Mo_readShown_5 (by decide) (fun c_1 => ?_) (fun c_1 => ?_)
      · skip
        rw [nI_leI (by omega) (by omega)] at c_1
        have hw9 : ([(m0, .inr (5, [.int th, .ref mu, .ref mz, .ref mb, .ref mr])), (mu, .inl (cI, 510, .inl (nf U1))), (mz, .inl (cI, 2, .inl (nf (uN Z r c9)))), (mb, .inl (cI, 1024, .inl (nf B)))] : va_W) = [(m0, .inr (5, [.int th, .ref mu, .ref mz, .ref mb, .ref mr])), (mu, .inl (cI, 510, .inl (nf (rsU B f r 11 0 0 U)))), (mz, .inl (cI, 2, .inl (nf (uN Z r (rsC B f 11 0 0))))), (mb, .inl (cI, 1024, .inl (nf B)))] := by rw [hE.1, hE.2]; rfl
        rw [hw9] at hP hD
        exact hret _ _ _ _ d_Mo_readShown_67 hP hD hS
      · skip
        rw [nI_leI (by omega) (by omega)] at c_1
        first | omega | contradiction
    | succ k ih2 =>
      intro i c9 U1 H locs ls hi hc hc2 hE hP hD hS hl
      refine lv_iload_n hx hb d_Mo_readShown_2 rfl (lv_at hl 3 rfl) ?_
      refine lv_bipush (v := nI 11) hx hb d_Mo_readShown_3 (by decide) ?_
      refine lv_icmp_ge (tgt := 67) hx hb d_Mo_readShown_5 (by decide) (fun c_2 => ?_) (fun c_2 => ?_)
      · skip
        rw [nI_leI (by omega) (by omega)] at c_2
        first | omega | contradiction
      · skip
        rw [nI_leI (by omega) (by omega)] at c_2
        refine lv_iload_n hx hb d_Mo_readShown_8 rfl (lv_at hl 3 rfl) ?_
        refine lv_bipush (v := nI 8) hx hb d_Mo_readShown_9 (by decide) ?_
        refine lv_icmp_ne (tgt := 35) hx hb d_Mo_readShown_11 (by decide) (fun c_3 => ?_) (fun c_3 => ?_)
        · skip
          rw [nI_eq (by omega) (by omega)] at c_3
          refine lv_aload_n hx hb d_Mo_readShown_35 rfl (lv_at hl 0 rfl) ?_
          refine va_get (D := (dC, dI)) (ci := 5) (v := .ref mb) (C := "LongNamesModel") (T := F_Mo) (N := 5) hx hb hts (iw_Mo _) hown hK hP 0 rfl rfl 3 (by decide) (hts _ (List.mem_cons_of_mem _ k_525)) (fun _ h9 => h9) rfl d_Mo_readShown_36 ?_
          refine lv_iload_n hx hb d_Mo_readShown_39 rfl (lv_at hl 2 rfl) ?_
          refine lv_iload_n hx hb d_Mo_readShown_40 rfl (lv_at hl 3 rfl) ?_
          refine lv_iadd hx hb d_Mo_readShown_41 ?_
          refine mk_ti (y := nI (f + i)) (nI_add f i) ?_
          refine va_iald hx hb hK hP 3 0 rfl rfl (vp_in_nI (N := 1024) (show f + i < 1024 by omega) (by decide)) d_Mo_readShown_42 ?_
          refine mk_ti (y := nI (B (f + i))) (by rw [nI_clamp (by omega)]; rfl) ?_
          have b_4 := hB (f + i)
          refine lv_bipush (v := nI 32) hx hb d_Mo_readShown_43 (by decide) ?_
          refine lv_icmp_eq (tgt := 61) hx hb d_Mo_readShown_45 (by decide) (fun c_5 => ?_) (fun c_5 => ?_)
          · skip
            rw [nI_eq (by omega) (by omega)] at c_5
            refine lv_iinc (v := nI (i + 1)) (lv' := [(3, .int (nI (i + 1))), (0, .ref m0), (1, .int (nI r)), (2, .int (nI f))]) hx hb d_Mo_readShown_61 hl (k := 3) rfl (mk_i1 i) (by decide) rfl (fun ls hl => ?_)
            refine lv_goto (tgt := 2) hx hb d_Mo_readShown_64 (by decide) ?_
            have hl : lv_has ls 4 [(0, .ref m0), (1, .int (nI r)), (2, .int (nI f)), (3, .int (nI (i + 1)))] := lv_sub hl [1, 2, 3, 0] rfl
            exact ih2 (i + 1) c9 U1 _ _ _ (by omega) (by omega) (by omega) ⟨hE.1.trans (by rw [rsC]; (first | rw [if_pos ⟨by omega, by omega⟩] | rw [if_neg (by omega)]); (first | rw [if_pos (by omega)] | rw [if_neg (by omega)])), hE.2.trans (by rw [rsU]; (first | rw [if_pos ⟨by omega, by omega⟩] | rw [if_neg (by omega)]); (first | rw [if_pos (by omega)] | rw [if_neg (by omega)]))⟩ hP hD hS hl
          · skip
            rw [nI_eq (by omega) (by omega)] at c_5
            refine lv_aload_n hx hb d_Mo_readShown_48 rfl (lv_at hl 0 rfl) ?_
            refine lv_iload_n hx hb d_Mo_readShown_49 rfl (lv_at hl 1 rfl) ?_
            refine lv_aload_n hx hb d_Mo_readShown_50 rfl (lv_at hl 0 rfl) ?_
            refine va_get (D := (dC, dI)) (ci := 5) (v := .ref mb) (C := "LongNamesModel") (T := F_Mo) (N := 5) hx hb hts (iw_Mo _) hown hK hP 0 rfl rfl 3 (by decide) (hts _ (List.mem_cons_of_mem _ k_525)) (fun _ h9 => h9) rfl d_Mo_readShown_51 ?_
            refine lv_iload_n hx hb d_Mo_readShown_54 rfl (lv_at hl 2 rfl) ?_
            refine lv_iload_n hx hb d_Mo_readShown_55 rfl (lv_at hl 3 rfl) ?_
            refine lv_iadd hx hb d_Mo_readShown_56 ?_
            refine mk_ti (y := nI (f + i)) (nI_add f i) ?_
            refine va_iald hx hb hK hP 3 0 rfl rfl (vp_in_nI (N := 1024) (show f + i < 1024 by omega) (by decide)) d_Mo_readShown_57 ?_
            refine mk_ti (y := nI (B (f + i))) (by rw [nI_clamp (by omega)]; rfl) ?_
            have b_6 := hB (f + i)
            refine mk_w0 (wr := [(mb, .inl (cI, 1024, .inl (nf B)))]) (W.runV (As := [.int (nI r), .int (nI (B (f + i)))]) (rest := []) S ((c_Mo_add l dC dI cI m0 th mu mz mb mr U1 Z r c9 (B (f + i)) (by first | assumption | omega) (by first | assumption | omega)) _) (gV 2 hts k_633 k_635 k_21 k_29 k_636 (by decide +kernel) ⟨Nat.le_of_ble_eq_true rfl, Nat.le_of_ble_eq_true rfl⟩) (mk_vM hP hD hK hT hS hA [0, 1, 2] rfl rfl (by decide) (q0 := 0) (ci := 5) rfl rfl) rfl rfl hl.1 rfl (lv_room (Nat.le_of_ble_eq_true rfl)) d_Mo_readShown_58 ⟨Nat.zero_le _, Nat.zero_le _⟩) hP hD hS hA [0, 1, 2] [3] rfl rfl (by decide) (by decide) (fun H locs hP hD hS => ?_)
            have hP : va_P (dC, dI) vwCl [(m0, .inr (5, [.int th, .ref mu, .ref mz, .ref mb, .ref mr])), (mu, .inl (cI, 510, .inl (nf (uN U1 (255 * r + c9) (B (f + i)))))), (mz, .inl (cI, 2, .inl (nf (uN Z r (c9 + 1))))), (mb, .inl (cI, 1024, .inl (nf B)))] H := hP.sub [1, 2, 3, 0] rfl
            have hD : va_D A [(m0, .inr (5, [.int th, .ref mu, .ref mz, .ref mb, .ref mr])), (mu, .inl (cI, 510, .inl (nf (uN U1 (255 * r + c9) (B (f + i)))))), (mz, .inl (cI, 2, .inl (nf (uN Z r (c9 + 1))))), (mb, .inl (cI, 1024, .inl (nf B)))] := hD.sub [1, 2, 3, 0] (by decide) rfl
            refine lv_iinc (v := nI (i + 1)) (lv' := [(3, .int (nI (i + 1))), (0, .ref m0), (1, .int (nI r)), (2, .int (nI f))]) hx hb d_Mo_readShown_61 hl (k := 3) rfl (mk_i1 i) (by decide) rfl (fun ls hl => ?_)
            refine lv_goto (tgt := 2) hx hb d_Mo_readShown_64 (by decide) ?_
            have hl : lv_has ls 4 [(0, .ref m0), (1, .int (nI r)), (2, .int (nI f)), (3, .int (nI (i + 1)))] := lv_sub hl [1, 2, 3, 0] rfl
            exact ih2 (i + 1) (c9 + 1) (uN U1 (255 * r + c9) (B (f + i))) _ _ _ (by omega) (by omega) (by omega) ⟨hE.1.trans (by rw [rsC]; (first | rw [if_pos ⟨by omega, by omega⟩] | rw [if_neg (by omega)]); (first | rw [if_pos (by omega)] | rw [if_neg (by omega)])), hE.2.trans (by rw [rsU]; (first | rw [if_pos ⟨by omega, by omega⟩] | rw [if_neg (by omega)]); (first | rw [if_pos (by omega)] | rw [if_neg (by omega)]))⟩ hP hD hS hl
        · skip
          rw [nI_eq (by omega) (by omega)] at c_3
          refine lv_aload_n hx hb d_Mo_readShown_14 rfl (lv_at hl 0 rfl) ?_
          refine va_get (D := (dC, dI)) (ci := 5) (v := .ref mb) (C := "LongNamesModel") (T := F_Mo) (N := 5) hx hb hts (iw_Mo _) hown hK hP 0 rfl rfl 3 (by decide) (hts _ (List.mem_cons_of_mem _ k_525)) (fun _ h9 => h9) rfl d_Mo_readShown_15 ?_
          refine lv_iload_n hx hb d_Mo_readShown_18 rfl (lv_at hl 2 rfl) ?_
          refine lv_bipush (v := nI 8) hx hb d_Mo_readShown_19 (by decide) ?_
          refine lv_iadd hx hb d_Mo_readShown_21 ?_
          refine mk_ti (y := nI (f + 8)) (nI_add f 8) ?_
          refine va_iald hx hb hK hP 3 0 rfl rfl (vp_in_nI (N := 1024) (show f + 8 < 1024 by omega) (by decide)) d_Mo_readShown_22 ?_
          refine mk_ti (y := nI (B (f + 8))) (by rw [nI_clamp (by omega)]; rfl) ?_
          have b_7 := hB (f + 8)
          refine lv_bipush (v := nI 32) hx hb d_Mo_readShown_23 (by decide) ?_
          refine lv_icmp_eq (tgt := 35) hx hb d_Mo_readShown_25 (by decide) (fun c_8 => ?_) (fun c_8 => ?_)
          · skip
            rw [nI_eq (by omega) (by omega)] at c_8
            refine lv_aload_n hx hb d_Mo_readShown_35 rfl (lv_at hl 0 rfl) ?_
            refine va_get (D := (dC, dI)) (ci := 5) (v := .ref mb) (C := "LongNamesModel") (T := F_Mo) (N := 5) hx hb hts (iw_Mo _) hown hK hP 0 rfl rfl 3 (by decide) (hts _ (List.mem_cons_of_mem _ k_525)) (fun _ h9 => h9) rfl d_Mo_readShown_36 ?_
            refine lv_iload_n hx hb d_Mo_readShown_39 rfl (lv_at hl 2 rfl) ?_
            refine lv_iload_n hx hb d_Mo_readShown_40 rfl (lv_at hl 3 rfl) ?_
            refine lv_iadd hx hb d_Mo_readShown_41 ?_
            refine mk_ti (y := nI (f + i)) (nI_add f i) ?_
            refine va_iald hx hb hK hP 3 0 rfl rfl (vp_in_nI (N := 1024) (show f + i < 1024 by omega) (by decide)) d_Mo_readShown_42 ?_
            refine mk_ti (y := nI (B (f + i))) (by rw [nI_clamp (by omega)]; rfl) ?_
            have b_9 := hB (f + i)
            refine lv_bipush (v := nI 32) hx hb d_Mo_readShown_43 (by decide) ?_
            refine lv_icmp_eq (tgt := 61) hx hb d_Mo_readShown_45 (by decide) (fun c_10 => ?_) (fun c_10 => ?_)
            · skip
              rw [nI_eq (by omega) (by omega)] at c_10
              refine lv_iinc (v := nI (i + 1)) (lv' := [(3, .int (nI (i + 1))), (0, .ref m0), (1, .int (nI r)), (2, .int (nI f))]) hx hb d_Mo_readShown_61 hl (k := 3) rfl (mk_i1 i) (by decide) rfl (fun ls hl => ?_)
              refine lv_goto (tgt := 2) hx hb d_Mo_readShown_64 (by decide) ?_
              have hl : lv_has ls 4 [(0, .ref m0), (1, .int (nI r)), (2, .int (nI f)), (3, .int (nI (i + 1)))] := lv_sub hl [1, 2, 3, 0] rfl
              exact ih2 (i + 1) c9 U1 _ _ _ (by omega) (by omega) (by omega) ⟨hE.1.trans (by rw [rsC]; (first | rw [if_pos ⟨by omega, by omega⟩] | rw [if_neg (by omega)]); (first | rw [if_pos (by omega)] | rw [if_neg (by omega)])), hE.2.trans (by rw [rsU]; (first | rw [if_pos ⟨by omega, by omega⟩] | rw [if_neg (by omega)]); (first | rw [if_pos (by omega)] | rw [if_neg (by omega)]))⟩ hP hD hS hl
            · skip
              rw [nI_eq (by omega) (by omega)] at c_10
              refine lv_aload_n hx hb d_Mo_readShown_48 rfl (lv_at hl 0 rfl) ?_
              refine lv_iload_n hx hb d_Mo_readShown_49 rfl (lv_at hl 1 rfl) ?_
              refine lv_aload_n hx hb d_Mo_readShown_50 rfl (lv_at hl 0 rfl) ?_
              refine va_get (D := (dC, dI)) (ci := 5) (v := .ref mb) (C := "LongNamesModel") (T := F_Mo) (N := 5) hx hb hts (iw_Mo _) hown hK hP 0 rfl rfl 3 (by decide) (hts _ (List.mem_cons_of_mem _ k_525)) (fun _ h9 => h9) rfl d_Mo_readShown_51 ?_
              refine lv_iload_n hx hb d_Mo_readShown_54 rfl (lv_at hl 2 rfl) ?_
              refine lv_iload_n hx hb d_Mo_readShown_55 rfl (lv_at hl 3 rfl) ?_
              refine lv_iadd hx hb d_Mo_readShown_56 ?_
              refine mk_ti (y := nI (f + i)) (nI_add f i) ?_
              refine va_iald hx hb hK hP 3 0 rfl rfl (vp_in_nI (N := 1024) (show f + i < 1024 by omega) (by decide)) d_Mo_readShown_57 ?_
              refine mk_ti (y := nI (B (f + i))) (by rw [nI_clamp (by omega)]; rfl) ?_
              have b_11 := hB (f + i)
              refine mk_w0 (wr := [(mb, .inl (cI, 1024, .inl (nf B)))]) (W.runV (As := [.int (nI r), .int (nI (B (f + i)))]) (rest := []) S ((c_Mo_add l dC dI cI m0 th mu mz mb mr U1 Z r c9 (B (f + i)) (by first | assumption | omega) (by first | assumption | omega)) _) (gV 2 hts k_633 k_635 k_21 k_29 k_636 (by decide +kernel) ⟨Nat.le_of_ble_eq_true rfl, Nat.le_of_ble_eq_true rfl⟩) (mk_vM hP hD hK hT hS hA [0, 1, 2] rfl rfl (by decide) (q0 := 0) (ci := 5) rfl rfl) rfl rfl hl.1 rfl (lv_room (Nat.le_of_ble_eq_true rfl)) d_Mo_readShown_58 ⟨Nat.zero_le _, Nat.zero_le _⟩) hP hD hS hA [0, 1, 2] [3] rfl rfl (by decide) (by decide) (fun H locs hP hD hS => ?_)
              have hP : va_P (dC, dI) vwCl [(m0, .inr (5, [.int th, .ref mu, .ref mz, .ref mb, .ref mr])), (mu, .inl (cI, 510, .inl (nf (uN U1 (255 * r + c9) (B (f + i)))))), (mz, .inl (cI, 2, .inl (nf (uN Z r (c9 + 1))))), (mb, .inl (cI, 1024, .inl (nf B)))] H := hP.sub [1, 2, 3, 0] rfl
              have hD : va_D A [(m0, .inr (5, [.int th, .ref mu, .ref mz, .ref mb, .ref mr])), (mu, .inl (cI, 510, .inl (nf (uN U1 (255 * r + c9) (B (f + i)))))), (mz, .inl (cI, 2, .inl (nf (uN Z r (c9 + 1))))), (mb, .inl (cI, 1024, .inl (nf B)))] := hD.sub [1, 2, 3, 0] (by decide) rfl
              refine lv_iinc (v := nI (i + 1)) (lv' := [(3, .int (nI (i + 1))), (0, .ref m0), (1, .int (nI r)), (2, .int (nI f))]) hx hb d_Mo_readShown_61 hl (k := 3) rfl (mk_i1 i) (by decide) rfl (fun ls hl => ?_)
              refine lv_goto (tgt := 2) hx hb d_Mo_readShown_64 (by decide) ?_
              have hl : lv_has ls 4 [(0, .ref m0), (1, .int (nI r)), (2, .int (nI f)), (3, .int (nI (i + 1)))] := lv_sub hl [1, 2, 3, 0] rfl
              exact ih2 (i + 1) (c9 + 1) (uN U1 (255 * r + c9) (B (f + i))) _ _ _ (by omega) (by omega) (by omega) ⟨hE.1.trans (by rw [rsC]; (first | rw [if_pos ⟨by omega, by omega⟩] | rw [if_neg (by omega)]); (first | rw [if_pos (by omega)] | rw [if_neg (by omega)])), hE.2.trans (by rw [rsU]; (first | rw [if_pos ⟨by omega, by omega⟩] | rw [if_neg (by omega)]); (first | rw [if_pos (by omega)] | rw [if_neg (by omega)]))⟩ hP hD hS hl
          · skip
            rw [nI_eq (by omega) (by omega)] at c_8
            refine lv_aload_n hx hb d_Mo_readShown_28 rfl (lv_at hl 0 rfl) ?_
            refine lv_iload_n hx hb d_Mo_readShown_29 rfl (lv_at hl 1 rfl) ?_
            refine lv_bipush (v := nI 46) hx hb d_Mo_readShown_30 (by decide) ?_
            refine mk_w0 (wr := [(mb, .inl (cI, 1024, .inl (nf B)))]) (W.runV (As := [.int (nI r), .int (nI 46)]) (rest := []) S ((c_Mo_add l dC dI cI m0 th mu mz mb mr U1 Z r c9 46 (by first | assumption | omega) (by first | assumption | omega)) _) (gV 2 hts k_633 k_635 k_21 k_29 k_636 (by decide +kernel) ⟨Nat.le_of_ble_eq_true rfl, Nat.le_of_ble_eq_true rfl⟩) (mk_vM hP hD hK hT hS hA [0, 1, 2] rfl rfl (by decide) (q0 := 0) (ci := 5) rfl rfl) rfl rfl hl.1 rfl (lv_room (Nat.le_of_ble_eq_true rfl)) d_Mo_readShown_32 ⟨Nat.zero_le _, Nat.zero_le _⟩) hP hD hS hA [0, 1, 2] [3] rfl rfl (by decide) (by decide) (fun H locs hP hD hS => ?_)
            have hP : va_P (dC, dI) vwCl [(m0, .inr (5, [.int th, .ref mu, .ref mz, .ref mb, .ref mr])), (mu, .inl (cI, 510, .inl (nf (uN U1 (255 * r + c9) 46)))), (mz, .inl (cI, 2, .inl (nf (uN Z r (c9 + 1))))), (mb, .inl (cI, 1024, .inl (nf B)))] H := hP.sub [1, 2, 3, 0] rfl
            have hD : va_D A [(m0, .inr (5, [.int th, .ref mu, .ref mz, .ref mb, .ref mr])), (mu, .inl (cI, 510, .inl (nf (uN U1 (255 * r + c9) 46)))), (mz, .inl (cI, 2, .inl (nf (uN Z r (c9 + 1))))), (mb, .inl (cI, 1024, .inl (nf B)))] := hD.sub [1, 2, 3, 0] (by decide) rfl
            refine lv_aload_n hx hb d_Mo_readShown_35 rfl (lv_at hl 0 rfl) ?_
            refine va_get (D := (dC, dI)) (ci := 5) (v := .ref mb) (C := "LongNamesModel") (T := F_Mo) (N := 5) hx hb hts (iw_Mo _) hown hK hP 0 rfl rfl 3 (by decide) (hts _ (List.mem_cons_of_mem _ k_525)) (fun _ h9 => h9) rfl d_Mo_readShown_36 ?_
            refine lv_iload_n hx hb d_Mo_readShown_39 rfl (lv_at hl 2 rfl) ?_
            refine lv_iload_n hx hb d_Mo_readShown_40 rfl (lv_at hl 3 rfl) ?_
            refine lv_iadd hx hb d_Mo_readShown_41 ?_
            refine mk_ti (y := nI (f + i)) (nI_add f i) ?_
            refine va_iald hx hb hK hP 3 0 rfl rfl (vp_in_nI (N := 1024) (show f + i < 1024 by omega) (by decide)) d_Mo_readShown_42 ?_
            refine mk_ti (y := nI (B (f + i))) (by rw [nI_clamp (by omega)]; rfl) ?_
            have b_12 := hB (f + i)
            refine lv_bipush (v := nI 32) hx hb d_Mo_readShown_43 (by decide) ?_
            refine lv_icmp_eq (tgt := 61) hx hb d_Mo_readShown_45 (by decide) (fun c_13 => ?_) (fun c_13 => ?_)
            · skip
              rw [nI_eq (by omega) (by omega)] at c_13
              refine lv_iinc (v := nI (i + 1)) (lv' := [(3, .int (nI (i + 1))), (0, .ref m0), (1, .int (nI r)), (2, .int (nI f))]) hx hb d_Mo_readShown_61 hl (k := 3) rfl (mk_i1 i) (by decide) rfl (fun ls hl => ?_)
              refine lv_goto (tgt := 2) hx hb d_Mo_readShown_64 (by decide) ?_
              have hl : lv_has ls 4 [(0, .ref m0), (1, .int (nI r)), (2, .int (nI f)), (3, .int (nI (i + 1)))] := lv_sub hl [1, 2, 3, 0] rfl
              exact ih2 (i + 1) (c9 + 1) (uN U1 (255 * r + c9) 46) _ _ _ (by omega) (by omega) (by omega) ⟨hE.1.trans (by rw [rsC]; (first | rw [if_pos ⟨by omega, by omega⟩] | rw [if_neg (by omega)]); (first | rw [if_pos (by omega)] | rw [if_neg (by omega)])), hE.2.trans (by rw [rsU]; (first | rw [if_pos ⟨by omega, by omega⟩] | rw [if_neg (by omega)]); (first | rw [if_pos (by omega)] | rw [if_neg (by omega)]))⟩ hP hD hS hl
            · skip
              rw [nI_eq (by omega) (by omega)] at c_13
              refine lv_aload_n hx hb d_Mo_readShown_48 rfl (lv_at hl 0 rfl) ?_
              refine lv_iload_n hx hb d_Mo_readShown_49 rfl (lv_at hl 1 rfl) ?_
              refine lv_aload_n hx hb d_Mo_readShown_50 rfl (lv_at hl 0 rfl) ?_
              refine va_get (D := (dC, dI)) (ci := 5) (v := .ref mb) (C := "LongNamesModel") (T := F_Mo) (N := 5) hx hb hts (iw_Mo _) hown hK hP 0 rfl rfl 3 (by decide) (hts _ (List.mem_cons_of_mem _ k_525)) (fun _ h9 => h9) rfl d_Mo_readShown_51 ?_
              refine lv_iload_n hx hb d_Mo_readShown_54 rfl (lv_at hl 2 rfl) ?_
              refine lv_iload_n hx hb d_Mo_readShown_55 rfl (lv_at hl 3 rfl) ?_
              refine lv_iadd hx hb d_Mo_readShown_56 ?_
              refine mk_ti (y := nI (f + i)) (nI_add f i) ?_
              refine va_iald hx hb hK hP 3 0 rfl rfl (vp_in_nI (N := 1024) (show f + i < 1024 by omega) (by decide)) d_Mo_readShown_57 ?_
              refine mk_ti (y := nI (B (f + i))) (by rw [nI_clamp (by omega)]; rfl) ?_
              have b_14 := hB (f + i)
              refine mk_w0 (wr := [(mb, .inl (cI, 1024, .inl (nf B)))]) (W.runV (As := [.int (nI r), .int (nI (B (f + i)))]) (rest := []) S ((c_Mo_add l dC dI cI m0 th mu mz mb mr (uN U1 (255 * r + c9) 46) Z r (c9 + 1) (B (f + i)) (by first | assumption | omega) (by first | assumption | omega)) _) (gV 2 hts k_633 k_635 k_21 k_29 k_636 (by decide +kernel) ⟨Nat.le_of_ble_eq_true rfl, Nat.le_of_ble_eq_true rfl⟩) (mk_vM hP hD hK hT hS hA [0, 1, 2] rfl rfl (by decide) (q0 := 0) (ci := 5) rfl rfl) rfl rfl hl.1 rfl (lv_room (Nat.le_of_ble_eq_true rfl)) d_Mo_readShown_58 ⟨Nat.zero_le _, Nat.zero_le _⟩) hP hD hS hA [0, 1, 2] [3] rfl rfl (by decide) (by decide) (fun H locs hP hD hS => ?_)
              have hP : va_P (dC, dI) vwCl [(m0, .inr (5, [.int th, .ref mu, .ref mz, .ref mb, .ref mr])), (mu, .inl (cI, 510, .inl (nf (uN (uN U1 (255 * r + c9) 46) (255 * r + (c9 + 1)) (B (f + i)))))), (mz, .inl (cI, 2, .inl (nf (uN Z r ((c9 + 1) + 1))))), (mb, .inl (cI, 1024, .inl (nf B)))] H := hP.sub [1, 2, 3, 0] rfl
              have hD : va_D A [(m0, .inr (5, [.int th, .ref mu, .ref mz, .ref mb, .ref mr])), (mu, .inl (cI, 510, .inl (nf (uN (uN U1 (255 * r + c9) 46) (255 * r + (c9 + 1)) (B (f + i)))))), (mz, .inl (cI, 2, .inl (nf (uN Z r ((c9 + 1) + 1))))), (mb, .inl (cI, 1024, .inl (nf B)))] := hD.sub [1, 2, 3, 0] (by decide) rfl
              refine lv_iinc (v := nI (i + 1)) (lv' := [(3, .int (nI (i + 1))), (0, .ref m0), (1, .int (nI r)), (2, .int (nI f))]) hx hb d_Mo_readShown_61 hl (k := 3) rfl (mk_i1 i) (by decide) rfl (fun ls hl => ?_)
              refine lv_goto (tgt := 2) hx hb d_Mo_readShown_64 (by decide) ?_
              have hl : lv_has ls 4 [(0, .ref m0), (1, .int (nI r)), (2, .int (nI f)), (3, .int (nI (i + 1)))] := lv_sub hl [1, 2, 3, 0] rfl
              exact ih2 (i + 1) ((c9 + 1) + 1) (uN (uN U1 (255 * r + c9) 46) (255 * r + (c9 + 1)) (B (f + i))) _ _ _ (by omega) (by omega) (by omega) ⟨hE.1.trans (by rw [rsC]; (first | rw [if_pos ⟨by omega, by omega⟩] | rw [if_neg (by omega)]); (first | rw [if_pos (by omega)] | rw [if_neg (by omega)])), hE.2.trans (by rw [rsU]; (first | rw [if_pos ⟨by omega, by omega⟩] | rw [if_neg (by omega)]); (first | rw [if_pos (by omega)] | rw [if_neg (by omega)]))⟩ hP hD hS hl
  have hl : lv_has ls 4 [(0, .ref m0), (1, .int (nI r)), (2, .int (nI f)), (3, .int (nI 0))] := lv_sub hl [1, 2, 3, 0] rfl
  exact lp2 11 0 0 U _ _ _ rfl (by omega) (by omega) ⟨rfl, rfl⟩ hP hD hS hl

