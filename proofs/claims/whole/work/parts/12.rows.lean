set_option maxHeartbeats 4000000 in
set_option maxRecDepth 100000 in
theorem c_Ro_size (l : Launch) (dC : Nat → ClassId) (dI : Nat → Nat → Nat) (cI : ClassId) (h a n : Nat) (v : Nat → Nat)  : mR l y_Ro_size w_Ro_size ({ frames := 0, cells := 0, slots := 0, locals := 0 } : Room) [.ref h] (dC, dI) vwCl [(cI, .int)] [(h, .inr (1, [.ref a, .int (nI n)])), (a, .inl (cI, 255, .inl (nf v)))] (some (.int (nI n))) := by
  refine mk_Ri (cc := b_Ro_size) (maxL := 1) (by decide) rfl (Nat.le_of_ble_eq_true rfl) rfl ?_
  intro p e s m below meth c Q A ls S hP hK hT hS hl hret
  obtain ⟨hx, hb, hml, hown, hts⟩ := id S
  have hl : lv_has ls 1 [(0, .ref h)] := hl
  refine lv_aload_n hx hb d_Ro_size_0 rfl (lv_at hl 0 rfl) ?_
  refine va_get (D := (dC, dI)) (ci := 1) (v := .int (nI n)) (C := "LongNames$Row") (T := F_Ro) (N := 2) hx hb hts (iw_Ro _) hown hK hP 0 rfl rfl 1 (by decide) (hts _ (List.mem_cons_of_mem _ k_54)) (fun _ h9 => h9) rfl d_Ro_size_1 ?_
  exact hret _ _ d_Ro_size_4

set_option maxHeartbeats 4000000 in
set_option maxRecDepth 100000 in
theorem c_Ro_empty (l : Launch) (dC : Nat → ClassId) (dI : Nat → Nat → Nat) (cI : ClassId) (h a n : Nat) (v : Nat → Nat)  : mM l y_Ro_makeEmpty w_Ro_makeEmpty ({ frames := 0, cells := 0, slots := 0, locals := 0 } : Room) [.ref h] (dC, dI) vwCl [(cI, .int)] [(h, .inr (1, [.ref a, .int (nI n)])), (a, .inl (cI, 255, .inl (nf v)))] none [(h, .inr (1, [.ref a, .int (nI 0)])), (a, .inl (cI, 255, .inl (nf v)))] := by
  refine mk_Mv (cc := b_Ro_makeEmpty) (maxL := 1) (by decide) rfl (Nat.le_of_ble_eq_true rfl) ?_
  intro p e s m below meth c Q A ls S hP hK hT hS hl hD hA hret
  obtain ⟨hx, hb, hml, hown, hts⟩ := id S
  have hl : lv_has ls 1 [(0, .ref h)] := hl
  refine lv_aload_n hx hb d_Ro_makeEmpty_0 rfl (lv_at hl 0 rfl) ?_
  refine lv_iconst (v := nI 0) hx hb d_Ro_makeEmpty_1 (by decide) ?_
  refine va_put (D := (dC, dI)) (ci := 1) (v := .int (nI 0)) (ty := .int) (C := "LongNames$Row") (T := F_Ro) (N := 2) hx hb hts (iw_Ro _) t_Ro t_Ro_ok n_Ro hown hK hP hD hS 0 rfl rfl 1 (by decide) (hts _ (List.mem_cons_of_mem _ k_54)) (fun _ h9 => h9) rfl (by decide +kernel) rfl rfl (Nat.le_of_ble_eq_true rfl) d_Ro_makeEmpty_2 (fun H locs hP hD hS => ?_)
  have hP : va_P (dC, dI) vwCl [(h, .inr (1, [.ref a, .int (nI 0)])), (a, .inl (cI, 255, .inl (nf v)))] H := hP
  have hD : va_D A [(h, .inr (1, [.ref a, .int (nI 0)])), (a, .inl (cI, 255, .inl (nf v)))] := hD
  exact hret _ _ _ _ d_Ro_makeEmpty_5 hP hD hS

set_option maxHeartbeats 4000000 in
set_option maxRecDepth 100000 in
theorem c_Ro_app (l : Launch) (dC : Nat → ClassId) (dI : Nat → Nat → Nat) (cI : ClassId) (h a n : Nat) (v : Nat → Nat) (x : Nat) (hn : n < 255) : mM l y_Ro_append w_Ro_append ({ frames := 0, cells := 0, slots := 0, locals := 0 } : Room) [.ref h, .int (nI x)] (dC, dI) vwCl [(cI, .int)] [(h, .inr (1, [.ref a, .int (nI n)])), (a, .inl (cI, 255, .inl (nf v)))] (some (.int (nI 1))) [(h, .inr (1, [.ref a, .int (nI (n + 1))])), (a, .inl (cI, 255, .inl (nf (uN v n x))))] := by
  refine mk_Mi (cc := b_Ro_append) (maxL := 2) (by decide) rfl (Nat.le_of_ble_eq_true rfl) (rfl) ?_
  intro p e s m below meth c Q A ls S hP hK hT hS hl hD hA hret
  obtain ⟨hx, hb, hml, hown, hts⟩ := id S
  have hl : lv_has ls 2 [(0, .ref h), (1, .int (nI x))] := hl
  refine lv_aload_n hx hb d_Ro_append_0 rfl (lv_at hl 0 rfl) ?_
  refine va_get (D := (dC, dI)) (ci := 1) (v := .int (nI n)) (C := "LongNames$Row") (T := F_Ro) (N := 2) hx hb hts (iw_Ro _) hown hK hP 0 rfl rfl 1 (by decide) (hts _ (List.mem_cons_of_mem _ k_54)) (fun _ h9 => h9) rfl d_Ro_append_1 ?_
  refine lv_if_lt (tgt := 17) hx hb d_Ro_append_4 (by decide) (fun c_1 => ?_) (fun c_1 => ?_)
  · skip
    rw [mk_clt (by omega)] at c_1
    first | omega | contradiction
  · skip
    rw [mk_clt (by omega)] at c_1
    refine lv_aload_n hx hb d_Ro_append_7 rfl (lv_at hl 0 rfl) ?_
    refine va_get (D := (dC, dI)) (ci := 1) (v := .int (nI n)) (C := "LongNames$Row") (T := F_Ro) (N := 2) hx hb hts (iw_Ro _) hown hK hP 0 rfl rfl 1 (by decide) (hts _ (List.mem_cons_of_mem _ k_54)) (fun _ h9 => h9) rfl d_Ro_append_8 ?_
    refine lv_sipush (v := nI 255) hx hb d_Ro_append_11 (by decide) ?_
    refine lv_icmp_lt (tgt := 19) hx hb d_Ro_append_14 (by decide) (fun c_2 => ?_) (fun c_2 => ?_)
    · skip
      rw [nI_ltI (by omega) (by omega)] at c_2
      refine lv_aload_n hx hb d_Ro_append_19 rfl (lv_at hl 0 rfl) ?_
      refine va_get (D := (dC, dI)) (ci := 1) (v := .ref a) (C := "LongNames$Row") (T := F_Ro) (N := 2) hx hb hts (iw_Ro _) hown hK hP 0 rfl rfl 0 (by decide) (hts _ (List.mem_cons_of_mem _ k_53)) (fun _ h9 => h9) rfl d_Ro_append_20 ?_
      refine lv_aload_n hx hb d_Ro_append_23 rfl (lv_at hl 0 rfl) ?_
      refine va_get (D := (dC, dI)) (ci := 1) (v := .int (nI n)) (C := "LongNames$Row") (T := F_Ro) (N := 2) hx hb hts (iw_Ro _) hown hK hP 0 rfl rfl 1 (by decide) (hts _ (List.mem_cons_of_mem _ k_54)) (fun _ h9 => h9) rfl d_Ro_append_24 ?_
      refine lv_iload_n hx hb d_Ro_append_27 rfl (lv_at hl 1 rfl) ?_
      refine va_iast hx hb hK hP hD hS 1 0 rfl rfl (vp_in_nI (N := 255) (show n < 255 by omega) (by decide)) d_Ro_append_28 (fun H locs hP hD hS => ?_)
      rw [nI_clamp (by omega), nf_up] at hP hD
      have hP : va_P (dC, dI) vwCl [(h, .inr (1, [.ref a, .int (nI n)])), (a, .inl (cI, 255, .inl (nf (uN v n x))))] H := hP
      have hD : va_D A [(h, .inr (1, [.ref a, .int (nI n)])), (a, .inl (cI, 255, .inl (nf (uN v n x))))] := hD
      refine lv_aload_n hx hb d_Ro_append_29 rfl (lv_at hl 0 rfl) ?_
      refine lv_dup hx hb d_Ro_append_30 rfl ?_
      refine va_get (D := (dC, dI)) (ci := 1) (v := .int (nI n)) (C := "LongNames$Row") (T := F_Ro) (N := 2) hx hb hts (iw_Ro _) hown hK hP 0 rfl rfl 1 (by decide) (hts _ (List.mem_cons_of_mem _ k_54)) (fun _ h9 => h9) rfl d_Ro_append_31 ?_
      refine lv_iconst (v := nI 1) hx hb d_Ro_append_34 (by decide) ?_
      refine lv_iadd hx hb d_Ro_append_35 ?_
      refine mk_ti (y := nI (n + 1)) (nI_add n 1) ?_
      refine va_put (D := (dC, dI)) (ci := 1) (v := .int (nI (n + 1))) (ty := .int) (C := "LongNames$Row") (T := F_Ro) (N := 2) hx hb hts (iw_Ro _) t_Ro t_Ro_ok n_Ro hown hK hP hD hS 0 rfl rfl 1 (by decide) (hts _ (List.mem_cons_of_mem _ k_54)) (fun _ h9 => h9) rfl (by decide +kernel) rfl rfl (Nat.le_of_ble_eq_true rfl) d_Ro_append_36 (fun H locs hP hD hS => ?_)
      have hP : va_P (dC, dI) vwCl [(h, .inr (1, [.ref a, .int (nI (n + 1))])), (a, .inl (cI, 255, .inl (nf (uN v n x))))] H := hP
      have hD : va_D A [(h, .inr (1, [.ref a, .int (nI (n + 1))])), (a, .inl (cI, 255, .inl (nf (uN v n x))))] := hD
      refine lv_iconst (v := nI 1) hx hb d_Ro_append_39 (by decide) ?_
      exact hret _ _ _ _ d_Ro_append_40 hP hD hS
    · skip
      rw [nI_ltI (by omega) (by omega)] at c_2
      first | omega | contradiction

set_option maxHeartbeats 4000000 in
set_option maxRecDepth 100000 in
theorem c_Ro_full (l : Launch) (dC : Nat → ClassId) (dI : Nat → Nat → Nat) (cI : ClassId) (h a n : Nat) (v : Nat → Nat) (x : Int32) (hn : n = 255) : mM l y_Ro_append w_Ro_append ({ frames := 0, cells := 0, slots := 0, locals := 0 } : Room) [.ref h, .int x] (dC, dI) vwCl [(cI, .int)] [(h, .inr (1, [.ref a, .int (nI n)])), (a, .inl (cI, 255, .inl (nf v)))] (some (.int (nI 0))) [(h, .inr (1, [.ref a, .int (nI n)])), (a, .inl (cI, 255, .inl (nf v)))] := by
  refine mk_Mi (cc := b_Ro_append) (maxL := 2) (by decide) rfl (Nat.le_of_ble_eq_true rfl) (rfl) ?_
  intro p e s m below meth c Q A ls S hP hK hT hS hl hD hA hret
  obtain ⟨hx, hb, hml, hown, hts⟩ := id S
  have hl : lv_has ls 2 [(0, .ref h), (1, .int x)] := hl
  refine lv_aload_n hx hb d_Ro_append_0 rfl (lv_at hl 0 rfl) ?_
  refine va_get (D := (dC, dI)) (ci := 1) (v := .int (nI n)) (C := "LongNames$Row") (T := F_Ro) (N := 2) hx hb hts (iw_Ro _) hown hK hP 0 rfl rfl 1 (by decide) (hts _ (List.mem_cons_of_mem _ k_54)) (fun _ h9 => h9) rfl d_Ro_append_1 ?_
  refine lv_if_lt (tgt := 17) hx hb d_Ro_append_4 (by decide) (fun c_1 => ?_) (fun c_1 => ?_)
  · skip
    rw [mk_clt (by omega)] at c_1
    first | omega | contradiction
  · skip
    rw [mk_clt (by omega)] at c_1
    refine lv_aload_n hx hb d_Ro_append_7 rfl (lv_at hl 0 rfl) ?_
    refine va_get (D := (dC, dI)) (ci := 1) (v := .int (nI n)) (C := "LongNames$Row") (T := F_Ro) (N := 2) hx hb hts (iw_Ro _) hown hK hP 0 rfl rfl 1 (by decide) (hts _ (List.mem_cons_of_mem _ k_54)) (fun _ h9 => h9) rfl d_Ro_append_8 ?_
    refine lv_sipush (v := nI 255) hx hb d_Ro_append_11 (by decide) ?_
    refine lv_icmp_lt (tgt := 19) hx hb d_Ro_append_14 (by decide) (fun c_2 => ?_) (fun c_2 => ?_)
    · skip
      rw [nI_ltI (by omega) (by omega)] at c_2
      first | omega | contradiction
    · skip
      rw [nI_ltI (by omega) (by omega)] at c_2
      refine lv_iconst (v := nI 0) hx hb d_Ro_append_17 (by decide) ?_
      exact hret _ _ _ _ d_Ro_append_18 hP hD hS

set_option maxHeartbeats 4000000 in
set_option maxRecDepth 100000 in
theorem c_Ro_get (l : Launch) (dC : Nat → ClassId) (dI : Nat → Nat → Nat) (cI : ClassId) (h a n : Nat) (v : Nat → Nat) (j : Nat) (hn : n ≤ 255) (hv : ∀ j, v j < 65536) (hj : j < n) : mR l y_Ro_get w_Ro_get ({ frames := 0, cells := 0, slots := 0, locals := 0 } : Room) [.ref h, .int (nI j)] (dC, dI) vwCl [(cI, .int)] [(h, .inr (1, [.ref a, .int (nI n)])), (a, .inl (cI, 255, .inl (nf v)))] (some (.int (nI (v j)))) := by
  refine mk_Ri (cc := b_Ro_get) (maxL := 2) (by decide) rfl (Nat.le_of_ble_eq_true rfl) rfl ?_
  intro p e s m below meth c Q A ls S hP hK hT hS hl hret
  obtain ⟨hx, hb, hml, hown, hts⟩ := id S
  have hl : lv_has ls 2 [(0, .ref h), (1, .int (nI j))] := hl
  refine lv_iload_n hx hb d_Ro_get_0 rfl (lv_at hl 1 rfl) ?_
  refine lv_if_lt (tgt := 28) hx hb d_Ro_get_1 (by decide) (fun c_1 => ?_) (fun c_1 => ?_)
  · skip
    rw [mk_clt (by omega)] at c_1
    first | omega | contradiction
  · skip
    rw [mk_clt (by omega)] at c_1
    refine lv_iload_n hx hb d_Ro_get_4 rfl (lv_at hl 1 rfl) ?_
    refine lv_aload_n hx hb d_Ro_get_5 rfl (lv_at hl 0 rfl) ?_
    refine va_get (D := (dC, dI)) (ci := 1) (v := .int (nI n)) (C := "LongNames$Row") (T := F_Ro) (N := 2) hx hb hts (iw_Ro _) hown hK hP 0 rfl rfl 1 (by decide) (hts _ (List.mem_cons_of_mem _ k_54)) (fun _ h9 => h9) rfl d_Ro_get_6 ?_
    refine lv_icmp_ge (tgt := 28) hx hb d_Ro_get_9 (by decide) (fun c_2 => ?_) (fun c_2 => ?_)
    · skip
      rw [nI_leI (by omega) (by omega)] at c_2
      first | omega | contradiction
    · skip
      rw [nI_leI (by omega) (by omega)] at c_2
      refine lv_iload_n hx hb d_Ro_get_12 rfl (lv_at hl 1 rfl) ?_
      refine lv_sipush (v := nI 255) hx hb d_Ro_get_13 (by decide) ?_
      refine lv_icmp_ge (tgt := 28) hx hb d_Ro_get_16 (by decide) (fun c_3 => ?_) (fun c_3 => ?_)
      · skip
        rw [nI_leI (by omega) (by omega)] at c_3
        first | omega | contradiction
      · skip
        rw [nI_leI (by omega) (by omega)] at c_3
        refine lv_aload_n hx hb d_Ro_get_19 rfl (lv_at hl 0 rfl) ?_
        refine va_get (D := (dC, dI)) (ci := 1) (v := .ref a) (C := "LongNames$Row") (T := F_Ro) (N := 2) hx hb hts (iw_Ro _) hown hK hP 0 rfl rfl 0 (by decide) (hts _ (List.mem_cons_of_mem _ k_53)) (fun _ h9 => h9) rfl d_Ro_get_20 ?_
        refine lv_iload_n hx hb d_Ro_get_23 rfl (lv_at hl 1 rfl) ?_
        refine va_iald hx hb hK hP 1 0 rfl rfl (vp_in_nI (N := 255) (show j < 255 by omega) (by decide)) d_Ro_get_24 ?_
        refine mk_ti (y := nI (v j)) (by rw [nI_clamp (by omega)]; rfl) ?_
        have b_4 := hv j
        refine lv_goto (tgt := 29) hx hb d_Ro_get_25 (by decide) ?_
        exact hret _ _ d_Ro_get_29

set_option maxHeartbeats 4000000 in
set_option maxRecDepth 100000 in
theorem c_Ro_getm (l : Launch) (dC : Nat → ClassId) (dI : Nat → Nat → Nat) (cI : ClassId) (h a n : Nat) (v : Nat → Nat)  : mR l y_Ro_get w_Ro_get ({ frames := 0, cells := 0, slots := 0, locals := 0 } : Room) [.ref h, .int (-1)] (dC, dI) vwCl [(cI, .int)] [(h, .inr (1, [.ref a, .int (nI n)])), (a, .inl (cI, 255, .inl (nf v)))] (some (.int (-1))) := by
  refine mk_Ri (cc := b_Ro_get) (maxL := 2) (by decide) rfl (Nat.le_of_ble_eq_true rfl) rfl ?_
  intro p e s m below meth c Q A ls S hP hK hT hS hl hret
  obtain ⟨hx, hb, hml, hown, hts⟩ := id S
  have hl : lv_has ls 2 [(0, .ref h), (1, .int (-1))] := hl
  refine lv_iload_n hx hb d_Ro_get_0 rfl (lv_at hl 1 rfl) ?_
  refine lv_if_lt (tgt := 28) hx hb d_Ro_get_1 (by decide) (fun c_1 => ?_) (fun c_1 => ?_)
  · skip
    refine lv_iconst (v := (-1)) hx hb d_Ro_get_28 (by decide) ?_
    exact hret _ _ d_Ro_get_29
  · skip
    exact absurd (by decide) c_1

set_option maxHeartbeats 4000000 in
set_option maxRecDepth 100000 in
theorem c_Ro_nameE (l : Launch) (dC : Nat → ClassId) (dI : Nat → Nat → Nat) (cI : ClassId) (h a : Nat) (v : Nat → Nat) : mR l y_Ro_isName w_Ro_isName ({ frames := 1, cells := 0, slots := 0, locals := 21 } : Room) [.ref h] (dC, dI) vwCl [(cI, .int)] [(h, .inr (1, [.ref a, .int (nI 0)])), (a, .inl (cI, 255, .inl (nf v)))] (some (.int (bI (nameN v 0)))) := by
  refine mk_Ri (cc := b_Ro_isName) (maxL := 2) (by decide) rfl (Nat.le_of_ble_eq_true rfl) (mk_nz _) ?_
  intro p e s m below meth c Q A ls S hP hK hT hS hl hret
  obtain ⟨hx, hb, hml, hown, hts⟩ := id S
  have hl : lv_has ls 2 [(0, .ref h)] := hl
  refine lv_iconst (v := nI 0) hx hb d_Ro_isName_0 (by decide) ?_
  refine lv_istore_n (lv' := [(1, .int (nI 0)), (0, .ref h)]) hx hb d_Ro_isName_1 rfl hl (by decide) rfl (fun ls hl => ?_)
  refine lv_iload_n hx hb d_Ro_isName_2 rfl (lv_at hl 0 rfl) ?_
  refine lv_aload_n hx hb d_Ro_isName_3 rfl (lv_at hl 1 rfl) ?_
  refine va_get (D := (dC, dI)) (ci := 1) (v := .int (nI 0)) (C := "LongNames$Row") (T := F_Ro) (N := 2) hx hb hts (iw_Ro _) hown hK hP 0 rfl rfl 1 (by decide) (hts _ (List.mem_cons_of_mem _ k_54)) (fun _ h9 => h9) rfl d_Ro_isName_4 ?_
  refine lv_icmp_ge (tgt := 29) hx hb d_Ro_isName_7 (by decide) (fun c_1 => ?_) (fun c_1 => ?_)
  · skip
    rw [nI_leI (by omega) (by omega)] at c_1
    refine lv_aload_n hx hb d_Ro_isName_29 rfl (lv_at hl 1 rfl) ?_
    refine lv_aload_n hx hb d_Ro_isName_30 rfl (lv_at hl 1 rfl) ?_
    refine va_get (D := (dC, dI)) (ci := 1) (v := .int (nI 0)) (C := "LongNames$Row") (T := F_Ro) (N := 2) hx hb hts (iw_Ro _) hown hK hP 0 rfl rfl 1 (by decide) (hts _ (List.mem_cons_of_mem _ k_54)) (fun _ h9 => h9) rfl d_Ro_isName_31 ?_
    refine lv_iconst (v := nI 1) hx hb d_Ro_isName_34 (by decide) ?_
    refine lv_isub hx hb d_Ro_isName_35 ?_
    refine mk_ti (y := (-1)) (by decide) ?_
    refine mk_r1 (W.runV (As := [.int (-1)]) (rest := []) S (c_Ro_getm l dC dI cI h a 0 v) (gV 1 hts k_140 k_141 k_142 k_25 k_143 (by decide +kernel) ⟨Nat.le_of_ble_eq_true rfl, Nat.le_of_ble_eq_true rfl⟩) (mk_vR hP hK hT hS [0, 1] rfl (q0 := 0) (ci := 1) rfl rfl) rfl rfl hl.1 rfl (lv_room (Nat.le_of_ble_eq_true rfl)) d_Ro_isName_36 ⟨Nat.zero_le _, Nat.zero_le _⟩) ?_
    refine lv_istore_n (lv' := [(1, .int (-1)), (0, .ref h)]) hx hb d_Ro_isName_39 rfl hl (by decide) rfl (fun ls hl => ?_)
    refine lv_aload_n hx hb d_Ro_isName_40 rfl (lv_at hl 1 rfl) ?_
    refine va_get (D := (dC, dI)) (ci := 1) (v := .int (nI 0)) (C := "LongNames$Row") (T := F_Ro) (N := 2) hx hb hts (iw_Ro _) hown hK hP 0 rfl rfl 1 (by decide) (hts _ (List.mem_cons_of_mem _ k_54)) (fun _ h9 => h9) rfl d_Ro_isName_41 ?_
    refine lv_if_le (tgt := 63) hx hb d_Ro_isName_44 (by decide) (fun c_2 => ?_) (fun c_2 => ?_)
    · skip
      rw [mk_cle (by omega)] at c_2
      refine lv_iconst (v := nI 0) hx hb d_Ro_isName_63 (by decide) ?_
      exact mk_ti (by exact mk_bf (by simp [nameN])) (hret _ _ d_Ro_isName_64)
    · skip
      rw [mk_cle (by omega)] at c_2
      first | omega | contradiction
  · skip
    rw [nI_leI (by omega) (by omega)] at c_1
    first | omega | contradiction

set_option maxHeartbeats 4000000 in
set_option maxRecDepth 100000 in
theorem c_Ro_nameS (l : Launch) (dC : Nat → ClassId) (dI : Nat → Nat → Nat) (cI : ClassId) (h a n : Nat) (v : Nat → Nat) (hn : n + 1 ≤ 255) (hv : ∀ j, v j < 65536) : mR l y_Ro_isName w_Ro_isName ({ frames := 1, cells := 0, slots := 0, locals := 21 } : Room) [.ref h] (dC, dI) vwCl [(cI, .int)] [(h, .inr (1, [.ref a, .int (nI (n + 1))])), (a, .inl (cI, 255, .inl (nf v)))] (some (.int (bI (nameN v (n + 1))))) := by
  refine mk_Ri (cc := b_Ro_isName) (maxL := 2) (by decide) rfl (Nat.le_of_ble_eq_true rfl) (mk_nz _) ?_
  intro p e s m below meth c Q A ls S hP hK hT hS hl hret
  obtain ⟨hx, hb, hml, hown, hts⟩ := id S
  have hl : lv_has ls 2 [(0, .ref h)] := hl
  refine lv_iconst (v := nI 0) hx hb d_Ro_isName_0 (by decide) ?_
  refine lv_istore_n (lv' := [(1, .int (nI 0)), (0, .ref h)]) hx hb d_Ro_isName_1 rfl hl (by decide) rfl (fun ls hl => ?_)
  have lp2 : ∀ (k : Nat) (i : Nat) (ls : Array Slot), (i + k = n + 1) → (∀ j, j < i → okN (v j) = true) → lv_has ls 2 [(0, .ref h), (1, .int (nI i))] → W p l e ({ frames := 1, cells := 0, slots := 0, locals := 21 } : Room) s m ([.ref h] : List Value).toArray below meth c s.heap [] 0 0 Q (F0 m 2 ls []) := by
    intro k
    induction k with
    | zero =>
      intro i ls hi hq hl
      have hi : i = n + 1 := by omega
      refine lv_iload_n hx hb d_Ro_isName_2 rfl (lv_at hl 1 rfl) ?_
      refine lv_aload_n hx hb d_Ro_isName_3 rfl (lv_at hl 0 rfl) ?_
      refine va_get (D := (dC, dI)) (ci := 1) (v := .int (nI (n + 1))) (C := "LongNames$Row") (T := F_Ro) (N := 2) hx hb hts (iw_Ro _) hown hK hP 0 rfl rfl 1 (by decide) (hts _ (List.mem_cons_of_mem _ k_54)) (fun _ h9 => h9) rfl d_Ro_isName_4 ?_
      refine lv_icmp_ge (tgt := 29) hx hb d_Ro_isName_7 (by decide) (fun c_1 => ?_) (fun c_1 => ?_)
      · skip
        rw [nI_leI (by omega) (by omega)] at c_1
        refine lv_aload_n hx hb d_Ro_isName_29 rfl (lv_at hl 0 rfl) ?_
        refine lv_aload_n hx hb d_Ro_isName_30 rfl (lv_at hl 0 rfl) ?_
        refine va_get (D := (dC, dI)) (ci := 1) (v := .int (nI (n + 1))) (C := "LongNames$Row") (T := F_Ro) (N := 2) hx hb hts (iw_Ro _) hown hK hP 0 rfl rfl 1 (by decide) (hts _ (List.mem_cons_of_mem _ k_54)) (fun _ h9 => h9) rfl d_Ro_isName_31 ?_
        refine lv_iconst (v := nI 1) hx hb d_Ro_isName_34 (by decide) ?_
        refine lv_isub hx hb d_Ro_isName_35 ?_
        refine mk_ti (y := nI n) (nI_pred n) ?_
        refine mk_r1 (W.runV (As := [.int (nI n)]) (rest := []) S (c_Ro_get l dC dI cI h a (n + 1) v n (by first | assumption | omega) (by first | assumption | omega) (by first | assumption | omega)) (gV 1 hts k_140 k_141 k_142 k_25 k_143 (by decide +kernel) ⟨Nat.le_of_ble_eq_true rfl, Nat.le_of_ble_eq_true rfl⟩) (mk_vR hP hK hT hS [0, 1] rfl (q0 := 0) (ci := 1) rfl rfl) rfl rfl hl.1 rfl (lv_room (Nat.le_of_ble_eq_true rfl)) d_Ro_isName_36 ⟨Nat.zero_le _, Nat.zero_le _⟩) ?_
        have b_2 := (show ∀ j9, v j9 < 65536 by assumption) n
        refine lv_istore_n (lv' := [(1, .int (nI (v n))), (0, .ref h)]) hx hb d_Ro_isName_39 rfl hl (by decide) rfl (fun ls hl => ?_)
        refine lv_aload_n hx hb d_Ro_isName_40 rfl (lv_at hl 1 rfl) ?_
        refine va_get (D := (dC, dI)) (ci := 1) (v := .int (nI (n + 1))) (C := "LongNames$Row") (T := F_Ro) (N := 2) hx hb hts (iw_Ro _) hown hK hP 0 rfl rfl 1 (by decide) (hts _ (List.mem_cons_of_mem _ k_54)) (fun _ h9 => h9) rfl d_Ro_isName_41 ?_
        refine lv_if_le (tgt := 63) hx hb d_Ro_isName_44 (by decide) (fun c_3 => ?_) (fun c_3 => ?_)
        · skip
          rw [mk_cle (by omega)] at c_3
          first | omega | contradiction
        · skip
          rw [mk_cle (by omega)] at c_3
          refine lv_iload_n hx hb d_Ro_isName_47 rfl (lv_at hl 0 rfl) ?_
          refine lv_bipush (v := nI 32) hx hb d_Ro_isName_48 (by decide) ?_
          refine lv_icmp_eq (tgt := 63) hx hb d_Ro_isName_50 (by decide) (fun c_4 => ?_) (fun c_4 => ?_)
          · skip
            rw [nI_eq (by omega) (by omega)] at c_4
            refine lv_iconst (v := nI 0) hx hb d_Ro_isName_63 (by decide) ?_
            exact mk_ti (by exact mk_bf (by simp only [nameN, decide_eq_false_iff_not, Nat.add_sub_cancel]; intro h9; omega)) (hret _ _ d_Ro_isName_64)
          · skip
            rw [nI_eq (by omega) (by omega)] at c_4
            refine lv_iload_n hx hb d_Ro_isName_53 rfl (lv_at hl 0 rfl) ?_
            refine lv_bipush (v := nI 46) hx hb d_Ro_isName_54 (by decide) ?_
            refine lv_icmp_eq (tgt := 63) hx hb d_Ro_isName_56 (by decide) (fun c_5 => ?_) (fun c_5 => ?_)
            · skip
              rw [nI_eq (by omega) (by omega)] at c_5
              refine lv_iconst (v := nI 0) hx hb d_Ro_isName_63 (by decide) ?_
              exact mk_ti (by exact mk_bf (by simp only [nameN, decide_eq_false_iff_not, Nat.add_sub_cancel]; intro h9; omega)) (hret _ _ d_Ro_isName_64)
            · skip
              rw [nI_eq (by omega) (by omega)] at c_5
              refine lv_iconst (v := nI 1) hx hb d_Ro_isName_59 (by decide) ?_
              refine lv_goto (tgt := 64) hx hb d_Ro_isName_60 (by decide) ?_
              exact mk_ti (by exact mk_bt (by simp only [nameN, decide_eq_true_eq, Nat.add_sub_cancel]; exact ⟨by omega, by rw [← hi]; exact hq, by omega, by omega⟩)) (hret _ _ d_Ro_isName_64)
      · skip
        rw [nI_leI (by omega) (by omega)] at c_1
        first | omega | contradiction
    | succ k ih2 =>
      intro i ls hi hq hl
      refine lv_iload_n hx hb d_Ro_isName_2 rfl (lv_at hl 1 rfl) ?_
      refine lv_aload_n hx hb d_Ro_isName_3 rfl (lv_at hl 0 rfl) ?_
      refine va_get (D := (dC, dI)) (ci := 1) (v := .int (nI (n + 1))) (C := "LongNames$Row") (T := F_Ro) (N := 2) hx hb hts (iw_Ro _) hown hK hP 0 rfl rfl 1 (by decide) (hts _ (List.mem_cons_of_mem _ k_54)) (fun _ h9 => h9) rfl d_Ro_isName_4 ?_
      refine lv_icmp_ge (tgt := 29) hx hb d_Ro_isName_7 (by decide) (fun c_6 => ?_) (fun c_6 => ?_)
      · skip
        rw [nI_leI (by omega) (by omega)] at c_6
        first | omega | contradiction
      · skip
        rw [nI_leI (by omega) (by omega)] at c_6
        refine lv_aload_n hx hb d_Ro_isName_10 rfl (lv_at hl 0 rfl) ?_
        refine lv_iload_n hx hb d_Ro_isName_11 rfl (lv_at hl 1 rfl) ?_
        refine mk_r1 (W.runV (As := [.int (nI i)]) (rest := []) S (c_Ro_get l dC dI cI h a (n + 1) v i (by first | assumption | omega) (by first | assumption | omega) (by first | assumption | omega)) (gV 1 hts k_140 k_141 k_142 k_25 k_143 (by decide +kernel) ⟨Nat.le_of_ble_eq_true rfl, Nat.le_of_ble_eq_true rfl⟩) (mk_vR hP hK hT hS [0, 1] rfl (q0 := 0) (ci := 1) rfl rfl) rfl rfl hl.1 rfl (lv_room (Nat.le_of_ble_eq_true rfl)) d_Ro_isName_12 ⟨Nat.zero_le _, Nat.zero_le _⟩) ?_
        have b_7 := (show ∀ j9, v j9 < 65536 by assumption) i
        refine mk_r1 (W.runS (As := [.int (nI (v i))]) (rest := []) S (c_Un_name l dC dI cI (v i) (by first | assumption | omega)) (gS 1 hts k_144 k_145 k_30 k_146 (by decide +kernel) ⟨Nat.le_of_ble_eq_true rfl, Nat.le_of_ble_eq_true rfl⟩) (mk_sR hP hK hT hS [] rfl) rfl rfl hl.1 rfl (lv_room (Nat.le_of_ble_eq_true rfl)) d_Ro_isName_15 ⟨Nat.zero_le _, Nat.zero_le _⟩) ?_
        refine lv_if_ne (tgt := 23) hx hb d_Ro_isName_18 (by decide) (fun c_8 => ?_) (fun c_8 => ?_)
        · skip
          have c_8 := bI_1 c_8
          refine lv_iinc (v := nI (i + 1)) (lv' := [(1, .int (nI (i + 1))), (0, .ref h)]) hx hb d_Ro_isName_23 hl (k := 1) rfl (mk_i1 i) (by decide) rfl (fun ls hl => ?_)
          refine lv_goto (tgt := 2) hx hb d_Ro_isName_26 (by decide) ?_
          have hl : lv_has ls 2 [(0, .ref h), (1, .int (nI (i + 1)))] := lv_sub hl [1, 0] rfl
          exact ih2 (i + 1) _ (by omega) (lt_s hq (by assumption)) hl
        · skip
          have c_8 := bI_0 c_8
          refine lv_iconst (v := nI 0) hx hb d_Ro_isName_21 (by decide) ?_
          exact mk_ti (by exact mk_bf (by simp only [nameN, decide_eq_false_iff_not]; intro h9; have h8 := h9.2.1 i (by omega); rw [c_8] at h8; exact absurd h8 (by decide))) (hret _ _ d_Ro_isName_22)
  have hl : lv_has ls 2 [(0, .ref h), (1, .int (nI 0))] := lv_sub hl [1, 0] rfl
  exact lp2 (n + 1) 0 _ (by omega) (fun j hj => absurd hj (Nat.not_lt_zero j)) hl

theorem c_Ro_name (l : Launch) (dC : Nat → ClassId) (dI : Nat → Nat → Nat) (cI : ClassId) (h a n : Nat) (v : Nat → Nat) (hn : n ≤ 255) (hv : ∀ j, v j < 65536) : mR l y_Ro_isName w_Ro_isName ({ frames := 1, cells := 0, slots := 0, locals := 21 } : Room) [.ref h] (dC, dI) vwCl [(cI, .int)] [(h, .inr (1, [.ref a, .int (nI n)])), (a, .inl (cI, 255, .inl (nf v)))] (some (.int (bI (nameN v n)))) := by
  cases n with
  | zero => exact c_Ro_nameE l dC dI cI h a v
  | succ n => exact c_Ro_nameS l dC dI cI h a n v hn hv

set_option maxHeartbeats 4000000 in
set_option maxRecDepth 100000 in
theorem c_Ro_lp0 (l : Launch) (dC : Nat → ClassId) (dI : Nat → Nat → Nat) (cI : ClassId) (h a n : Nat) (v : Nat → Nat) (hn : n ≤ 255) (hv : ∀ j, v j < 65536) (h0 : lpN v n = 0) : mR l y_Ro_lastPoint w_Ro_lastPoint ({ frames := 1, cells := 0, slots := 0, locals := 21 } : Room) [.ref h] (dC, dI) vwCl [(cI, .int)] [(h, .inr (1, [.ref a, .int (nI n)])), (a, .inl (cI, 255, .inl (nf v)))] (some (.int (-1))) := by
  refine mk_Ri (cc := b_Ro_lastPoint) (maxL := 2) (by decide) rfl (Nat.le_of_ble_eq_true rfl) rfl ?_
  intro p e s m below meth c Q A ls S hP hK hT hS hl hret
  obtain ⟨hx, hb, hml, hown, hts⟩ := id S
  have hl : lv_has ls 2 [(0, .ref h)] := hl
  refine lv_aload_n hx hb d_Ro_lastPoint_0 rfl (lv_at hl 0 rfl) ?_
  refine va_get (D := (dC, dI)) (ci := 1) (v := .int (nI n)) (C := "LongNames$Row") (T := F_Ro) (N := 2) hx hb hts (iw_Ro _) hown hK hP 0 rfl rfl 1 (by decide) (hts _ (List.mem_cons_of_mem _ k_54)) (fun _ h9 => h9) rfl d_Ro_lastPoint_1 ?_
  refine lv_iconst (v := nI 1) hx hb d_Ro_lastPoint_4 (by decide) ?_
  refine lv_isub hx hb d_Ro_lastPoint_5 ?_
  refine lv_istore_n (lv' := [(1, .int ((nI n) - (nI 1))), (0, .ref h)]) hx hb d_Ro_lastPoint_6 rfl hl (by decide) rfl (fun ls hl => ?_)
  have lp7 : ∀ (k : Nat) (x : Int32) (ls : Array Slot), (x = nI k - 1) → (lpN v n = lpN v k) → (k ≤ n) → lv_has ls 2 [(0, .ref h), (1, .int x)] → W p l e ({ frames := 1, cells := 0, slots := 0, locals := 21 } : Room) s m ([.ref h] : List Value).toArray below meth c s.heap [] 0 0 Q (F0 m 7 ls []) := by
    intro k
    induction k with
    | zero =>
      intro x ls hx9 hlp hk hl
      obtain rfl : x = -1 := by rw [hx9]; decide
      have hl : lv_has ls 2 [(0, .ref h), (1, .int (-1))] := hl
      refine lv_iload_n hx hb d_Ro_lastPoint_7 rfl (lv_at hl 1 rfl) ?_
      refine lv_if_lt (tgt := 29) hx hb d_Ro_lastPoint_8 (by decide) (fun c_1 => ?_) (fun c_1 => ?_)
      · skip
        refine lv_iconst (v := (-1)) hx hb d_Ro_lastPoint_29 (by decide) ?_
        exact hret _ _ d_Ro_lastPoint_30
      · skip
        exact absurd (by decide) c_1
    | succ k ih7 =>
      intro x ls hx9 hlp hk hl
      obtain rfl : x = nI k := by rw [hx9]; exact nI_pred k
      have hl : lv_has ls 2 [(0, .ref h), (1, .int (nI k))] := hl
      refine lv_iload_n hx hb d_Ro_lastPoint_7 rfl (lv_at hl 1 rfl) ?_
      refine lv_if_lt (tgt := 29) hx hb d_Ro_lastPoint_8 (by decide) (fun c_2 => ?_) (fun c_2 => ?_)
      · skip
        rw [mk_clt (by omega)] at c_2
        first | omega | contradiction
      · skip
        rw [mk_clt (by omega)] at c_2
        refine lv_aload_n hx hb d_Ro_lastPoint_11 rfl (lv_at hl 0 rfl) ?_
        refine lv_iload_n hx hb d_Ro_lastPoint_12 rfl (lv_at hl 1 rfl) ?_
        refine mk_r1 (W.runV (As := [.int (nI k)]) (rest := []) S (c_Ro_get l dC dI cI h a n v k (by first | assumption | omega) (by first | assumption | omega) (by first | assumption | omega)) (gV 1 hts k_140 k_141 k_142 k_25 k_143 (by decide +kernel) ⟨Nat.le_of_ble_eq_true rfl, Nat.le_of_ble_eq_true rfl⟩) (mk_vR hP hK hT hS [0, 1] rfl (q0 := 0) (ci := 1) rfl rfl) rfl rfl hl.1 rfl (lv_room (Nat.le_of_ble_eq_true rfl)) d_Ro_lastPoint_13 ⟨Nat.zero_le _, Nat.zero_le _⟩) ?_
        have b_3 := (show ∀ j9, v j9 < 65536 by assumption) k
        refine lv_bipush (v := nI 46) hx hb d_Ro_lastPoint_16 (by decide) ?_
        refine lv_icmp_ne (tgt := 23) hx hb d_Ro_lastPoint_18 (by decide) (fun c_4 => ?_) (fun c_4 => ?_)
        · skip
          rw [nI_eq (by omega) (by omega)] at c_4
          refine lv_iinc (v := nI k - 1) (lv' := [(1, .int (nI k - 1)), (0, .ref h)]) hx hb d_Ro_lastPoint_23 hl (k := 1) rfl (mk_dec (nI k)) (by decide) rfl (fun ls hl => ?_)
          refine lv_goto (tgt := 7) hx hb d_Ro_lastPoint_26 (by decide) ?_
          have hl : lv_has ls 2 [(0, .ref h), (1, .int (nI k - 1))] := lv_sub hl [1, 0] rfl
          exact ih7 (nI k - 1) _ rfl (hlp.trans (by rw [lpN, if_neg c_4])) (by omega) hl
        · skip
          rw [nI_eq (by omega) (by omega)] at c_4
          refine lv_iload_n hx hb d_Ro_lastPoint_21 rfl (lv_at hl 1 rfl) ?_
          exact mk_ti (by exfalso; rw [h0, lpN, if_pos c_4] at hlp; omega) (hret _ _ d_Ro_lastPoint_22)
  have hl : lv_has ls 2 [(0, .ref h), (1, .int ((nI n) - (nI 1)))] := lv_sub hl [1, 0] rfl
  have hl9 : ([(0, .ref h), (1, .int ((nI n) - (nI 1)))] : List (Nat × Value)) = [(0, .ref h), (1, .int (nI n - nI 1))] := by rfl
  rw [hl9] at hl
  exact lp7 n (nI n - nI 1) _ rfl rfl (Nat.le_refl n) hl

set_option maxHeartbeats 4000000 in
set_option maxRecDepth 100000 in
theorem c_Ro_lpS (l : Launch) (dC : Nat → ClassId) (dI : Nat → Nat → Nat) (cI : ClassId) (h a n : Nat) (v : Nat → Nat) (m9 : Nat) (hn : n ≤ 255) (hv : ∀ j, v j < 65536) (h0 : lpN v n = m9 + 1) : mR l y_Ro_lastPoint w_Ro_lastPoint ({ frames := 1, cells := 0, slots := 0, locals := 21 } : Room) [.ref h] (dC, dI) vwCl [(cI, .int)] [(h, .inr (1, [.ref a, .int (nI n)])), (a, .inl (cI, 255, .inl (nf v)))] (some (.int (nI m9))) := by
  refine mk_Ri (cc := b_Ro_lastPoint) (maxL := 2) (by decide) rfl (Nat.le_of_ble_eq_true rfl) rfl ?_
  intro p e s m below meth c Q A ls S hP hK hT hS hl hret
  obtain ⟨hx, hb, hml, hown, hts⟩ := id S
  have hl : lv_has ls 2 [(0, .ref h)] := hl
  refine lv_aload_n hx hb d_Ro_lastPoint_0 rfl (lv_at hl 0 rfl) ?_
  refine va_get (D := (dC, dI)) (ci := 1) (v := .int (nI n)) (C := "LongNames$Row") (T := F_Ro) (N := 2) hx hb hts (iw_Ro _) hown hK hP 0 rfl rfl 1 (by decide) (hts _ (List.mem_cons_of_mem _ k_54)) (fun _ h9 => h9) rfl d_Ro_lastPoint_1 ?_
  refine lv_iconst (v := nI 1) hx hb d_Ro_lastPoint_4 (by decide) ?_
  refine lv_isub hx hb d_Ro_lastPoint_5 ?_
  refine lv_istore_n (lv' := [(1, .int ((nI n) - (nI 1))), (0, .ref h)]) hx hb d_Ro_lastPoint_6 rfl hl (by decide) rfl (fun ls hl => ?_)
  have lp7 : ∀ (k : Nat) (x : Int32) (ls : Array Slot), (x = nI k - 1) → (lpN v n = lpN v k) → (k ≤ n) → lv_has ls 2 [(0, .ref h), (1, .int x)] → W p l e ({ frames := 1, cells := 0, slots := 0, locals := 21 } : Room) s m ([.ref h] : List Value).toArray below meth c s.heap [] 0 0 Q (F0 m 7 ls []) := by
    intro k
    induction k with
    | zero =>
      intro x ls hx9 hlp hk hl
      obtain rfl : x = -1 := by rw [hx9]; decide
      have hl : lv_has ls 2 [(0, .ref h), (1, .int (-1))] := hl
      refine lv_iload_n hx hb d_Ro_lastPoint_7 rfl (lv_at hl 1 rfl) ?_
      refine lv_if_lt (tgt := 29) hx hb d_Ro_lastPoint_8 (by decide) (fun c_1 => ?_) (fun c_1 => ?_)
      · skip
        refine lv_iconst (v := (-1)) hx hb d_Ro_lastPoint_29 (by decide) ?_
        exact mk_ti (by exfalso; rw [h0, lpN] at hlp; omega) (hret _ _ d_Ro_lastPoint_30)
      · skip
        exact absurd (by decide) c_1
    | succ k ih7 =>
      intro x ls hx9 hlp hk hl
      obtain rfl : x = nI k := by rw [hx9]; exact nI_pred k
      have hl : lv_has ls 2 [(0, .ref h), (1, .int (nI k))] := hl
      refine lv_iload_n hx hb d_Ro_lastPoint_7 rfl (lv_at hl 1 rfl) ?_
      refine lv_if_lt (tgt := 29) hx hb d_Ro_lastPoint_8 (by decide) (fun c_2 => ?_) (fun c_2 => ?_)
      · skip
        rw [mk_clt (by omega)] at c_2
        first | omega | contradiction
      · skip
        rw [mk_clt (by omega)] at c_2
        refine lv_aload_n hx hb d_Ro_lastPoint_11 rfl (lv_at hl 0 rfl) ?_
        refine lv_iload_n hx hb d_Ro_lastPoint_12 rfl (lv_at hl 1 rfl) ?_
        refine mk_r1 (W.runV (As := [.int (nI k)]) (rest := []) S (c_Ro_get l dC dI cI h a n v k (by first | assumption | omega) (by first | assumption | omega) (by first | assumption | omega)) (gV 1 hts k_140 k_141 k_142 k_25 k_143 (by decide +kernel) ⟨Nat.le_of_ble_eq_true rfl, Nat.le_of_ble_eq_true rfl⟩) (mk_vR hP hK hT hS [0, 1] rfl (q0 := 0) (ci := 1) rfl rfl) rfl rfl hl.1 rfl (lv_room (Nat.le_of_ble_eq_true rfl)) d_Ro_lastPoint_13 ⟨Nat.zero_le _, Nat.zero_le _⟩) ?_
        have b_3 := (show ∀ j9, v j9 < 65536 by assumption) k
        refine lv_bipush (v := nI 46) hx hb d_Ro_lastPoint_16 (by decide) ?_
        refine lv_icmp_ne (tgt := 23) hx hb d_Ro_lastPoint_18 (by decide) (fun c_4 => ?_) (fun c_4 => ?_)
        · skip
          rw [nI_eq (by omega) (by omega)] at c_4
          refine lv_iinc (v := nI k - 1) (lv' := [(1, .int (nI k - 1)), (0, .ref h)]) hx hb d_Ro_lastPoint_23 hl (k := 1) rfl (mk_dec (nI k)) (by decide) rfl (fun ls hl => ?_)
          refine lv_goto (tgt := 7) hx hb d_Ro_lastPoint_26 (by decide) ?_
          have hl : lv_has ls 2 [(0, .ref h), (1, .int (nI k - 1))] := lv_sub hl [1, 0] rfl
          exact ih7 (nI k - 1) _ rfl (hlp.trans (by rw [lpN, if_neg c_4])) (by omega) hl
        · skip
          rw [nI_eq (by omega) (by omega)] at c_4
          refine lv_iload_n hx hb d_Ro_lastPoint_21 rfl (lv_at hl 1 rfl) ?_
          exact mk_ti (by rw [h0, lpN, if_pos c_4] at hlp; rw [show k = m9 by omega]) (hret _ _ d_Ro_lastPoint_22)
  have hl : lv_has ls 2 [(0, .ref h), (1, .int ((nI n) - (nI 1)))] := lv_sub hl [1, 0] rfl
  have hl9 : ([(0, .ref h), (1, .int ((nI n) - (nI 1)))] : List (Nat × Value)) = [(0, .ref h), (1, .int (nI n - nI 1))] := by rfl
  rw [hl9] at hl
  exact lp7 n (nI n - nI 1) _ rfl rfl (Nat.le_refl n) hl

set_option maxHeartbeats 4000000 in
set_option maxRecDepth 100000 in
theorem c_Ro_sh0 (l : Launch) (dC : Nat → ClassId) (dI : Nat → Nat → Nat) (cI : ClassId) (h a n : Nat) (v : Nat → Nat) (hn : n ≤ 255) (hv : ∀ j, v j < 65536) (h0 : lpN v n = 0) : mR l y_Ro_isShortAsShown w_Ro_isShortAsShown ({ frames := 2, cells := 0, slots := 0, locals := 42 } : Room) [.ref h] (dC, dI) vwCl [(cI, .int)] [(h, .inr (1, [.ref a, .int (nI n)])), (a, .inl (cI, 255, .inl (nf v)))] (some (.int (bI (shortN v n)))) := by
  refine mk_Ri (cc := b_Ro_isShortAsShown) (maxL := 5) (by decide) rfl (Nat.le_of_ble_eq_true rfl) (mk_nz _) ?_
  intro p e s m below meth c Q A ls S hP hK hT hS hl hret
  obtain ⟨hx, hb, hml, hown, hts⟩ := id S
  have hl : lv_has ls 5 [(0, .ref h)] := hl
  refine lv_aload_n hx hb d_Ro_isShortAsShown_0 rfl (lv_at hl 0 rfl) ?_
  refine mk_r1 (W.runV (As := []) (rest := []) S (c_Ro_lp0 l dC dI cI h a n v (by first | assumption | omega) (by first | assumption | omega) (by first | assumption | omega)) (gV 0 hts k_154 k_155 k_156 k_25 k_157 (by decide +kernel) ⟨Nat.le_of_ble_eq_true rfl, Nat.le_of_ble_eq_true rfl⟩) (mk_vR hP hK hT hS [0, 1] rfl (q0 := 0) (ci := 1) rfl rfl) rfl rfl hl.1 rfl (lv_room (Nat.le_of_ble_eq_true rfl)) d_Ro_isShortAsShown_1 ⟨Nat.zero_le _, Nat.zero_le _⟩) ?_
  refine lv_istore_n (lv' := [(1, .int (-1)), (0, .ref h)]) hx hb d_Ro_isShortAsShown_4 rfl hl (by decide) rfl (fun ls hl => ?_)
  refine lv_iload_n hx hb d_Ro_isShortAsShown_5 rfl (lv_at hl 0 rfl) ?_
  refine lv_iconst (v := (-1)) hx hb d_Ro_isShortAsShown_6 (by decide) ?_
  refine lv_icmp_ne (tgt := 17) hx hb d_Ro_isShortAsShown_7 (by decide) (fun c_1 => ?_) (fun c_1 => ?_)
  · skip
    exact absurd rfl c_1
  · skip
    refine lv_aload_n hx hb d_Ro_isShortAsShown_10 rfl (lv_at hl 1 rfl) ?_
    refine va_get (D := (dC, dI)) (ci := 1) (v := .int (nI n)) (C := "LongNames$Row") (T := F_Ro) (N := 2) hx hb hts (iw_Ro _) hown hK hP 0 rfl rfl 1 (by decide) (hts _ (List.mem_cons_of_mem _ k_54)) (fun _ h9 => h9) rfl d_Ro_isShortAsShown_11 ?_
    refine lv_goto (tgt := 18) hx hb d_Ro_isShortAsShown_14 (by decide) ?_
    refine lv_istore_n (lv' := [(2, .int (nI n)), (1, .int (-1)), (0, .ref h)]) hx hb d_Ro_isShortAsShown_18 rfl hl (by decide) rfl (fun ls hl => ?_)
    refine lv_aload_n hx hb d_Ro_isShortAsShown_19 rfl (lv_at hl 2 rfl) ?_
    refine va_get (D := (dC, dI)) (ci := 1) (v := .int (nI n)) (C := "LongNames$Row") (T := F_Ro) (N := 2) hx hb hts (iw_Ro _) hown hK hP 0 rfl rfl 1 (by decide) (hts _ (List.mem_cons_of_mem _ k_54)) (fun _ h9 => h9) rfl d_Ro_isShortAsShown_20 ?_
    refine lv_iload_n hx hb d_Ro_isShortAsShown_23 rfl (lv_at hl 0 rfl) ?_
    refine lv_isub hx hb d_Ro_isShortAsShown_24 ?_
    refine mk_ti (y := nI (n - n)) (pk_sub (by omega)) ?_
    refine lv_iconst (v := nI 1) hx hb d_Ro_isShortAsShown_25 (by decide) ?_
    refine lv_isub hx hb d_Ro_isShortAsShown_26 ?_
    refine lv_istore_n (lv' := [(3, .int ((nI (n - n)) - (nI 1))), (2, .int (nI n)), (1, .int (-1)), (0, .ref h)]) hx hb d_Ro_isShortAsShown_27 rfl hl (by decide) rfl (fun ls hl => ?_)
    refine lv_iload_n hx hb d_Ro_isShortAsShown_28 rfl (lv_at hl 1 rfl) ?_
    refine lv_iconst (v := nI 1) hx hb d_Ro_isShortAsShown_29 (by decide) ?_
    refine lv_icmp_lt (tgt := 39) hx hb d_Ro_isShortAsShown_30 (by decide) (fun c_2 => ?_) (fun c_2 => ?_)
    · skip
      rw [nI_ltI (by omega) (by omega)] at c_2
      refine lv_iconst (v := nI 0) hx hb d_Ro_isShortAsShown_39 (by decide) ?_
      exact mk_ti (by exact mk_bf (by simp only [shortN, decide_eq_false_iff_not]; intro h9; have h8 := h9.1 h0; omega)) (hret _ _ d_Ro_isShortAsShown_40)
    · skip
      rw [nI_ltI (by omega) (by omega)] at c_2
      refine lv_iload_n hx hb d_Ro_isShortAsShown_33 rfl (lv_at hl 1 rfl) ?_
      refine lv_bipush (v := nI 8) hx hb d_Ro_isShortAsShown_34 (by decide) ?_
      refine lv_icmp_le (tgt := 41) hx hb d_Ro_isShortAsShown_36 (by decide) (fun c_3 => ?_) (fun c_3 => ?_)
      · skip
        rw [nI_leI (by omega) (by omega)] at c_3
        refine lv_iload_n hx hb d_Ro_isShortAsShown_41 rfl (lv_at hl 2 rfl) ?_
        refine lv_iconst (v := (-1)) hx hb d_Ro_isShortAsShown_42 (by decide) ?_
        refine lv_icmp_eq (tgt := 58) hx hb d_Ro_isShortAsShown_43 (by decide) (fun c_4 => ?_) (fun c_4 => ?_)
        · skip
          refine lv_iconst (v := nI 0) hx hb d_Ro_isShortAsShown_58 (by decide) ?_
          refine lv_istore (lv' := [(4, .int (nI 0)), (3, .int ((nI (n - n)) - (nI 1))), (2, .int (nI n)), (1, .int (-1)), (0, .ref h)]) hx hb d_Ro_isShortAsShown_59 hl (by decide) rfl (fun ls hl => ?_)
          have lp61 : ∀ (k : Nat) (i : Nat) (ls : Array Slot), (i + k = n) → (∀ j, j < i → okS (v j) = true) → lv_has ls 5 [(0, .ref h), (1, .int (-1)), (4, .int (nI i))] → W p l e ({ frames := 2, cells := 0, slots := 0, locals := 42 } : Room) s m ([.ref h] : List Value).toArray below meth c s.heap [] 0 0 Q (F0 m 61 ls []) := by
            intro k
            induction k with
            | zero =>
              intro i ls hi hq hl
              refine lv_iload hx hb d_Ro_isShortAsShown_61 (lv_at hl 2 rfl) ?_
              refine lv_aload_n hx hb d_Ro_isShortAsShown_63 rfl (lv_at hl 0 rfl) ?_
              refine va_get (D := (dC, dI)) (ci := 1) (v := .int (nI n)) (C := "LongNames$Row") (T := F_Ro) (N := 2) hx hb hts (iw_Ro _) hown hK hP 0 rfl rfl 1 (by decide) (hts _ (List.mem_cons_of_mem _ k_54)) (fun _ h9 => h9) rfl d_Ro_isShortAsShown_64 ?_
              refine lv_icmp_ge (tgt := 96) hx hb d_Ro_isShortAsShown_67 (by decide) (fun c_5 => ?_) (fun c_5 => ?_)
              · skip
                rw [nI_leI (by omega) (by omega)] at c_5
                refine lv_iconst (v := nI 1) hx hb d_Ro_isShortAsShown_96 (by decide) ?_
                exact mk_ti (by exact mk_bt (by simp only [shortN, decide_eq_true_eq]; exact ⟨fun _ => ⟨by omega, by omega⟩, fun h9 => by omega, fun j hj => Or.inr (hq j (by omega))⟩)) (hret _ _ d_Ro_isShortAsShown_97)
              · skip
                rw [nI_leI (by omega) (by omega)] at c_5
                first | omega | contradiction
            | succ k ih61 =>
              intro i ls hi hq hl
              refine lv_iload hx hb d_Ro_isShortAsShown_61 (lv_at hl 2 rfl) ?_
              refine lv_aload_n hx hb d_Ro_isShortAsShown_63 rfl (lv_at hl 0 rfl) ?_
              refine va_get (D := (dC, dI)) (ci := 1) (v := .int (nI n)) (C := "LongNames$Row") (T := F_Ro) (N := 2) hx hb hts (iw_Ro _) hown hK hP 0 rfl rfl 1 (by decide) (hts _ (List.mem_cons_of_mem _ k_54)) (fun _ h9 => h9) rfl d_Ro_isShortAsShown_64 ?_
              refine lv_icmp_ge (tgt := 96) hx hb d_Ro_isShortAsShown_67 (by decide) (fun c_6 => ?_) (fun c_6 => ?_)
              · skip
                rw [nI_leI (by omega) (by omega)] at c_6
                first | omega | contradiction
              · skip
                rw [nI_leI (by omega) (by omega)] at c_6
                refine lv_iload hx hb d_Ro_isShortAsShown_70 (lv_at hl 2 rfl) ?_
                refine lv_iload_n hx hb d_Ro_isShortAsShown_72 rfl (lv_at hl 1 rfl) ?_
                refine lv_icmp_eq (tgt := 90) hx hb d_Ro_isShortAsShown_73 (by decide) (fun c_7 => ?_) (fun c_7 => ?_)
                · skip
                  exact absurd c_7 (mk_nm1 (by omega))
                · skip
                  refine lv_aload_n hx hb d_Ro_isShortAsShown_76 rfl (lv_at hl 0 rfl) ?_
                  refine lv_iload hx hb d_Ro_isShortAsShown_77 (lv_at hl 2 rfl) ?_
                  refine mk_r1 (W.runV (As := [.int (nI i)]) (rest := []) S (c_Ro_get l dC dI cI h a n v i (by first | assumption | omega) (by first | assumption | omega) (by first | assumption | omega)) (gV 1 hts k_140 k_141 k_142 k_25 k_143 (by decide +kernel) ⟨Nat.le_of_ble_eq_true rfl, Nat.le_of_ble_eq_true rfl⟩) (mk_vR hP hK hT hS [0, 1] rfl (q0 := 0) (ci := 1) rfl rfl) rfl rfl hl.1 rfl (lv_room (Nat.le_of_ble_eq_true rfl)) d_Ro_isShortAsShown_79 ⟨Nat.zero_le _, Nat.zero_le _⟩) ?_
                  have b_8 := (show ∀ j9, v j9 < 65536 by assumption) i
                  refine mk_r1 (W.runS (As := [.int (nI (v i))]) (rest := []) S (c_Un_short l dC dI cI (v i) (by first | assumption | omega)) (gS 1 hts k_158 k_159 k_30 k_160 (by decide +kernel) ⟨Nat.le_of_ble_eq_true rfl, Nat.le_of_ble_eq_true rfl⟩) (mk_sR hP hK hT hS [] rfl) rfl rfl hl.1 rfl (lv_room (Nat.le_of_ble_eq_true rfl)) d_Ro_isShortAsShown_82 ⟨Nat.zero_le _, Nat.zero_le _⟩) ?_
                  refine lv_if_ne (tgt := 90) hx hb d_Ro_isShortAsShown_85 (by decide) (fun c_9 => ?_) (fun c_9 => ?_)
                  · skip
                    have c_9 := bI_1 c_9
                    refine lv_iinc (v := nI (i + 1)) (lv' := [(4, .int (nI (i + 1))), (0, .ref h), (1, .int (-1))]) hx hb d_Ro_isShortAsShown_90 hl (k := 2) rfl (mk_i1 i) (by decide) rfl (fun ls hl => ?_)
                    refine lv_goto (tgt := 61) hx hb d_Ro_isShortAsShown_93 (by decide) ?_
                    have hl : lv_has ls 5 [(0, .ref h), (1, .int (-1)), (4, .int (nI (i + 1)))] := lv_sub hl [1, 2, 0] rfl
                    exact ih61 (i + 1) _ (by omega) (lt_s hq (by assumption)) hl
                  · skip
                    have c_9 := bI_0 c_9
                    refine lv_iconst (v := nI 0) hx hb d_Ro_isShortAsShown_88 (by decide) ?_
                    exact mk_ti (by exact mk_bf (by simp only [shortN, decide_eq_false_iff_not]; intro h9; rcases h9.2.2 i (by omega) with h8 | h8 <;> first | omega | (rw [c_9] at h8; exact absurd h8 (by decide)))) (hret _ _ d_Ro_isShortAsShown_89)
          have hl : lv_has ls 5 [(0, .ref h), (1, .int (-1)), (4, .int (nI 0))] := lv_sub hl [4, 3, 0] rfl
          exact lp61 n 0 _ (by omega) (fun j hj => absurd hj (Nat.not_lt_zero j)) hl
        · skip
          exact absurd rfl c_4
      · skip
        rw [nI_leI (by omega) (by omega)] at c_3
        refine lv_iconst (v := nI 0) hx hb d_Ro_isShortAsShown_39 (by decide) ?_
        exact mk_ti (by exact mk_bf (by simp only [shortN, decide_eq_false_iff_not]; intro h9; have h8 := h9.1 h0; omega)) (hret _ _ d_Ro_isShortAsShown_40)

set_option maxHeartbeats 4000000 in
set_option maxRecDepth 100000 in
theorem c_Ro_sh1 (l : Launch) (dC : Nat → ClassId) (dI : Nat → Nat → Nat) (cI : ClassId) (h a n : Nat) (v : Nat → Nat) (m9 : Nat) (hn : n ≤ 255) (hv : ∀ j, v j < 65536) (h0 : lpN v n = m9 + 1) : mR l y_Ro_isShortAsShown w_Ro_isShortAsShown ({ frames := 2, cells := 0, slots := 0, locals := 42 } : Room) [.ref h] (dC, dI) vwCl [(cI, .int)] [(h, .inr (1, [.ref a, .int (nI n)])), (a, .inl (cI, 255, .inl (nf v)))] (some (.int (bI (shortN v n)))) := by
  have hm9 := lpN_le v n
  refine mk_Ri (cc := b_Ro_isShortAsShown) (maxL := 5) (by decide) rfl (Nat.le_of_ble_eq_true rfl) (mk_nz _) ?_
  intro p e s m below meth c Q A ls S hP hK hT hS hl hret
  obtain ⟨hx, hb, hml, hown, hts⟩ := id S
  have hl : lv_has ls 5 [(0, .ref h)] := hl
  refine lv_aload_n hx hb d_Ro_isShortAsShown_0 rfl (lv_at hl 0 rfl) ?_
  refine mk_r1 (W.runV (As := []) (rest := []) S (c_Ro_lpS l dC dI cI h a n v m9 (by first | assumption | omega) (by first | assumption | omega) (by first | assumption | omega)) (gV 0 hts k_154 k_155 k_156 k_25 k_157 (by decide +kernel) ⟨Nat.le_of_ble_eq_true rfl, Nat.le_of_ble_eq_true rfl⟩) (mk_vR hP hK hT hS [0, 1] rfl (q0 := 0) (ci := 1) rfl rfl) rfl rfl hl.1 rfl (lv_room (Nat.le_of_ble_eq_true rfl)) d_Ro_isShortAsShown_1 ⟨Nat.zero_le _, Nat.zero_le _⟩) ?_
  refine lv_istore_n (lv' := [(1, .int (nI m9)), (0, .ref h)]) hx hb d_Ro_isShortAsShown_4 rfl hl (by decide) rfl (fun ls hl => ?_)
  refine lv_iload_n hx hb d_Ro_isShortAsShown_5 rfl (lv_at hl 0 rfl) ?_
  refine lv_iconst (v := (-1)) hx hb d_Ro_isShortAsShown_6 (by decide) ?_
  refine lv_icmp_ne (tgt := 17) hx hb d_Ro_isShortAsShown_7 (by decide) (fun c_1 => ?_) (fun c_1 => ?_)
  · skip
    refine lv_iload_n hx hb d_Ro_isShortAsShown_17 rfl (lv_at hl 0 rfl) ?_
    refine lv_istore_n (lv' := [(2, .int (nI m9)), (1, .int (nI m9)), (0, .ref h)]) hx hb d_Ro_isShortAsShown_18 rfl hl (by decide) rfl (fun ls hl => ?_)
    refine lv_aload_n hx hb d_Ro_isShortAsShown_19 rfl (lv_at hl 2 rfl) ?_
    refine va_get (D := (dC, dI)) (ci := 1) (v := .int (nI n)) (C := "LongNames$Row") (T := F_Ro) (N := 2) hx hb hts (iw_Ro _) hown hK hP 0 rfl rfl 1 (by decide) (hts _ (List.mem_cons_of_mem _ k_54)) (fun _ h9 => h9) rfl d_Ro_isShortAsShown_20 ?_
    refine lv_iload_n hx hb d_Ro_isShortAsShown_23 rfl (lv_at hl 0 rfl) ?_
    refine lv_isub hx hb d_Ro_isShortAsShown_24 ?_
    refine mk_ti (y := nI (n - m9)) (pk_sub (by omega)) ?_
    refine lv_iconst (v := nI 1) hx hb d_Ro_isShortAsShown_25 (by decide) ?_
    refine lv_isub hx hb d_Ro_isShortAsShown_26 ?_
    refine mk_ti (y := nI (n - m9 - 1)) (pk_sub (by omega)) ?_
    refine lv_istore_n (lv' := [(3, .int (nI (n - m9 - 1))), (2, .int (nI m9)), (1, .int (nI m9)), (0, .ref h)]) hx hb d_Ro_isShortAsShown_27 rfl hl (by decide) rfl (fun ls hl => ?_)
    refine lv_iload_n hx hb d_Ro_isShortAsShown_28 rfl (lv_at hl 1 rfl) ?_
    refine lv_iconst (v := nI 1) hx hb d_Ro_isShortAsShown_29 (by decide) ?_
    refine lv_icmp_lt (tgt := 39) hx hb d_Ro_isShortAsShown_30 (by decide) (fun c_2 => ?_) (fun c_2 => ?_)
    · skip
      rw [nI_ltI (by omega) (by omega)] at c_2
      refine lv_iconst (v := nI 0) hx hb d_Ro_isShortAsShown_39 (by decide) ?_
      exact mk_ti (by exact mk_bf (by simp only [shortN, decide_eq_false_iff_not]; intro h9; have h8 := h9.2.1 (by omega); omega)) (hret _ _ d_Ro_isShortAsShown_40)
    · skip
      rw [nI_ltI (by omega) (by omega)] at c_2
      refine lv_iload_n hx hb d_Ro_isShortAsShown_33 rfl (lv_at hl 1 rfl) ?_
      refine lv_bipush (v := nI 8) hx hb d_Ro_isShortAsShown_34 (by decide) ?_
      refine lv_icmp_le (tgt := 41) hx hb d_Ro_isShortAsShown_36 (by decide) (fun c_3 => ?_) (fun c_3 => ?_)
      · skip
        rw [nI_leI (by omega) (by omega)] at c_3
        refine lv_iload_n hx hb d_Ro_isShortAsShown_41 rfl (lv_at hl 2 rfl) ?_
        refine lv_iconst (v := (-1)) hx hb d_Ro_isShortAsShown_42 (by decide) ?_
        refine lv_icmp_eq (tgt := 58) hx hb d_Ro_isShortAsShown_43 (by decide) (fun c_4 => ?_) (fun c_4 => ?_)
        · skip
          exact absurd c_4 (mk_nm1 (by omega))
        · skip
          refine lv_iload_n hx hb d_Ro_isShortAsShown_46 rfl (lv_at hl 0 rfl) ?_
          refine lv_iconst (v := nI 1) hx hb d_Ro_isShortAsShown_47 (by decide) ?_
          refine lv_icmp_lt (tgt := 56) hx hb d_Ro_isShortAsShown_48 (by decide) (fun c_5 => ?_) (fun c_5 => ?_)
          · skip
            rw [nI_ltI (by omega) (by omega)] at c_5
            refine lv_iconst (v := nI 0) hx hb d_Ro_isShortAsShown_56 (by decide) ?_
            exact mk_ti (by exact mk_bf (by simp only [shortN, decide_eq_false_iff_not]; intro h9; have h8 := h9.2.1 (by omega); omega)) (hret _ _ d_Ro_isShortAsShown_57)
          · skip
            rw [nI_ltI (by omega) (by omega)] at c_5
            refine lv_iload_n hx hb d_Ro_isShortAsShown_51 rfl (lv_at hl 0 rfl) ?_
            refine lv_iconst (v := nI 3) hx hb d_Ro_isShortAsShown_52 (by decide) ?_
            refine lv_icmp_le (tgt := 58) hx hb d_Ro_isShortAsShown_53 (by decide) (fun c_6 => ?_) (fun c_6 => ?_)
            · skip
              rw [nI_leI (by omega) (by omega)] at c_6
              refine lv_iconst (v := nI 0) hx hb d_Ro_isShortAsShown_58 (by decide) ?_
              refine lv_istore (lv' := [(4, .int (nI 0)), (3, .int (nI (n - m9 - 1))), (2, .int (nI m9)), (1, .int (nI m9)), (0, .ref h)]) hx hb d_Ro_isShortAsShown_59 hl (by decide) rfl (fun ls hl => ?_)
              have lp61 : ∀ (k : Nat) (i : Nat) (ls : Array Slot), (i + k = n) → (∀ j, j < i → j = m9 ∨ okS (v j) = true) → lv_has ls 5 [(0, .ref h), (1, .int (nI m9)), (4, .int (nI i))] → W p l e ({ frames := 2, cells := 0, slots := 0, locals := 42 } : Room) s m ([.ref h] : List Value).toArray below meth c s.heap [] 0 0 Q (F0 m 61 ls []) := by
                intro k
                induction k with
                | zero =>
                  intro i ls hi hq hl
                  refine lv_iload hx hb d_Ro_isShortAsShown_61 (lv_at hl 2 rfl) ?_
                  refine lv_aload_n hx hb d_Ro_isShortAsShown_63 rfl (lv_at hl 0 rfl) ?_
                  refine va_get (D := (dC, dI)) (ci := 1) (v := .int (nI n)) (C := "LongNames$Row") (T := F_Ro) (N := 2) hx hb hts (iw_Ro _) hown hK hP 0 rfl rfl 1 (by decide) (hts _ (List.mem_cons_of_mem _ k_54)) (fun _ h9 => h9) rfl d_Ro_isShortAsShown_64 ?_
                  refine lv_icmp_ge (tgt := 96) hx hb d_Ro_isShortAsShown_67 (by decide) (fun c_7 => ?_) (fun c_7 => ?_)
                  · skip
                    rw [nI_leI (by omega) (by omega)] at c_7
                    refine lv_iconst (v := nI 1) hx hb d_Ro_isShortAsShown_96 (by decide) ?_
                    exact mk_ti (by exact mk_bt (by simp only [shortN, decide_eq_true_eq]; exact ⟨fun h9 => by omega, fun _ => ⟨by omega, by omega, by omega, by omega⟩, fun j hj => (hq j (by omega)).imp (fun h9 => by omega) id⟩)) (hret _ _ d_Ro_isShortAsShown_97)
                  · skip
                    rw [nI_leI (by omega) (by omega)] at c_7
                    first | omega | contradiction
                | succ k ih61 =>
                  intro i ls hi hq hl
                  refine lv_iload hx hb d_Ro_isShortAsShown_61 (lv_at hl 2 rfl) ?_
                  refine lv_aload_n hx hb d_Ro_isShortAsShown_63 rfl (lv_at hl 0 rfl) ?_
                  refine va_get (D := (dC, dI)) (ci := 1) (v := .int (nI n)) (C := "LongNames$Row") (T := F_Ro) (N := 2) hx hb hts (iw_Ro _) hown hK hP 0 rfl rfl 1 (by decide) (hts _ (List.mem_cons_of_mem _ k_54)) (fun _ h9 => h9) rfl d_Ro_isShortAsShown_64 ?_
                  refine lv_icmp_ge (tgt := 96) hx hb d_Ro_isShortAsShown_67 (by decide) (fun c_8 => ?_) (fun c_8 => ?_)
                  · skip
                    rw [nI_leI (by omega) (by omega)] at c_8
                    first | omega | contradiction
                  · skip
                    rw [nI_leI (by omega) (by omega)] at c_8
                    refine lv_iload hx hb d_Ro_isShortAsShown_70 (lv_at hl 2 rfl) ?_
                    refine lv_iload_n hx hb d_Ro_isShortAsShown_72 rfl (lv_at hl 1 rfl) ?_
                    refine lv_icmp_eq (tgt := 90) hx hb d_Ro_isShortAsShown_73 (by decide) (fun c_9 => ?_) (fun c_9 => ?_)
                    · skip
                      rw [nI_eq (by omega) (by omega)] at c_9
                      refine lv_iinc (v := nI (i + 1)) (lv' := [(4, .int (nI (i + 1))), (0, .ref h), (1, .int (nI m9))]) hx hb d_Ro_isShortAsShown_90 hl (k := 2) rfl (mk_i1 i) (by decide) rfl (fun ls hl => ?_)
                      refine lv_goto (tgt := 61) hx hb d_Ro_isShortAsShown_93 (by decide) ?_
                      have hl : lv_has ls 5 [(0, .ref h), (1, .int (nI m9)), (4, .int (nI (i + 1)))] := lv_sub hl [1, 2, 0] rfl
                      exact ih61 (i + 1) _ (by omega) (lt_s hq (by first | exact Or.inl (by omega) | exact Or.inr (by assumption))) hl
                    · skip
                      rw [nI_eq (by omega) (by omega)] at c_9
                      refine lv_aload_n hx hb d_Ro_isShortAsShown_76 rfl (lv_at hl 0 rfl) ?_
                      refine lv_iload hx hb d_Ro_isShortAsShown_77 (lv_at hl 2 rfl) ?_
                      refine mk_r1 (W.runV (As := [.int (nI i)]) (rest := []) S (c_Ro_get l dC dI cI h a n v i (by first | assumption | omega) (by first | assumption | omega) (by first | assumption | omega)) (gV 1 hts k_140 k_141 k_142 k_25 k_143 (by decide +kernel) ⟨Nat.le_of_ble_eq_true rfl, Nat.le_of_ble_eq_true rfl⟩) (mk_vR hP hK hT hS [0, 1] rfl (q0 := 0) (ci := 1) rfl rfl) rfl rfl hl.1 rfl (lv_room (Nat.le_of_ble_eq_true rfl)) d_Ro_isShortAsShown_79 ⟨Nat.zero_le _, Nat.zero_le _⟩) ?_
                      have b_10 := (show ∀ j9, v j9 < 65536 by assumption) i
                      refine mk_r1 (W.runS (As := [.int (nI (v i))]) (rest := []) S (c_Un_short l dC dI cI (v i) (by first | assumption | omega)) (gS 1 hts k_158 k_159 k_30 k_160 (by decide +kernel) ⟨Nat.le_of_ble_eq_true rfl, Nat.le_of_ble_eq_true rfl⟩) (mk_sR hP hK hT hS [] rfl) rfl rfl hl.1 rfl (lv_room (Nat.le_of_ble_eq_true rfl)) d_Ro_isShortAsShown_82 ⟨Nat.zero_le _, Nat.zero_le _⟩) ?_
                      refine lv_if_ne (tgt := 90) hx hb d_Ro_isShortAsShown_85 (by decide) (fun c_11 => ?_) (fun c_11 => ?_)
                      · skip
                        have c_11 := bI_1 c_11
                        refine lv_iinc (v := nI (i + 1)) (lv' := [(4, .int (nI (i + 1))), (0, .ref h), (1, .int (nI m9))]) hx hb d_Ro_isShortAsShown_90 hl (k := 2) rfl (mk_i1 i) (by decide) rfl (fun ls hl => ?_)
                        refine lv_goto (tgt := 61) hx hb d_Ro_isShortAsShown_93 (by decide) ?_
                        have hl : lv_has ls 5 [(0, .ref h), (1, .int (nI m9)), (4, .int (nI (i + 1)))] := lv_sub hl [1, 2, 0] rfl
                        exact ih61 (i + 1) _ (by omega) (lt_s hq (by first | exact Or.inl (by omega) | exact Or.inr (by assumption))) hl
                      · skip
                        have c_11 := bI_0 c_11
                        refine lv_iconst (v := nI 0) hx hb d_Ro_isShortAsShown_88 (by decide) ?_
                        exact mk_ti (by exact mk_bf (by simp only [shortN, decide_eq_false_iff_not]; intro h9; rcases h9.2.2 i (by omega) with h8 | h8 <;> first | omega | (rw [c_11] at h8; exact absurd h8 (by decide)))) (hret _ _ d_Ro_isShortAsShown_89)
              have hl : lv_has ls 5 [(0, .ref h), (1, .int (nI m9)), (4, .int (nI 0))] := lv_sub hl [4, 3, 0] rfl
              exact lp61 n 0 _ (by omega) (fun j hj => absurd hj (Nat.not_lt_zero j)) hl
            · skip
              rw [nI_leI (by omega) (by omega)] at c_6
              refine lv_iconst (v := nI 0) hx hb d_Ro_isShortAsShown_56 (by decide) ?_
              exact mk_ti (by exact mk_bf (by simp only [shortN, decide_eq_false_iff_not]; intro h9; have h8 := h9.2.1 (by omega); omega)) (hret _ _ d_Ro_isShortAsShown_57)
      · skip
        rw [nI_leI (by omega) (by omega)] at c_3
        refine lv_iconst (v := nI 0) hx hb d_Ro_isShortAsShown_39 (by decide) ?_
        exact mk_ti (by exact mk_bf (by simp only [shortN, decide_eq_false_iff_not]; intro h9; have h8 := h9.2.1 (by omega); omega)) (hret _ _ d_Ro_isShortAsShown_40)
  · skip
    exact absurd c_1 (mk_nm1 (by omega))

theorem c_Ro_short (l : Launch) (dC : Nat → ClassId) (dI : Nat → Nat → Nat) (cI : ClassId) (h a n : Nat) (v : Nat → Nat) (hn : n ≤ 255) (hv : ∀ j, v j < 65536) : mR l y_Ro_isShortAsShown w_Ro_isShortAsShown ({ frames := 2, cells := 0, slots := 0, locals := 42 } : Room) [.ref h] (dC, dI) vwCl [(cI, .int)] [(h, .inr (1, [.ref a, .int (nI n)])), (a, .inl (cI, 255, .inl (nf v)))] (some (.int (bI (shortN v n)))) := by
  cases h0 : lpN v n with
  | zero => exact c_Ro_sh0 l dC dI cI h a n v hn hv h0
  | succ m => exact c_Ro_sh1 l dC dI cI h a n v m hn hv h0

set_option maxHeartbeats 4000000 in
set_option maxRecDepth 100000 in
theorem c_Ro_parts (l : Launch) (dC : Nat → ClassId) (dI : Nat → Nat → Nat) (cI : ClassId) (h a n : Nat) (v : Nat → Nat) (hn : n ≤ 255) : mR l y_Ro_partsNeeded w_Ro_partsNeeded ({ frames := 0, cells := 0, slots := 0, locals := 0 } : Room) [.ref h] (dC, dI) vwCl [(cI, .int)] [(h, .inr (1, [.ref a, .int (nI n)])), (a, .inl (cI, 255, .inl (nf v)))] (some (.int (nI (pnN n)))) := by
  refine mk_Ri (cc := b_Ro_partsNeeded) (maxL := 1) (by decide) rfl (Nat.le_of_ble_eq_true rfl) rfl ?_
  intro p e s m below meth c Q A ls S hP hK hT hS hl hret
  obtain ⟨hx, hb, hml, hown, hts⟩ := id S
  have hl : lv_has ls 1 [(0, .ref h)] := hl
  refine lv_aload_n hx hb d_Ro_partsNeeded_0 rfl (lv_at hl 0 rfl) ?_
  refine va_get (D := (dC, dI)) (ci := 1) (v := .int (nI n)) (C := "LongNames$Row") (T := F_Ro) (N := 2) hx hb hts (iw_Ro _) hown hK hP 0 rfl rfl 1 (by decide) (hts _ (List.mem_cons_of_mem _ k_54)) (fun _ h9 => h9) rfl d_Ro_partsNeeded_1 ?_
  refine lv_bipush (v := nI 13) hx hb d_Ro_partsNeeded_4 (by decide) ?_
  refine lv_iadd hx hb d_Ro_partsNeeded_6 ?_
  refine mk_ti (y := nI (n + 13)) (nI_add n 13) ?_
  refine lv_iconst (v := nI 1) hx hb d_Ro_partsNeeded_7 (by decide) ?_
  refine lv_isub hx hb d_Ro_partsNeeded_8 ?_
  refine mk_ti (y := nI (n + 13 - 1)) (pk_sub (by omega)) ?_
  refine lv_bipush (v := nI 13) hx hb d_Ro_partsNeeded_9 (by decide) ?_
  refine lv_idiv hx hb d_Ro_partsNeeded_11 (by decide) ?_
  refine mk_ti (y := nI ((n + 13 - 1) / 13)) (pk_div (by omega) (by decide) (by decide)) ?_
  exact mk_ti (by rfl) (hret _ _ d_Ro_partsNeeded_12)

set_option maxHeartbeats 4000000 in
set_option maxRecDepth 100000 in
theorem c_Ro_es (l : Launch) (dC : Nat → ClassId) (dI : Nat → Nat → Nat) (cI : ClassId) (h a n : Nat) (v : Nat → Nat) (hn : n ≤ 255) (hv : ∀ j, v j < 65536) : mR l y_Ro_encodedSize w_Ro_encodedSize ({ frames := 1, cells := 0, slots := 0, locals := 21 } : Room) [.ref h] (dC, dI) vwCl [(cI, .int)] [(h, .inr (1, [.ref a, .int (nI n)])), (a, .inl (cI, 255, .inl (nf v)))] (some (.int (nI (esN v n)))) := by
  refine mk_Ri (cc := b_Ro_encodedSize) (maxL := 3) (by decide) rfl (Nat.le_of_ble_eq_true rfl) rfl ?_
  intro p e s m below meth c Q A ls S hP hK hT hS hl hret
  obtain ⟨hx, hb, hml, hown, hts⟩ := id S
  have hl : lv_has ls 3 [(0, .ref h)] := hl
  refine lv_iconst (v := nI 0) hx hb d_Ro_encodedSize_0 (by decide) ?_
  refine lv_istore_n (lv' := [(1, .int (nI 0)), (0, .ref h)]) hx hb d_Ro_encodedSize_1 rfl hl (by decide) rfl (fun ls hl => ?_)
  refine lv_iconst (v := nI 0) hx hb d_Ro_encodedSize_2 (by decide) ?_
  refine lv_istore_n (lv' := [(2, .int (nI 0)), (1, .int (nI 0)), (0, .ref h)]) hx hb d_Ro_encodedSize_3 rfl hl (by decide) rfl (fun ls hl => ?_)
  have lp4 : ∀ (k : Nat) (i : Nat) (ls : Array Slot), (i + k = n) → lv_has ls 3 [(0, .ref h), (1, .int (nI (esN v i))), (2, .int (nI i))] → W p l e ({ frames := 1, cells := 0, slots := 0, locals := 21 } : Room) s m ([.ref h] : List Value).toArray below meth c s.heap [] 0 0 Q (F0 m 4 ls []) := by
    intro k
    induction k with
    | zero =>
      intro i ls hi hl
      refine lv_iload_n hx hb d_Ro_encodedSize_4 rfl (lv_at hl 2 rfl) ?_
      refine lv_aload_n hx hb d_Ro_encodedSize_5 rfl (lv_at hl 0 rfl) ?_
      refine va_get (D := (dC, dI)) (ci := 1) (v := .int (nI n)) (C := "LongNames$Row") (T := F_Ro) (N := 2) hx hb hts (iw_Ro _) hown hK hP 0 rfl rfl 1 (by decide) (hts _ (List.mem_cons_of_mem _ k_54)) (fun _ h9 => h9) rfl d_Ro_encodedSize_6 ?_
      refine lv_icmp_ge (tgt := 29) hx hb d_Ro_encodedSize_9 (by decide) (fun c_1 => ?_) (fun c_1 => ?_)
      · skip
        rw [nI_leI (by omega) (by omega)] at c_1
        refine lv_iload_n hx hb d_Ro_encodedSize_29 rfl (lv_at hl 1 rfl) ?_
        exact mk_ti (by rw [show i = n by omega]) (hret _ _ d_Ro_encodedSize_30)
      · skip
        rw [nI_leI (by omega) (by omega)] at c_1
        first | omega | contradiction
    | succ k ih4 =>
      intro i ls hi hl
      refine lv_iload_n hx hb d_Ro_encodedSize_4 rfl (lv_at hl 2 rfl) ?_
      refine lv_aload_n hx hb d_Ro_encodedSize_5 rfl (lv_at hl 0 rfl) ?_
      refine va_get (D := (dC, dI)) (ci := 1) (v := .int (nI n)) (C := "LongNames$Row") (T := F_Ro) (N := 2) hx hb hts (iw_Ro _) hown hK hP 0 rfl rfl 1 (by decide) (hts _ (List.mem_cons_of_mem _ k_54)) (fun _ h9 => h9) rfl d_Ro_encodedSize_6 ?_
      refine lv_icmp_ge (tgt := 29) hx hb d_Ro_encodedSize_9 (by decide) (fun c_2 => ?_) (fun c_2 => ?_)
      · skip
        rw [nI_leI (by omega) (by omega)] at c_2
        first | omega | contradiction
      · skip
        rw [nI_leI (by omega) (by omega)] at c_2
        refine lv_iload_n hx hb d_Ro_encodedSize_12 rfl (lv_at hl 1 rfl) ?_
        refine lv_aload_n hx hb d_Ro_encodedSize_13 rfl (lv_at hl 0 rfl) ?_
        refine lv_iload_n hx hb d_Ro_encodedSize_14 rfl (lv_at hl 2 rfl) ?_
        refine mk_r1 (W.runV (As := [.int (nI i)]) (rest := [.int (nI (esN v i))]) S (c_Ro_get l dC dI cI h a n v i (by first | assumption | omega) (by first | assumption | omega) (by first | assumption | omega)) (gV 1 hts k_140 k_141 k_142 k_25 k_143 (by decide +kernel) ⟨Nat.le_of_ble_eq_true rfl, Nat.le_of_ble_eq_true rfl⟩) (mk_vR hP hK hT hS [0, 1] rfl (q0 := 0) (ci := 1) rfl rfl) rfl rfl hl.1 rfl (lv_room (Nat.le_of_ble_eq_true rfl)) d_Ro_encodedSize_15 ⟨Nat.zero_le _, Nat.zero_le _⟩) ?_
        have b_3 := (show ∀ j9, v j9 < 65536 by assumption) i
        refine mk_r1 (W.runS (As := [.int (nI (v i))]) (rest := [.int (nI (esN v i))]) S (c_Un_wd l dC dI cI (v i) (by first | assumption | omega)) (gS 1 hts k_169 k_170 k_30 k_171 (by decide +kernel) ⟨Nat.le_of_ble_eq_true rfl, Nat.le_of_ble_eq_true rfl⟩) (mk_sR hP hK hT hS [] rfl) rfl rfl hl.1 rfl (lv_room (Nat.le_of_ble_eq_true rfl)) d_Ro_encodedSize_18 ⟨Nat.zero_le _, Nat.zero_le _⟩) ?_
        have b_4 := wdN_in (v i)
        refine lv_iadd hx hb d_Ro_encodedSize_21 ?_
        refine mk_ti (y := nI (esN v i + wdN (v i))) (nI_add (esN v i) (wdN (v i))) ?_
        refine lv_istore_n (lv' := [(1, .int (nI (esN v i + wdN (v i)))), (0, .ref h), (2, .int (nI i))]) hx hb d_Ro_encodedSize_22 rfl hl (by decide) rfl (fun ls hl => ?_)
        refine lv_iinc (v := nI (i + 1)) (lv' := [(2, .int (nI (i + 1))), (1, .int (nI (esN v i + wdN (v i)))), (0, .ref h)]) hx hb d_Ro_encodedSize_23 hl (k := 2) rfl (mk_i1 i) (by decide) rfl (fun ls hl => ?_)
        refine lv_goto (tgt := 4) hx hb d_Ro_encodedSize_26 (by decide) ?_
        have hl : lv_has ls 3 [(0, .ref h), (1, .int (nI (esN v i + wdN (v i)))), (2, .int (nI (i + 1)))] := lv_sub hl [2, 1, 0] rfl
        have hl9 : ([(0, .ref h), (1, .int (nI (esN v i + wdN (v i)))), (2, .int (nI (i + 1)))] : List (Nat × Value)) = [(0, .ref h), (1, .int (nI (esN v (i + 1)))), (2, .int (nI (i + 1)))] := by rfl
        rw [hl9] at hl
        exact ih4 (i + 1) _ (by omega) hl
  have hl : lv_has ls 3 [(0, .ref h), (1, .int (nI 0)), (2, .int (nI 0))] := lv_sub hl [2, 1, 0] rfl
  have hl9 : ([(0, .ref h), (1, .int (nI 0)), (2, .int (nI 0))] : List (Nat × Value)) = [(0, .ref h), (1, .int (nI (esN v 0))), (2, .int (nI 0))] := by rfl
  rw [hl9] at hl
  exact lp4 n 0 _ (by omega) hl

set_option maxHeartbeats 4000000 in
set_option maxRecDepth 100000 in
theorem c_Ro_ebX (l : Launch) (dC : Nat → ClassId) (dI : Nat → Nat → Nat) (cI : ClassId) (h a n : Nat) (v : Nat → Nat) (x : Int32) (hx9 : x < 0) : mR l y_Ro_encodedByte w_Ro_encodedByte ({ frames := 0, cells := 0, slots := 0, locals := 0 } : Room) [.ref h, .int x] (dC, dI) vwCl [(cI, .int)] [(h, .inr (1, [.ref a, .int (nI n)])), (a, .inl (cI, 255, .inl (nf v)))] (some (.int (-1))) := by
  refine mk_Ri (cc := b_Ro_encodedByte) (maxL := 5) (by decide) rfl (Nat.le_of_ble_eq_true rfl) rfl ?_
  intro p e s m below meth c Q A ls S hP hK hT hS hl hret
  obtain ⟨hx, hb, hml, hown, hts⟩ := id S
  have hl : lv_has ls 5 [(0, .ref h), (1, .int x)] := hl
  refine lv_iload_n hx hb d_Ro_encodedByte_0 rfl (lv_at hl 1 rfl) ?_
  refine lv_if_ge (tgt := 6) hx hb d_Ro_encodedByte_1 (by decide) (fun c_1 => ?_) (fun c_1 => ?_)
  · skip
    exact absurd c_1 (Int32.not_le.mpr hx9)
  · skip
    refine lv_iconst (v := (-1)) hx hb d_Ro_encodedByte_4 (by decide) ?_
    exact hret _ _ d_Ro_encodedByte_5

set_option maxHeartbeats 4000000 in
set_option maxRecDepth 100000 in
theorem c_Ro_ebN (l : Launch) (dC : Nat → ClassId) (dI : Nat → Nat → Nat) (cI : ClassId) (h a n : Nat) (v : Nat → Nat) (t : Nat) (hn : n ≤ 255) (hv : ∀ j, v j < 65536) (ht : t < 2 ^ 31) : mR l y_Ro_encodedByte w_Ro_encodedByte ({ frames := 2, cells := 0, slots := 0, locals := 43 } : Room) [.ref h, .int (nI t)] (dC, dI) vwCl [(cI, .int)] [(h, .inr (1, [.ref a, .int (nI n)])), (a, .inl (cI, 255, .inl (nf v)))] (some (.int (ebL v n 0 t))) := by
  refine mk_Ri (cc := b_Ro_encodedByte) (maxL := 5) (by decide) rfl (Nat.le_of_ble_eq_true rfl) rfl ?_
  intro p e s m below meth c Q A ls S hP hK hT hS hl hret
  obtain ⟨hx, hb, hml, hown, hts⟩ := id S
  have hl : lv_has ls 5 [(0, .ref h), (1, .int (nI t))] := hl
  refine lv_iload_n hx hb d_Ro_encodedByte_0 rfl (lv_at hl 1 rfl) ?_
  refine lv_if_ge (tgt := 6) hx hb d_Ro_encodedByte_1 (by decide) (fun c_1 => ?_) (fun c_1 => ?_)
  · skip
    rw [mk_cge (by omega)] at c_1
    refine lv_iload_n hx hb d_Ro_encodedByte_6 rfl (lv_at hl 1 rfl) ?_
    refine lv_istore_n (lv' := [(2, .int (nI t)), (0, .ref h), (1, .int (nI t))]) hx hb d_Ro_encodedByte_7 rfl hl (by decide) rfl (fun ls hl => ?_)
    refine lv_iconst (v := nI 0) hx hb d_Ro_encodedByte_8 (by decide) ?_
    refine lv_istore_n (lv' := [(3, .int (nI 0)), (2, .int (nI t)), (0, .ref h), (1, .int (nI t))]) hx hb d_Ro_encodedByte_9 rfl hl (by decide) rfl (fun ls hl => ?_)
    have lp10 : ∀ (k : Nat) (i r : Nat) (ls : Array Slot), (i + k = n) → (r < 2 ^ 31) → (ebL v n 0 t = ebL v k i r) → lv_has ls 5 [(0, .ref h), (2, .int (nI r)), (3, .int (nI i))] → W p l e ({ frames := 2, cells := 0, slots := 0, locals := 43 } : Room) s m ([.ref h, .int (nI t)] : List Value).toArray below meth c s.heap [] 0 0 Q (F0 m 10 ls []) := by
      intro k
      induction k with
      | zero =>
        intro i r ls hi hr9 he hl
        refine lv_iload_n hx hb d_Ro_encodedByte_10 rfl (lv_at hl 2 rfl) ?_
        refine lv_aload_n hx hb d_Ro_encodedByte_11 rfl (lv_at hl 0 rfl) ?_
        refine va_get (D := (dC, dI)) (ci := 1) (v := .int (nI n)) (C := "LongNames$Row") (T := F_Ro) (N := 2) hx hb hts (iw_Ro _) hown hK hP 0 rfl rfl 1 (by decide) (hts _ (List.mem_cons_of_mem _ k_54)) (fun _ h9 => h9) rfl d_Ro_encodedByte_12 ?_
        refine lv_icmp_ge (tgt := 55) hx hb d_Ro_encodedByte_15 (by decide) (fun c_2 => ?_) (fun c_2 => ?_)
        · skip
          rw [nI_leI (by omega) (by omega)] at c_2
          refine lv_iconst (v := (-1)) hx hb d_Ro_encodedByte_55 (by decide) ?_
          exact mk_ti (by rw [he]; rfl) (hret _ _ d_Ro_encodedByte_56)
        · skip
          rw [nI_leI (by omega) (by omega)] at c_2
          first | omega | contradiction
      | succ k ih10 =>
        intro i r ls hi hr9 he hl
        refine lv_iload_n hx hb d_Ro_encodedByte_10 rfl (lv_at hl 2 rfl) ?_
        refine lv_aload_n hx hb d_Ro_encodedByte_11 rfl (lv_at hl 0 rfl) ?_
        refine va_get (D := (dC, dI)) (ci := 1) (v := .int (nI n)) (C := "LongNames$Row") (T := F_Ro) (N := 2) hx hb hts (iw_Ro _) hown hK hP 0 rfl rfl 1 (by decide) (hts _ (List.mem_cons_of_mem _ k_54)) (fun _ h9 => h9) rfl d_Ro_encodedByte_12 ?_
        refine lv_icmp_ge (tgt := 55) hx hb d_Ro_encodedByte_15 (by decide) (fun c_3 => ?_) (fun c_3 => ?_)
        · skip
          rw [nI_leI (by omega) (by omega)] at c_3
          first | omega | contradiction
        · skip
          rw [nI_leI (by omega) (by omega)] at c_3
          refine lv_aload_n hx hb d_Ro_encodedByte_18 rfl (lv_at hl 0 rfl) ?_
          refine lv_iload_n hx hb d_Ro_encodedByte_19 rfl (lv_at hl 2 rfl) ?_
          refine mk_r1 (W.runV (As := [.int (nI i)]) (rest := []) S (c_Ro_get l dC dI cI h a n v i (by first | assumption | omega) (by first | assumption | omega) (by first | assumption | omega)) (gV 1 hts k_140 k_141 k_142 k_25 k_143 (by decide +kernel) ⟨Nat.le_of_ble_eq_true rfl, Nat.le_of_ble_eq_true rfl⟩) (mk_vR hP hK hT hS [0, 1] rfl (q0 := 0) (ci := 1) rfl rfl) rfl rfl hl.1 rfl (lv_room (Nat.le_of_ble_eq_true rfl)) d_Ro_encodedByte_20 ⟨Nat.zero_le _, Nat.zero_le _⟩) ?_
          have b_4 := (show ∀ j9, v j9 < 65536 by assumption) i
          refine mk_r1 (W.runS (As := [.int (nI (v i))]) (rest := []) S (c_Un_wd l dC dI cI (v i) (by first | assumption | omega)) (gS 1 hts k_169 k_170 k_30 k_171 (by decide +kernel) ⟨Nat.le_of_ble_eq_true rfl, Nat.le_of_ble_eq_true rfl⟩) (mk_sR hP hK hT hS [] rfl) rfl rfl hl.1 rfl (lv_room (Nat.le_of_ble_eq_true rfl)) d_Ro_encodedByte_23 ⟨Nat.zero_le _, Nat.zero_le _⟩) ?_
          have b_5 := wdN_in (v i)
          refine lv_istore (lv' := [(4, .int (nI (wdN (v i)))), (0, .ref h), (2, .int (nI r)), (3, .int (nI i))]) hx hb d_Ro_encodedByte_26 hl (by decide) rfl (fun ls hl => ?_)
          refine lv_iload_n hx hb d_Ro_encodedByte_28 rfl (lv_at hl 2 rfl) ?_
          refine lv_iload hx hb d_Ro_encodedByte_29 (lv_at hl 0 rfl) ?_
          refine lv_icmp_ge (tgt := 44) hx hb d_Ro_encodedByte_31 (by decide) (fun c_6 => ?_) (fun c_6 => ?_)
          · skip
            rw [nI_leI (by omega) (by omega)] at c_6
            refine lv_iload_n hx hb d_Ro_encodedByte_44 rfl (lv_at hl 2 rfl) ?_
            refine lv_iload hx hb d_Ro_encodedByte_45 (lv_at hl 0 rfl) ?_
            refine lv_isub hx hb d_Ro_encodedByte_47 ?_
            refine mk_ti (y := nI (r - (wdN (v i)))) (pk_sub (by omega)) ?_
            refine lv_istore_n (lv' := [(2, .int (nI (r - (wdN (v i))))), (4, .int (nI (wdN (v i)))), (0, .ref h), (3, .int (nI i))]) hx hb d_Ro_encodedByte_48 rfl hl (by decide) rfl (fun ls hl => ?_)
            refine lv_iinc (v := nI (i + 1)) (lv' := [(3, .int (nI (i + 1))), (2, .int (nI (r - (wdN (v i))))), (4, .int (nI (wdN (v i)))), (0, .ref h)]) hx hb d_Ro_encodedByte_49 hl (k := 3) rfl (mk_i1 i) (by decide) rfl (fun ls hl => ?_)
            refine lv_goto (tgt := 10) hx hb d_Ro_encodedByte_52 (by decide) ?_
            have hl : lv_has ls 5 [(0, .ref h), (2, .int (nI (r - (wdN (v i))))), (3, .int (nI (i + 1)))] := lv_sub hl [3, 1, 0] rfl
            have hl9 : ([(0, .ref h), (2, .int (nI (r - (wdN (v i))))), (3, .int (nI (i + 1)))] : List (Nat × Value)) = [(0, .ref h), (2, .int (nI (r - wdN (v i)))), (3, .int (nI (i + 1)))] := by rfl
            rw [hl9] at hl
            exact ih10 (i + 1) (r - wdN (v i)) _ (by omega) (by omega) (he.trans (by rw [ebL, if_neg (by omega)])) hl
          · skip
            rw [nI_leI (by omega) (by omega)] at c_6
            refine lv_aload_n hx hb d_Ro_encodedByte_34 rfl (lv_at hl 1 rfl) ?_
            refine lv_iload_n hx hb d_Ro_encodedByte_35 rfl (lv_at hl 3 rfl) ?_
            refine mk_r1 (W.runV (As := [.int (nI i)]) (rest := []) S (c_Ro_get l dC dI cI h a n v i (by first | assumption | omega) (by first | assumption | omega) (by first | assumption | omega)) (gV 1 hts k_140 k_141 k_142 k_25 k_143 (by decide +kernel) ⟨Nat.le_of_ble_eq_true rfl, Nat.le_of_ble_eq_true rfl⟩) (mk_vR hP hK hT hS [0, 1] rfl (q0 := 0) (ci := 1) rfl rfl) rfl rfl hl.1 rfl (lv_room (Nat.le_of_ble_eq_true rfl)) d_Ro_encodedByte_36 ⟨Nat.zero_le _, Nat.zero_le _⟩) ?_
            have b_7 := (show ∀ j9, v j9 < 65536 by assumption) i
            refine lv_iload_n hx hb d_Ro_encodedByte_39 rfl (lv_at hl 2 rfl) ?_
            refine mk_r1 (W.runS (As := [.int (nI (v i)), .int (nI r)]) (rest := []) S (c_Un_eb l dC dI cI (v i) r (by first | assumption | omega) (by first | assumption | omega)) (gS 2 hts k_180 k_181 k_30 k_182 (by decide +kernel) ⟨Nat.le_of_ble_eq_true rfl, Nat.le_of_ble_eq_true rfl⟩) (mk_sR hP hK hT hS [] rfl) rfl rfl hl.1 rfl (lv_room (Nat.le_of_ble_eq_true rfl)) d_Ro_encodedByte_40 ⟨Nat.zero_le _, Nat.zero_le _⟩) ?_
            exact mk_ti (by rw [he, ebL, if_pos (by omega)]) (hret _ _ d_Ro_encodedByte_43)
    have hl : lv_has ls 5 [(0, .ref h), (2, .int (nI t)), (3, .int (nI 0))] := lv_sub hl [2, 1, 0] rfl
    exact lp10 n 0 t _ (by omega) ht rfl hl
  · skip
    rw [mk_cge (by omega)] at c_1
    first | omega | contradiction

set_option maxHeartbeats 4000000 in
set_option maxRecDepth 100000 in
theorem c_Ro_like (l : Launch) (dC : Nat → ClassId) (dI : Nat → Nat → Nat) (cI : ClassId) (h a n : Nat) (v : Nat → Nat) (h2 a2 n2 : Nat) (v2 : Nat → Nat) (hn : n ≤ 255) (hv : ∀ j, v j < 65536) (hn2 : n2 ≤ 255) (hv2 : ∀ j, v2 j < 65536) : mR l y_Ro_isLike w_Ro_isLike ({ frames := 1, cells := 0, slots := 0, locals := 21 } : Room) [.ref h, .ref h2] (dC, dI) vwCl [(cI, .int)] [(h, .inr (1, [.ref a, .int (nI n)])), (a, .inl (cI, 255, .inl (nf v))), (h2, .inr (1, [.ref a2, .int (nI n2)])), (a2, .inl (cI, 255, .inl (nf v2)))] (some (.int (bI (likeN v n v2 n2)))) := by
  refine mk_Ri (cc := b_Ro_isLike) (maxL := 3) (by decide) rfl (Nat.le_of_ble_eq_true rfl) (mk_nz _) ?_
  intro p e s m below meth c Q A ls S hP hK hT hS hl hret
  obtain ⟨hx, hb, hml, hown, hts⟩ := id S
  have hl : lv_has ls 3 [(0, .ref h), (1, .ref h2)] := hl
  refine lv_aload_n hx hb d_Ro_isLike_0 rfl (lv_at hl 1 rfl) ?_
  refine lv_ifnull hx hb d_Ro_isLike_1 ?_
  refine lv_aload_n hx hb d_Ro_isLike_4 rfl (lv_at hl 0 rfl) ?_
  refine va_get (D := (dC, dI)) (ci := 1) (v := .int (nI n)) (C := "LongNames$Row") (T := F_Ro) (N := 2) hx hb hts (iw_Ro _) hown hK hP 0 rfl rfl 1 (by decide) (hts _ (List.mem_cons_of_mem _ k_54)) (fun _ h9 => h9) rfl d_Ro_isLike_5 ?_
  refine lv_aload_n hx hb d_Ro_isLike_8 rfl (lv_at hl 1 rfl) ?_
  refine va_get (D := (dC, dI)) (ci := 1) (v := .int (nI n2)) (C := "LongNames$Row") (T := F_Ro) (N := 2) hx hb hts (iw_Ro _) hown hK hP 2 rfl rfl 1 (by decide) (hts _ (List.mem_cons_of_mem _ k_54)) (fun _ h9 => h9) rfl d_Ro_isLike_9 ?_
  refine lv_icmp_eq (tgt := 17) hx hb d_Ro_isLike_12 (by decide) (fun c_1 => ?_) (fun c_1 => ?_)
  · skip
    rw [nI_eq (by omega) (by omega)] at c_1
    refine lv_iconst (v := nI 0) hx hb d_Ro_isLike_17 (by decide) ?_
    refine lv_istore_n (lv' := [(2, .int (nI 0)), (0, .ref h), (1, .ref h2)]) hx hb d_Ro_isLike_18 rfl hl (by decide) rfl (fun ls hl => ?_)
    have lp19 : ∀ (k : Nat) (i : Nat) (ls : Array Slot), (i + k = n) → (∀ j, j < i → capN (v j) = capN (v2 j)) → lv_has ls 3 [(0, .ref h), (1, .ref h2), (2, .int (nI i))] → W p l e ({ frames := 1, cells := 0, slots := 0, locals := 21 } : Room) s m ([.ref h, .ref h2] : List Value).toArray below meth c s.heap [] 0 0 Q (F0 m 19 ls []) := by
      intro k
      induction k with
      | zero =>
        intro i ls hi hq hl
        refine lv_iload_n hx hb d_Ro_isLike_19 rfl (lv_at hl 2 rfl) ?_
        refine lv_aload_n hx hb d_Ro_isLike_20 rfl (lv_at hl 0 rfl) ?_
        refine va_get (D := (dC, dI)) (ci := 1) (v := .int (nI n)) (C := "LongNames$Row") (T := F_Ro) (N := 2) hx hb hts (iw_Ro _) hown hK hP 0 rfl rfl 1 (by decide) (hts _ (List.mem_cons_of_mem _ k_54)) (fun _ h9 => h9) rfl d_Ro_isLike_21 ?_
        refine lv_icmp_ge (tgt := 54) hx hb d_Ro_isLike_24 (by decide) (fun c_2 => ?_) (fun c_2 => ?_)
        · skip
          rw [nI_leI (by omega) (by omega)] at c_2
          refine lv_iconst (v := nI 1) hx hb d_Ro_isLike_54 (by decide) ?_
          exact mk_ti (by exact mk_bt (by simp only [likeN, decide_eq_true_eq]; exact ⟨by omega, fun j hj => hq j (by omega)⟩)) (hret _ _ d_Ro_isLike_55)
        · skip
          rw [nI_leI (by omega) (by omega)] at c_2
          first | omega | contradiction
      | succ k ih19 =>
        intro i ls hi hq hl
        refine lv_iload_n hx hb d_Ro_isLike_19 rfl (lv_at hl 2 rfl) ?_
        refine lv_aload_n hx hb d_Ro_isLike_20 rfl (lv_at hl 0 rfl) ?_
        refine va_get (D := (dC, dI)) (ci := 1) (v := .int (nI n)) (C := "LongNames$Row") (T := F_Ro) (N := 2) hx hb hts (iw_Ro _) hown hK hP 0 rfl rfl 1 (by decide) (hts _ (List.mem_cons_of_mem _ k_54)) (fun _ h9 => h9) rfl d_Ro_isLike_21 ?_
        refine lv_icmp_ge (tgt := 54) hx hb d_Ro_isLike_24 (by decide) (fun c_3 => ?_) (fun c_3 => ?_)
        · skip
          rw [nI_leI (by omega) (by omega)] at c_3
          first | omega | contradiction
        · skip
          rw [nI_leI (by omega) (by omega)] at c_3
          refine lv_aload_n hx hb d_Ro_isLike_27 rfl (lv_at hl 0 rfl) ?_
          refine lv_iload_n hx hb d_Ro_isLike_28 rfl (lv_at hl 2 rfl) ?_
          refine mk_r1 (W.runV (As := [.int (nI i)]) (rest := []) S (c_Ro_get l dC dI cI h a n v i (by first | assumption | omega) (by first | assumption | omega) (by first | assumption | omega)) (gV 1 hts k_140 k_141 k_142 k_25 k_143 (by decide +kernel) ⟨Nat.le_of_ble_eq_true rfl, Nat.le_of_ble_eq_true rfl⟩) (mk_vR hP hK hT hS [0, 1] rfl (q0 := 0) (ci := 1) rfl rfl) rfl rfl hl.1 rfl (lv_room (Nat.le_of_ble_eq_true rfl)) d_Ro_isLike_29 ⟨Nat.zero_le _, Nat.zero_le _⟩) ?_
          have b_4 := (show ∀ j9, v j9 < 65536 by assumption) i
          refine mk_r1 (W.runS (As := [.int (nI (v i))]) (rest := []) S (c_Un_cap l dC dI cI (v i) (by first | assumption | omega)) (gS 1 hts k_192 k_193 k_30 k_194 (by decide +kernel) ⟨Nat.le_of_ble_eq_true rfl, Nat.le_of_ble_eq_true rfl⟩) (mk_sR hP hK hT hS [] rfl) rfl rfl hl.1 rfl (lv_room (Nat.le_of_ble_eq_true rfl)) d_Ro_isLike_32 ⟨Nat.zero_le _, Nat.zero_le _⟩) ?_
          have b_5 := capN_le (v i)
          refine lv_aload_n hx hb d_Ro_isLike_35 rfl (lv_at hl 1 rfl) ?_
          refine lv_iload_n hx hb d_Ro_isLike_36 rfl (lv_at hl 2 rfl) ?_
          refine mk_r1 (W.runV (As := [.int (nI i)]) (rest := [.int (nI (capN (v i)))]) S (c_Ro_get l dC dI cI h2 a2 n2 v2 i (by first | assumption | omega) (by first | assumption | omega) (by first | assumption | omega)) (gV 1 hts k_140 k_141 k_142 k_25 k_143 (by decide +kernel) ⟨Nat.le_of_ble_eq_true rfl, Nat.le_of_ble_eq_true rfl⟩) (mk_vR hP hK hT hS [2, 3] rfl (q0 := 2) (ci := 1) rfl rfl) rfl rfl hl.1 rfl (lv_room (Nat.le_of_ble_eq_true rfl)) d_Ro_isLike_37 ⟨Nat.zero_le _, Nat.zero_le _⟩) ?_
          have b_6 := (show ∀ j9, v2 j9 < 65536 by assumption) i
          refine mk_r1 (W.runS (As := [.int (nI (v2 i))]) (rest := [.int (nI (capN (v i)))]) S (c_Un_cap l dC dI cI (v2 i) (by first | assumption | omega)) (gS 1 hts k_192 k_193 k_30 k_194 (by decide +kernel) ⟨Nat.le_of_ble_eq_true rfl, Nat.le_of_ble_eq_true rfl⟩) (mk_sR hP hK hT hS [] rfl) rfl rfl hl.1 rfl (lv_room (Nat.le_of_ble_eq_true rfl)) d_Ro_isLike_40 ⟨Nat.zero_le _, Nat.zero_le _⟩) ?_
          have b_7 := capN_le (v2 i)
          refine lv_icmp_eq (tgt := 48) hx hb d_Ro_isLike_43 (by decide) (fun c_8 => ?_) (fun c_8 => ?_)
          · skip
            rw [nI_eq (by omega) (by omega)] at c_8
            refine lv_iinc (v := nI (i + 1)) (lv' := [(2, .int (nI (i + 1))), (0, .ref h), (1, .ref h2)]) hx hb d_Ro_isLike_48 hl (k := 2) rfl (mk_i1 i) (by decide) rfl (fun ls hl => ?_)
            refine lv_goto (tgt := 19) hx hb d_Ro_isLike_51 (by decide) ?_
            have hl : lv_has ls 3 [(0, .ref h), (1, .ref h2), (2, .int (nI (i + 1)))] := lv_sub hl [1, 2, 0] rfl
            exact ih19 (i + 1) _ (by omega) (lt_s hq (by assumption)) hl
          · skip
            rw [nI_eq (by omega) (by omega)] at c_8
            refine lv_iconst (v := nI 0) hx hb d_Ro_isLike_46 (by decide) ?_
            exact mk_ti (by exact mk_bf (by simp only [likeN, decide_eq_false_iff_not]; intro h9; exact c_8 (h9.2 i (by omega)))) (hret _ _ d_Ro_isLike_47)
    have hl : lv_has ls 3 [(0, .ref h), (1, .ref h2), (2, .int (nI 0))] := lv_sub hl [1, 2, 0] rfl
    exact lp19 n 0 _ (by omega) (fun j hj => absurd hj (Nat.not_lt_zero j)) hl
  · skip
    rw [nI_eq (by omega) (by omega)] at c_1
    refine lv_iconst (v := nI 0) hx hb d_Ro_isLike_15 (by decide) ?_
    exact mk_ti (by exact mk_bf (by simp only [likeN, decide_eq_false_iff_not]; intro h9; omega)) (hret _ _ d_Ro_isLike_16)

