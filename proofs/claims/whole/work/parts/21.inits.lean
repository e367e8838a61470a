theorem mk_ha (N : Nat) (cA : ClassId) : vp_cell cA (N, .inl (nf (fun _ => 0))) = arrV cA N (fun _ => defaultValue .int) := (vp_cell_i cA N _).trans (congrArg (arrV cA N) (funext fun _ => rfl))
set_option maxHeartbeats 400000 in
set_option maxRecDepth 100000 in
theorem c_Ro_init (l : Launch) (dC : Nat → ClassId) (dI : Nat → Nat → Nat) (cI : ClassId) (h : Nat) : mC l y_Ro_init w_Ro_init ({ frames := 1, cells := 1, slots := 255, locals := 12 } : Room) [.ref h] (dC, dI) vwCl [(cI, .int)] [(h, .inr (1, [.null, .int 0]))] (fun q => [(h, .inr (1, [.ref (q 0), .int 0])), ((q 0), .inl (cI, 255, .inl (nf (fun _ => 0))))]) 1 255 := by
  refine mk_Cv (cc := b_Ro_init) (maxL := 1) (by decide) rfl (Nat.le_of_ble_eq_true rfl) ?_
  intro p e s m below meth c Q A ls S hP hK hT hS hl hD hA hin hret
  obtain ⟨hx, hb, hml, hown, hts⟩ := id S
  have hl : lv_has ls 1 [(0, .ref h)] := hl
  refine lv_aload_n hx hb d_Ro_init_0 rfl (lv_at hl 0 rfl) ?_
  refine W.objInit hx hb hown (hts _ (List.mem_cons_of_mem _ k_52)) (hts _ (List.mem_cons_of_mem _ k_45)) (hts _ (List.mem_cons_of_mem _ k_46)) rfl (by rw [hml]; exact hl.1) rfl d_Ro_init_1 (Nat.le_of_ble_eq_true rfl) (Nat.le_of_ble_eq_true rfl) ?_
  refine W.eq (g2 := F0 m 4 ls []) rfl ?_
  refine lv_aload_n hx hb d_Ro_init_4 rfl (lv_at hl 0 rfl) ?_
  refine lv_sipush (v := nI 255) hx hb d_Ro_init_5 (by decide) ?_
  refine va_newa (atype := .int) (ty := .int) (a0 := (255, .inl (nf (fun _ => 0)))) (N' := 255) hx hb (hts _ (List.mem_cons_of_mem _ k_60)) rfl hK hP hD hS hA (mk_ha 255) (nI_pos (by decide)) (nI_clamp (by decide)) (by decide) (Nat.le_of_ble_eq_true rfl) (Nat.le_of_ble_eq_true rfl) d_Ro_init_8 (fun q_1 cA H hK2 hP hD hS => ?_)
  rw [mk_cA hK2] at hP hD
  have hP : va_P (dC, dI) vwCl [(h, .inr (1, [.null, .int 0])), (q_1, .inl (cI, 255, .inl (nf (fun _ => 0))))] H := hP
  have hD : va_D A [(h, .inr (1, [.null, .int 0])), (q_1, .inl (cI, 255, .inl (nf (fun _ => 0))))] := hD
  refine W.widen (k := 1) (n := 255) (by omega) (by omega) ?_
  refine va_putF (D := (dC, dI)) (ci := 1) (v := .ref q_1) (ty := .array .int) (C := "LongNames$Row") (T := F_Ro) (N := 2) hx hb hts (iw_Ro _) t_Ro t_Ro_ok n_Ro hown hK hP hD hS 0 rfl rfl 0 (by decide) (hts _ (List.mem_cons_of_mem _ k_53)) (fun _ h9 => h9) rfl hin rfl (by decide +kernel) rfl rfl (Nat.le_of_ble_eq_true rfl) d_Ro_init_10 (fun H locs hP hD hS => ?_)
  have hP : va_P (dC, dI) vwCl [(h, .inr (1, [.ref q_1, .int 0])), (q_1, .inl (cI, 255, .inl (nf (fun _ => 0))))] H := hP
  have hD : va_D A [(h, .inr (1, [.ref q_1, .int 0])), (q_1, .inl (cI, 255, .inl (nf (fun _ => 0))))] := hD
  exact hret _ _ _ _ (fun k => ([q_1] : List Nat).getD k 0) d_Ro_init_13 hP hD hS

set_option maxHeartbeats 400000 in
set_option maxRecDepth 100000 in
theorem c_Sn_init (l : Launch) (dC : Nat → ClassId) (dI : Nat → Nat → Nat) (cI : ClassId) (h : Nat) : mC l y_Sn_init w_Sn_init ({ frames := 1, cells := 1, slots := 11, locals := 12 } : Room) [.ref h] (dC, dI) vwCl [(cI, .int)] [(h, .inr (2, [.null]))] (fun q => [(h, .inr (2, [.ref (q 0)])), ((q 0), .inl (cI, 11, .inl (nf (fun _ => 0))))]) 1 11 := by
  refine mk_Cv (cc := b_Sn_init) (maxL := 1) (by decide) rfl (Nat.le_of_ble_eq_true rfl) ?_
  intro p e s m below meth c Q A ls S hP hK hT hS hl hD hA hin hret
  obtain ⟨hx, hb, hml, hown, hts⟩ := id S
  have hl : lv_has ls 1 [(0, .ref h)] := hl
  refine lv_aload_n hx hb d_Sn_init_0 rfl (lv_at hl 0 rfl) ?_
  refine W.objInit hx hb hown (hts _ (List.mem_cons_of_mem _ k_66)) (hts _ (List.mem_cons_of_mem _ k_45)) (hts _ (List.mem_cons_of_mem _ k_46)) rfl (by rw [hml]; exact hl.1) rfl d_Sn_init_1 (Nat.le_of_ble_eq_true rfl) (Nat.le_of_ble_eq_true rfl) ?_
  refine W.eq (g2 := F0 m 4 ls []) rfl ?_
  refine lv_aload_n hx hb d_Sn_init_4 rfl (lv_at hl 0 rfl) ?_
  refine lv_bipush (v := nI 11) hx hb d_Sn_init_5 (by decide) ?_
  refine va_newa (atype := .int) (ty := .int) (a0 := (11, .inl (nf (fun _ => 0)))) (N' := 11) hx hb (hts _ (List.mem_cons_of_mem _ k_60)) rfl hK hP hD hS hA (mk_ha 11) (nI_pos (by decide)) (nI_clamp (by decide)) (by decide) (Nat.le_of_ble_eq_true rfl) (Nat.le_of_ble_eq_true rfl) d_Sn_init_7 (fun q_1 cA H hK2 hP hD hS => ?_)
  rw [mk_cA hK2] at hP hD
  have hP : va_P (dC, dI) vwCl [(h, .inr (2, [.null])), (q_1, .inl (cI, 11, .inl (nf (fun _ => 0))))] H := hP
  have hD : va_D A [(h, .inr (2, [.null])), (q_1, .inl (cI, 11, .inl (nf (fun _ => 0))))] := hD
  refine W.widen (k := 1) (n := 11) (by omega) (by omega) ?_
  refine va_putF (D := (dC, dI)) (ci := 2) (v := .ref q_1) (ty := .array .int) (C := "LongNames$ShortName") (T := F_Sn) (N := 1) hx hb hts (iw_Sn _) t_Sn t_Sn_ok n_Sn hown hK hP hD hS 0 rfl rfl 0 (by decide) (hts _ (List.mem_cons_of_mem _ k_67)) (fun _ h9 => h9) rfl hin rfl (by decide +kernel) rfl rfl (Nat.le_of_ble_eq_true rfl) d_Sn_init_9 (fun H locs hP hD hS => ?_)
  have hP : va_P (dC, dI) vwCl [(h, .inr (2, [.ref q_1])), (q_1, .inl (cI, 11, .inl (nf (fun _ => 0))))] H := hP
  have hD : va_D A [(h, .inr (2, [.ref q_1])), (q_1, .inl (cI, 11, .inl (nf (fun _ => 0))))] := hD
  exact hret _ _ _ _ (fun k => ([q_1] : List Nat).getD k 0) d_Sn_init_12 hP hD hS

set_option maxHeartbeats 400000 in
set_option maxRecDepth 100000 in
theorem c_Pt_init (l : Launch) (dC : Nat → ClassId) (dI : Nat → Nat → Nat) (cI : ClassId) (h : Nat) : mC l y_Pt_init w_Pt_init ({ frames := 1, cells := 1, slots := 32, locals := 12 } : Room) [.ref h] (dC, dI) vwCl [(cI, .int)] [(h, .inr (3, [.null]))] (fun q => [(h, .inr (3, [.ref (q 0)])), ((q 0), .inl (cI, 32, .inl (nf (fun _ => 0))))]) 1 32 := by
  refine mk_Cv (cc := b_Pt_init) (maxL := 1) (by decide) rfl (Nat.le_of_ble_eq_true rfl) ?_
  intro p e s m below meth c Q A ls S hP hK hT hS hl hD hA hin hret
  obtain ⟨hx, hb, hml, hown, hts⟩ := id S
  have hl : lv_has ls 1 [(0, .ref h)] := hl
  refine lv_aload_n hx hb d_Pt_init_0 rfl (lv_at hl 0 rfl) ?_
  refine W.objInit hx hb hown (hts _ (List.mem_cons_of_mem _ k_76)) (hts _ (List.mem_cons_of_mem _ k_45)) (hts _ (List.mem_cons_of_mem _ k_46)) rfl (by rw [hml]; exact hl.1) rfl d_Pt_init_1 (Nat.le_of_ble_eq_true rfl) (Nat.le_of_ble_eq_true rfl) ?_
  refine W.eq (g2 := F0 m 4 ls []) rfl ?_
  refine lv_aload_n hx hb d_Pt_init_4 rfl (lv_at hl 0 rfl) ?_
  refine lv_bipush (v := nI 32) hx hb d_Pt_init_5 (by decide) ?_
  refine va_newa (atype := .int) (ty := .int) (a0 := (32, .inl (nf (fun _ => 0)))) (N' := 32) hx hb (hts _ (List.mem_cons_of_mem _ k_60)) rfl hK hP hD hS hA (mk_ha 32) (nI_pos (by decide)) (nI_clamp (by decide)) (by decide) (Nat.le_of_ble_eq_true rfl) (Nat.le_of_ble_eq_true rfl) d_Pt_init_7 (fun q_1 cA H hK2 hP hD hS => ?_)
  rw [mk_cA hK2] at hP hD
  have hP : va_P (dC, dI) vwCl [(h, .inr (3, [.null])), (q_1, .inl (cI, 32, .inl (nf (fun _ => 0))))] H := hP
  have hD : va_D A [(h, .inr (3, [.null])), (q_1, .inl (cI, 32, .inl (nf (fun _ => 0))))] := hD
  refine W.widen (k := 1) (n := 32) (by omega) (by omega) ?_
  refine va_putF (D := (dC, dI)) (ci := 3) (v := .ref q_1) (ty := .array .int) (C := "LongNames$Part") (T := F_Pt) (N := 1) hx hb hts (iw_Pt _) t_Pt t_Pt_ok n_Pt hown hK hP hD hS 0 rfl rfl 0 (by decide) (hts _ (List.mem_cons_of_mem _ k_77)) (fun _ h9 => h9) rfl hin rfl (by decide +kernel) rfl rfl (Nat.le_of_ble_eq_true rfl) d_Pt_init_9 (fun H locs hP hD hS => ?_)
  have hP : va_P (dC, dI) vwCl [(h, .inr (3, [.ref q_1])), (q_1, .inl (cI, 32, .inl (nf (fun _ => 0))))] H := hP
  have hD : va_D A [(h, .inr (3, [.ref q_1])), (q_1, .inl (cI, 32, .inl (nf (fun _ => 0))))] := hD
  exact hret _ _ _ _ (fun k => ([q_1] : List Nat).getD k 0) d_Pt_init_12 hP hD hS

set_option maxHeartbeats 400000 in
set_option maxRecDepth 100000 in
theorem c_Sl_init (l : Launch) (dC : Nat → ClassId) (dI : Nat → Nat → Nat) (cI : ClassId) (h : Nat) : mC l y_Sl_init w_Sl_init ({ frames := 1, cells := 1, slots := 1024, locals := 12 } : Room) [.ref h] (dC, dI) vwCl [(cI, .int)] [(h, .inr (4, [.null]))] (fun q => [(h, .inr (4, [.ref (q 0)])), ((q 0), .inl (cI, 1024, .inl (nf (fun _ => 0))))]) 1 1024 := by
  refine mk_Cv (cc := b_Sl_init) (maxL := 1) (by decide) rfl (Nat.le_of_ble_eq_true rfl) ?_
  intro p e s m below meth c Q A ls S hP hK hT hS hl hD hA hin hret
  obtain ⟨hx, hb, hml, hown, hts⟩ := id S
  have hl : lv_has ls 1 [(0, .ref h)] := hl
  refine lv_aload_n hx hb d_Sl_init_0 rfl (lv_at hl 0 rfl) ?_
  refine W.objInit hx hb hown (hts _ (List.mem_cons_of_mem _ k_86)) (hts _ (List.mem_cons_of_mem _ k_45)) (hts _ (List.mem_cons_of_mem _ k_46)) rfl (by rw [hml]; exact hl.1) rfl d_Sl_init_1 (Nat.le_of_ble_eq_true rfl) (Nat.le_of_ble_eq_true rfl) ?_
  refine W.eq (g2 := F0 m 4 ls []) rfl ?_
  refine lv_aload_n hx hb d_Sl_init_4 rfl (lv_at hl 0 rfl) ?_
  refine lv_sipush (v := nI 1024) hx hb d_Sl_init_5 (by decide) ?_
  refine va_newa (atype := .int) (ty := .int) (a0 := (1024, .inl (nf (fun _ => 0)))) (N' := 1024) hx hb (hts _ (List.mem_cons_of_mem _ k_60)) rfl hK hP hD hS hA (mk_ha 1024) (nI_pos (by decide)) (nI_clamp (by decide)) (by decide) (Nat.le_of_ble_eq_true rfl) (Nat.le_of_ble_eq_true rfl) d_Sl_init_8 (fun q_1 cA H hK2 hP hD hS => ?_)
  rw [mk_cA hK2] at hP hD
  have hP : va_P (dC, dI) vwCl [(h, .inr (4, [.null])), (q_1, .inl (cI, 1024, .inl (nf (fun _ => 0))))] H := hP
  have hD : va_D A [(h, .inr (4, [.null])), (q_1, .inl (cI, 1024, .inl (nf (fun _ => 0))))] := hD
  refine W.widen (k := 1) (n := 1024) (by omega) (by omega) ?_
  refine va_putF (D := (dC, dI)) (ci := 4) (v := .ref q_1) (ty := .array .int) (C := "LongNames$Slots") (T := F_Sl) (N := 1) hx hb hts (iw_Sl _) t_Sl t_Sl_ok n_Sl hown hK hP hD hS 0 rfl rfl 0 (by decide) (hts _ (List.mem_cons_of_mem _ k_87)) (fun _ h9 => h9) rfl hin rfl (by decide +kernel) rfl rfl (Nat.le_of_ble_eq_true rfl) d_Sl_init_10 (fun H locs hP hD hS => ?_)
  have hP : va_P (dC, dI) vwCl [(h, .inr (4, [.ref q_1])), (q_1, .inl (cI, 1024, .inl (nf (fun _ => 0))))] H := hP
  have hD : va_D A [(h, .inr (4, [.ref q_1])), (q_1, .inl (cI, 1024, .inl (nf (fun _ => 0))))] := hD
  exact hret _ _ _ _ (fun k => ([q_1] : List Nat).getD k 0) d_Sl_init_13 hP hD hS

set_option maxHeartbeats 400000 in
set_option maxRecDepth 100000 in
theorem c_LN_init (l : Launch) (dC : Nat → ClassId) (dI : Nat → Nat → Nat) (cI : ClassId) (x : Nat) : mC l y_LN_init w_LN_init ({ frames := 2, cells := 10, slots := 1584, locals := 32 } : Room) [.ref x] (dC, dI) vwCl [(cI, .int)] [(x, .inr (0, [.null, .null, .null, .null, .null]))] (fun q => [(x, .inr (0, [.ref (q 0), .ref (q 2), .ref (q 4), .ref (q 6), .ref (q 8)])), ((q 0), .inr (1, [.ref (q 1), .int 0])), ((q 1), .inl (cI, 255, .inl (nf (fun _ => 0)))), ((q 2), .inr (1, [.ref (q 3), .int 0])), ((q 3), .inl (cI, 255, .inl (nf (fun _ => 0)))), ((q 4), .inr (2, [.ref (q 5)])), ((q 5), .inl (cI, 11, .inl (nf (fun _ => 0)))), ((q 6), .inr (3, [.ref (q 7)])), ((q 7), .inl (cI, 32, .inl (nf (fun _ => 0)))), ((q 8), .inr (4, [.ref (q 9)])), ((q 9), .inl (cI, 1024, .inl (nf (fun _ => 0))))]) 10 1584 := by
  refine mk_Cv (cc := b_LN_init) (maxL := 1) (by decide) rfl (Nat.le_of_ble_eq_true rfl) ?_
  intro p e s m below meth c Q A ls S hP hK hT hS hl hD hA hin hret
  obtain ⟨hx, hb, hml, hown, hts⟩ := id S
  have hl : lv_has ls 1 [(0, .ref x)] := hl
  refine lv_aload_n hx hb d_LN_init_0 rfl (lv_at hl 0 rfl) ?_
  refine W.objInit hx hb hown (hts _ (List.mem_cons_of_mem _ k_44)) (hts _ (List.mem_cons_of_mem _ k_45)) (hts _ (List.mem_cons_of_mem _ k_46)) rfl (by rw [hml]; exact hl.1) rfl d_LN_init_1 (Nat.le_of_ble_eq_true rfl) (Nat.le_of_ble_eq_true rfl) ?_
  refine W.eq (g2 := F0 m 4 ls []) rfl ?_
  refine lv_aload_n hx hb d_LN_init_4 rfl (lv_at hl 0 rfl) ?_
  refine va_new (ci := 1) (fs := [.null, .int 0]) (C := "LongNames$Row") (T := F_Ro) (N := 2) hx hb hts (iw_Ro _) t_Ro t_Ro_ok hown (hts _ (List.mem_cons_of_mem _ k_47)) (hts _ (List.mem_cons_of_mem _ k_48)) (hts _ (List.mem_cons_of_mem _ k_25)) hK hP hD hS hA rfl (fun j hj => by rcases (show j = 0 ∨ j = 1 by omega) with rfl | rfl <;> rfl) (Nat.le_of_ble_eq_true rfl) (Nat.le_of_ble_eq_true rfl) d_LN_init_5 (fun q_1 H hP hD hS => ?_)
  have hP : va_P (dC, dI) vwCl [(x, .inr (0, [.null, .null, .null, .null, .null])), (q_1, .inr (1, [.null, .int 0]))] H := hP
  have hD : va_D A [(x, .inr (0, [.null, .null, .null, .null, .null])), (q_1, .inr (1, [.null, .int 0]))] := hD
  refine W.widen (k := 1) (n := 2) (by omega) (by omega) ?_
  refine lv_dup hx hb d_LN_init_8 rfl ?_
  refine mk_c0 (wr := [(x, .inr (0, [.null, .null, .null, .null, .null]))]) (va_runINc (As := []) (rest := [.ref q_1, .ref x]) S ((c_Ro_init l dC dI cI q_1) _) (gN (host := "LongNames") 0 hts (hT.nest _ (by decide +kernel)) k_50 k_25 k_51 (by decide +kernel) ⟨Nat.le_of_ble_eq_true rfl, Nat.le_of_ble_eq_true rfl⟩) (mk_sM hP hD hK hT hS hA [1] rfl rfl (by decide)) rfl rfl hl.1 rfl (lv_room (Nat.le_of_ble_eq_true rfl)) d_LN_init_9 ⟨Nat.le_of_ble_eq_true rfl, Nat.le_of_ble_eq_true rfl⟩) hP hD hS hA [1] [0] rfl rfl (by decide) (by decide) (fun q_2 H locs hP hD hS => ?_)
  generalize q_2 0 = q_2_0 at hP hD ⊢
  have hP : va_P (dC, dI) vwCl [(x, .inr (0, [.null, .null, .null, .null, .null])), (q_1, .inr (1, [.ref (q_2_0), .int 0])), ((q_2_0), .inl (cI, 255, .inl (nf (fun _ => 0))))] H := hP
  have hD : va_D A [(x, .inr (0, [.null, .null, .null, .null, .null])), (q_1, .inr (1, [.ref (q_2_0), .int 0])), ((q_2_0), .inl (cI, 255, .inl (nf (fun _ => 0))))] := hD
  refine W.widen (k := 2) (n := 257) (by omega) (by omega) ?_
  refine va_putF (D := (dC, dI)) (ci := 0) (v := .ref q_1) (ty := .object "LongNames$Row") (C := "LongNames") (T := F_LN) (N := 5) hx hb hts (iw_LN _) t_LN t_LN_ok n_LN hown hK hP hD hS 0 rfl rfl 0 (by decide) (hts _ (List.mem_cons_of_mem _ k_91)) (fun _ h9 => h9) rfl hin rfl (by decide +kernel) rfl rfl (Nat.le_of_ble_eq_true rfl) d_LN_init_12 (fun H locs hP hD hS => ?_)
  have hP : va_P (dC, dI) vwCl [(x, .inr (0, [.ref q_1, .null, .null, .null, .null])), (q_1, .inr (1, [.ref (q_2_0), .int 0])), ((q_2_0), .inl (cI, 255, .inl (nf (fun _ => 0))))] H := hP
  have hD : va_D A [(x, .inr (0, [.ref q_1, .null, .null, .null, .null])), (q_1, .inr (1, [.ref (q_2_0), .int 0])), ((q_2_0), .inl (cI, 255, .inl (nf (fun _ => 0))))] := hD
  refine lv_aload_n hx hb d_LN_init_15 rfl (lv_at hl 0 rfl) ?_
  refine va_new (ci := 1) (fs := [.null, .int 0]) (C := "LongNames$Row") (T := F_Ro) (N := 2) hx hb hts (iw_Ro _) t_Ro t_Ro_ok hown (hts _ (List.mem_cons_of_mem _ k_47)) (hts _ (List.mem_cons_of_mem _ k_48)) (hts _ (List.mem_cons_of_mem _ k_25)) hK hP hD hS hA rfl (fun j hj => by rcases (show j = 0 ∨ j = 1 by omega) with rfl | rfl <;> rfl) (Nat.le_of_ble_eq_true rfl) (Nat.le_of_ble_eq_true rfl) d_LN_init_16 (fun q_3 H hP hD hS => ?_)
  have hP : va_P (dC, dI) vwCl [(x, .inr (0, [.ref q_1, .null, .null, .null, .null])), (q_1, .inr (1, [.ref (q_2_0), .int 0])), ((q_2_0), .inl (cI, 255, .inl (nf (fun _ => 0)))), (q_3, .inr (1, [.null, .int 0]))] H := hP
  have hD : va_D A [(x, .inr (0, [.ref q_1, .null, .null, .null, .null])), (q_1, .inr (1, [.ref (q_2_0), .int 0])), ((q_2_0), .inl (cI, 255, .inl (nf (fun _ => 0)))), (q_3, .inr (1, [.null, .int 0]))] := hD
  refine W.widen (k := 3) (n := 259) (by omega) (by omega) ?_
  refine lv_dup hx hb d_LN_init_19 rfl ?_
  refine mk_c0 (wr := [(x, .inr (0, [.ref q_1, .null, .null, .null, .null])), (q_1, .inr (1, [.ref (q_2_0), .int 0])), ((q_2_0), .inl (cI, 255, .inl (nf (fun _ => 0))))]) (va_runINc (As := []) (rest := [.ref q_3, .ref x]) S ((c_Ro_init l dC dI cI q_3) _) (gN (host := "LongNames") 0 hts (hT.nest _ (by decide +kernel)) k_50 k_25 k_51 (by decide +kernel) ⟨Nat.le_of_ble_eq_true rfl, Nat.le_of_ble_eq_true rfl⟩) (mk_sM hP hD hK hT hS hA [3] rfl rfl (by decide)) rfl rfl hl.1 rfl (lv_room (Nat.le_of_ble_eq_true rfl)) d_LN_init_20 ⟨Nat.le_of_ble_eq_true rfl, Nat.le_of_ble_eq_true rfl⟩) hP hD hS hA [3] [0, 1, 2] rfl rfl (by decide) (by decide) (fun q_4 H locs hP hD hS => ?_)
  generalize q_4 0 = q_4_0 at hP hD ⊢
  have hP : va_P (dC, dI) vwCl [(x, .inr (0, [.ref q_1, .null, .null, .null, .null])), (q_1, .inr (1, [.ref (q_2_0), .int 0])), ((q_2_0), .inl (cI, 255, .inl (nf (fun _ => 0)))), (q_3, .inr (1, [.ref (q_4_0), .int 0])), ((q_4_0), .inl (cI, 255, .inl (nf (fun _ => 0))))] H := hP
  have hD : va_D A [(x, .inr (0, [.ref q_1, .null, .null, .null, .null])), (q_1, .inr (1, [.ref (q_2_0), .int 0])), ((q_2_0), .inl (cI, 255, .inl (nf (fun _ => 0)))), (q_3, .inr (1, [.ref (q_4_0), .int 0])), ((q_4_0), .inl (cI, 255, .inl (nf (fun _ => 0))))] := hD
  refine W.widen (k := 4) (n := 514) (by omega) (by omega) ?_
  refine va_putF (D := (dC, dI)) (ci := 0) (v := .ref q_3) (ty := .object "LongNames$Row") (C := "LongNames") (T := F_LN) (N := 5) hx hb hts (iw_LN _) t_LN t_LN_ok n_LN hown hK hP hD hS 0 rfl rfl 1 (by decide) (hts _ (List.mem_cons_of_mem _ k_92)) (fun _ h9 => h9) rfl hin rfl (by decide +kernel) rfl rfl (Nat.le_of_ble_eq_true rfl) d_LN_init_23 (fun H locs hP hD hS => ?_)
  have hP : va_P (dC, dI) vwCl [(x, .inr (0, [.ref q_1, .ref q_3, .null, .null, .null])), (q_1, .inr (1, [.ref (q_2_0), .int 0])), ((q_2_0), .inl (cI, 255, .inl (nf (fun _ => 0)))), (q_3, .inr (1, [.ref (q_4_0), .int 0])), ((q_4_0), .inl (cI, 255, .inl (nf (fun _ => 0))))] H := hP
  have hD : va_D A [(x, .inr (0, [.ref q_1, .ref q_3, .null, .null, .null])), (q_1, .inr (1, [.ref (q_2_0), .int 0])), ((q_2_0), .inl (cI, 255, .inl (nf (fun _ => 0)))), (q_3, .inr (1, [.ref (q_4_0), .int 0])), ((q_4_0), .inl (cI, 255, .inl (nf (fun _ => 0))))] := hD
  refine lv_aload_n hx hb d_LN_init_26 rfl (lv_at hl 0 rfl) ?_
  refine va_new (ci := 2) (fs := [.null]) (C := "LongNames$ShortName") (T := F_Sn) (N := 1) hx hb hts (iw_Sn _) t_Sn t_Sn_ok hown (hts _ (List.mem_cons_of_mem _ k_61)) (hts _ (List.mem_cons_of_mem _ k_62)) (hts _ (List.mem_cons_of_mem _ k_26)) hK hP hD hS hA rfl (fun j hj => by rcases (show j = 0 by omega) with rfl <;> rfl) (Nat.le_of_ble_eq_true rfl) (Nat.le_of_ble_eq_true rfl) d_LN_init_27 (fun q_5 H hP hD hS => ?_)
  have hP : va_P (dC, dI) vwCl [(x, .inr (0, [.ref q_1, .ref q_3, .null, .null, .null])), (q_1, .inr (1, [.ref (q_2_0), .int 0])), ((q_2_0), .inl (cI, 255, .inl (nf (fun _ => 0)))), (q_3, .inr (1, [.ref (q_4_0), .int 0])), ((q_4_0), .inl (cI, 255, .inl (nf (fun _ => 0)))), (q_5, .inr (2, [.null]))] H := hP
  have hD : va_D A [(x, .inr (0, [.ref q_1, .ref q_3, .null, .null, .null])), (q_1, .inr (1, [.ref (q_2_0), .int 0])), ((q_2_0), .inl (cI, 255, .inl (nf (fun _ => 0)))), (q_3, .inr (1, [.ref (q_4_0), .int 0])), ((q_4_0), .inl (cI, 255, .inl (nf (fun _ => 0)))), (q_5, .inr (2, [.null]))] := hD
  refine W.widen (k := 5) (n := 515) (by omega) (by omega) ?_
  refine lv_dup hx hb d_LN_init_30 rfl ?_
  refine mk_c0 (wr := [(x, .inr (0, [.ref q_1, .ref q_3, .null, .null, .null])), (q_1, .inr (1, [.ref (q_2_0), .int 0])), ((q_2_0), .inl (cI, 255, .inl (nf (fun _ => 0)))), (q_3, .inr (1, [.ref (q_4_0), .int 0])), ((q_4_0), .inl (cI, 255, .inl (nf (fun _ => 0))))]) (va_runINc (As := []) (rest := [.ref q_5, .ref x]) S ((c_Sn_init l dC dI cI q_5) _) (gN (host := "LongNames") 0 hts (hT.nest _ (by decide +kernel)) k_64 k_26 k_65 (by decide +kernel) ⟨Nat.le_of_ble_eq_true rfl, Nat.le_of_ble_eq_true rfl⟩) (mk_sM hP hD hK hT hS hA [5] rfl rfl (by decide)) rfl rfl hl.1 rfl (lv_room (Nat.le_of_ble_eq_true rfl)) d_LN_init_31 ⟨Nat.le_of_ble_eq_true rfl, Nat.le_of_ble_eq_true rfl⟩) hP hD hS hA [5] [0, 1, 2, 3, 4] rfl rfl (by decide) (by decide) (fun q_6 H locs hP hD hS => ?_)
  generalize q_6 0 = q_6_0 at hP hD ⊢
  have hP : va_P (dC, dI) vwCl [(x, .inr (0, [.ref q_1, .ref q_3, .null, .null, .null])), (q_1, .inr (1, [.ref (q_2_0), .int 0])), ((q_2_0), .inl (cI, 255, .inl (nf (fun _ => 0)))), (q_3, .inr (1, [.ref (q_4_0), .int 0])), ((q_4_0), .inl (cI, 255, .inl (nf (fun _ => 0)))), (q_5, .inr (2, [.ref (q_6_0)])), ((q_6_0), .inl (cI, 11, .inl (nf (fun _ => 0))))] H := hP
  have hD : va_D A [(x, .inr (0, [.ref q_1, .ref q_3, .null, .null, .null])), (q_1, .inr (1, [.ref (q_2_0), .int 0])), ((q_2_0), .inl (cI, 255, .inl (nf (fun _ => 0)))), (q_3, .inr (1, [.ref (q_4_0), .int 0])), ((q_4_0), .inl (cI, 255, .inl (nf (fun _ => 0)))), (q_5, .inr (2, [.ref (q_6_0)])), ((q_6_0), .inl (cI, 11, .inl (nf (fun _ => 0))))] := hD
  refine W.widen (k := 6) (n := 526) (by omega) (by omega) ?_
  refine va_putF (D := (dC, dI)) (ci := 0) (v := .ref q_5) (ty := .object "LongNames$ShortName") (C := "LongNames") (T := F_LN) (N := 5) hx hb hts (iw_LN _) t_LN t_LN_ok n_LN hown hK hP hD hS 0 rfl rfl 2 (by decide) (hts _ (List.mem_cons_of_mem _ k_93)) (fun _ h9 => h9) rfl hin rfl (by decide +kernel) rfl rfl (Nat.le_of_ble_eq_true rfl) d_LN_init_34 (fun H locs hP hD hS => ?_)
  have hP : va_P (dC, dI) vwCl [(x, .inr (0, [.ref q_1, .ref q_3, .ref q_5, .null, .null])), (q_1, .inr (1, [.ref (q_2_0), .int 0])), ((q_2_0), .inl (cI, 255, .inl (nf (fun _ => 0)))), (q_3, .inr (1, [.ref (q_4_0), .int 0])), ((q_4_0), .inl (cI, 255, .inl (nf (fun _ => 0)))), (q_5, .inr (2, [.ref (q_6_0)])), ((q_6_0), .inl (cI, 11, .inl (nf (fun _ => 0))))] H := hP
  have hD : va_D A [(x, .inr (0, [.ref q_1, .ref q_3, .ref q_5, .null, .null])), (q_1, .inr (1, [.ref (q_2_0), .int 0])), ((q_2_0), .inl (cI, 255, .inl (nf (fun _ => 0)))), (q_3, .inr (1, [.ref (q_4_0), .int 0])), ((q_4_0), .inl (cI, 255, .inl (nf (fun _ => 0)))), (q_5, .inr (2, [.ref (q_6_0)])), ((q_6_0), .inl (cI, 11, .inl (nf (fun _ => 0))))] := hD
  refine lv_aload_n hx hb d_LN_init_37 rfl (lv_at hl 0 rfl) ?_
  refine va_new (ci := 3) (fs := [.null]) (C := "LongNames$Part") (T := F_Pt) (N := 1) hx hb hts (iw_Pt _) t_Pt t_Pt_ok hown (hts _ (List.mem_cons_of_mem _ k_71)) (hts _ (List.mem_cons_of_mem _ k_72)) (hts _ (List.mem_cons_of_mem _ k_27)) hK hP hD hS hA rfl (fun j hj => by rcases (show j = 0 by omega) with rfl <;> rfl) (Nat.le_of_ble_eq_true rfl) (Nat.le_of_ble_eq_true rfl) d_LN_init_38 (fun q_7 H hP hD hS => ?_)
  have hP : va_P (dC, dI) vwCl [(x, .inr (0, [.ref q_1, .ref q_3, .ref q_5, .null, .null])), (q_1, .inr (1, [.ref (q_2_0), .int 0])), ((q_2_0), .inl (cI, 255, .inl (nf (fun _ => 0)))), (q_3, .inr (1, [.ref (q_4_0), .int 0])), ((q_4_0), .inl (cI, 255, .inl (nf (fun _ => 0)))), (q_5, .inr (2, [.ref (q_6_0)])), ((q_6_0), .inl (cI, 11, .inl (nf (fun _ => 0)))), (q_7, .inr (3, [.null]))] H := hP
  have hD : va_D A [(x, .inr (0, [.ref q_1, .ref q_3, .ref q_5, .null, .null])), (q_1, .inr (1, [.ref (q_2_0), .int 0])), ((q_2_0), .inl (cI, 255, .inl (nf (fun _ => 0)))), (q_3, .inr (1, [.ref (q_4_0), .int 0])), ((q_4_0), .inl (cI, 255, .inl (nf (fun _ => 0)))), (q_5, .inr (2, [.ref (q_6_0)])), ((q_6_0), .inl (cI, 11, .inl (nf (fun _ => 0)))), (q_7, .inr (3, [.null]))] := hD
  refine W.widen (k := 7) (n := 527) (by omega) (by omega) ?_
  refine lv_dup hx hb d_LN_init_41 rfl ?_
  refine mk_c0 (wr := [(x, .inr (0, [.ref q_1, .ref q_3, .ref q_5, .null, .null])), (q_1, .inr (1, [.ref (q_2_0), .int 0])), ((q_2_0), .inl (cI, 255, .inl (nf (fun _ => 0)))), (q_3, .inr (1, [.ref (q_4_0), .int 0])), ((q_4_0), .inl (cI, 255, .inl (nf (fun _ => 0)))), (q_5, .inr (2, [.ref (q_6_0)])), ((q_6_0), .inl (cI, 11, .inl (nf (fun _ => 0))))]) (va_runINc (As := []) (rest := [.ref q_7, .ref x]) S ((c_Pt_init l dC dI cI q_7) _) (gN (host := "LongNames") 0 hts (hT.nest _ (by decide +kernel)) k_74 k_27 k_75 (by decide +kernel) ⟨Nat.le_of_ble_eq_true rfl, Nat.le_of_ble_eq_true rfl⟩) (mk_sM hP hD hK hT hS hA [7] rfl rfl (by decide)) rfl rfl hl.1 rfl (lv_room (Nat.le_of_ble_eq_true rfl)) d_LN_init_42 ⟨Nat.le_of_ble_eq_true rfl, Nat.le_of_ble_eq_true rfl⟩) hP hD hS hA [7] [0, 1, 2, 3, 4, 5, 6] rfl rfl (by decide) (by decide) (fun q_8 H locs hP hD hS => ?_)
  generalize q_8 0 = q_8_0 at hP hD ⊢
  have hP : va_P (dC, dI) vwCl [(x, .inr (0, [.ref q_1, .ref q_3, .ref q_5, .null, .null])), (q_1, .inr (1, [.ref (q_2_0), .int 0])), ((q_2_0), .inl (cI, 255, .inl (nf (fun _ => 0)))), (q_3, .inr (1, [.ref (q_4_0), .int 0])), ((q_4_0), .inl (cI, 255, .inl (nf (fun _ => 0)))), (q_5, .inr (2, [.ref (q_6_0)])), ((q_6_0), .inl (cI, 11, .inl (nf (fun _ => 0)))), (q_7, .inr (3, [.ref (q_8_0)])), ((q_8_0), .inl (cI, 32, .inl (nf (fun _ => 0))))] H := hP
  have hD : va_D A [(x, .inr (0, [.ref q_1, .ref q_3, .ref q_5, .null, .null])), (q_1, .inr (1, [.ref (q_2_0), .int 0])), ((q_2_0), .inl (cI, 255, .inl (nf (fun _ => 0)))), (q_3, .inr (1, [.ref (q_4_0), .int 0])), ((q_4_0), .inl (cI, 255, .inl (nf (fun _ => 0)))), (q_5, .inr (2, [.ref (q_6_0)])), ((q_6_0), .inl (cI, 11, .inl (nf (fun _ => 0)))), (q_7, .inr (3, [.ref (q_8_0)])), ((q_8_0), .inl (cI, 32, .inl (nf (fun _ => 0))))] := hD
  refine W.widen (k := 8) (n := 559) (by omega) (by omega) ?_
  refine va_putF (D := (dC, dI)) (ci := 0) (v := .ref q_7) (ty := .object "LongNames$Part") (C := "LongNames") (T := F_LN) (N := 5) hx hb hts (iw_LN _) t_LN t_LN_ok n_LN hown hK hP hD hS 0 rfl rfl 3 (by decide) (hts _ (List.mem_cons_of_mem _ k_94)) (fun _ h9 => h9) rfl hin rfl (by decide +kernel) rfl rfl (Nat.le_of_ble_eq_true rfl) d_LN_init_45 (fun H locs hP hD hS => ?_)
  have hP : va_P (dC, dI) vwCl [(x, .inr (0, [.ref q_1, .ref q_3, .ref q_5, .ref q_7, .null])), (q_1, .inr (1, [.ref (q_2_0), .int 0])), ((q_2_0), .inl (cI, 255, .inl (nf (fun _ => 0)))), (q_3, .inr (1, [.ref (q_4_0), .int 0])), ((q_4_0), .inl (cI, 255, .inl (nf (fun _ => 0)))), (q_5, .inr (2, [.ref (q_6_0)])), ((q_6_0), .inl (cI, 11, .inl (nf (fun _ => 0)))), (q_7, .inr (3, [.ref (q_8_0)])), ((q_8_0), .inl (cI, 32, .inl (nf (fun _ => 0))))] H := hP
  have hD : va_D A [(x, .inr (0, [.ref q_1, .ref q_3, .ref q_5, .ref q_7, .null])), (q_1, .inr (1, [.ref (q_2_0), .int 0])), ((q_2_0), .inl (cI, 255, .inl (nf (fun _ => 0)))), (q_3, .inr (1, [.ref (q_4_0), .int 0])), ((q_4_0), .inl (cI, 255, .inl (nf (fun _ => 0)))), (q_5, .inr (2, [.ref (q_6_0)])), ((q_6_0), .inl (cI, 11, .inl (nf (fun _ => 0)))), (q_7, .inr (3, [.ref (q_8_0)])), ((q_8_0), .inl (cI, 32, .inl (nf (fun _ => 0))))] := hD
  refine lv_aload_n hx hb d_LN_init_48 rfl (lv_at hl 0 rfl) ?_
  refine va_new (ci := 4) (fs := [.null]) (C := "LongNames$Slots") (T := F_Sl) (N := 1) hx hb hts (iw_Sl _) t_Sl t_Sl_ok hown (hts _ (List.mem_cons_of_mem _ k_81)) (hts _ (List.mem_cons_of_mem _ k_82)) (hts _ (List.mem_cons_of_mem _ k_28)) hK hP hD hS hA rfl (fun j hj => by rcases (show j = 0 by omega) with rfl <;> rfl) (Nat.le_of_ble_eq_true rfl) (Nat.le_of_ble_eq_true rfl) d_LN_init_49 (fun q_9 H hP hD hS => ?_)
  have hP : va_P (dC, dI) vwCl [(x, .inr (0, [.ref q_1, .ref q_3, .ref q_5, .ref q_7, .null])), (q_1, .inr (1, [.ref (q_2_0), .int 0])), ((q_2_0), .inl (cI, 255, .inl (nf (fun _ => 0)))), (q_3, .inr (1, [.ref (q_4_0), .int 0])), ((q_4_0), .inl (cI, 255, .inl (nf (fun _ => 0)))), (q_5, .inr (2, [.ref (q_6_0)])), ((q_6_0), .inl (cI, 11, .inl (nf (fun _ => 0)))), (q_7, .inr (3, [.ref (q_8_0)])), ((q_8_0), .inl (cI, 32, .inl (nf (fun _ => 0)))), (q_9, .inr (4, [.null]))] H := hP
  have hD : va_D A [(x, .inr (0, [.ref q_1, .ref q_3, .ref q_5, .ref q_7, .null])), (q_1, .inr (1, [.ref (q_2_0), .int 0])), ((q_2_0), .inl (cI, 255, .inl (nf (fun _ => 0)))), (q_3, .inr (1, [.ref (q_4_0), .int 0])), ((q_4_0), .inl (cI, 255, .inl (nf (fun _ => 0)))), (q_5, .inr (2, [.ref (q_6_0)])), ((q_6_0), .inl (cI, 11, .inl (nf (fun _ => 0)))), (q_7, .inr (3, [.ref (q_8_0)])), ((q_8_0), .inl (cI, 32, .inl (nf (fun _ => 0)))), (q_9, .inr (4, [.null]))] := hD
  refine W.widen (k := 9) (n := 560) (by omega) (by omega) ?_
  refine lv_dup hx hb d_LN_init_52 rfl ?_
  refine mk_c0 (wr := [(x, .inr (0, [.ref q_1, .ref q_3, .ref q_5, .ref q_7, .null])), (q_1, .inr (1, [.ref (q_2_0), .int 0])), ((q_2_0), .inl (cI, 255, .inl (nf (fun _ => 0)))), (q_3, .inr (1, [.ref (q_4_0), .int 0])), ((q_4_0), .inl (cI, 255, .inl (nf (fun _ => 0)))), (q_5, .inr (2, [.ref (q_6_0)])), ((q_6_0), .inl (cI, 11, .inl (nf (fun _ => 0)))), (q_7, .inr (3, [.ref (q_8_0)])), ((q_8_0), .inl (cI, 32, .inl (nf (fun _ => 0))))]) (va_runINc (As := []) (rest := [.ref q_9, .ref x]) S ((c_Sl_init l dC dI cI q_9) _) (gN (host := "LongNames") 0 hts (hT.nest _ (by decide +kernel)) k_84 k_28 k_85 (by decide +kernel) ⟨Nat.le_of_ble_eq_true rfl, Nat.le_of_ble_eq_true rfl⟩) (mk_sM hP hD hK hT hS hA [9] rfl rfl (by decide)) rfl rfl hl.1 rfl (lv_room (Nat.le_of_ble_eq_true rfl)) d_LN_init_53 ⟨Nat.le_of_ble_eq_true rfl, Nat.le_of_ble_eq_true rfl⟩) hP hD hS hA [9] [0, 1, 2, 3, 4, 5, 6, 7, 8] rfl rfl (by decide) (by decide) (fun q_10 H locs hP hD hS => ?_)
  generalize q_10 0 = q_10_0 at hP hD ⊢
  have hP : va_P (dC, dI) vwCl [(x, .inr (0, [.ref q_1, .ref q_3, .ref q_5, .ref q_7, .null])), (q_1, .inr (1, [.ref (q_2_0), .int 0])), ((q_2_0), .inl (cI, 255, .inl (nf (fun _ => 0)))), (q_3, .inr (1, [.ref (q_4_0), .int 0])), ((q_4_0), .inl (cI, 255, .inl (nf (fun _ => 0)))), (q_5, .inr (2, [.ref (q_6_0)])), ((q_6_0), .inl (cI, 11, .inl (nf (fun _ => 0)))), (q_7, .inr (3, [.ref (q_8_0)])), ((q_8_0), .inl (cI, 32, .inl (nf (fun _ => 0)))), (q_9, .inr (4, [.ref (q_10_0)])), ((q_10_0), .inl (cI, 1024, .inl (nf (fun _ => 0))))] H := hP
  have hD : va_D A [(x, .inr (0, [.ref q_1, .ref q_3, .ref q_5, .ref q_7, .null])), (q_1, .inr (1, [.ref (q_2_0), .int 0])), ((q_2_0), .inl (cI, 255, .inl (nf (fun _ => 0)))), (q_3, .inr (1, [.ref (q_4_0), .int 0])), ((q_4_0), .inl (cI, 255, .inl (nf (fun _ => 0)))), (q_5, .inr (2, [.ref (q_6_0)])), ((q_6_0), .inl (cI, 11, .inl (nf (fun _ => 0)))), (q_7, .inr (3, [.ref (q_8_0)])), ((q_8_0), .inl (cI, 32, .inl (nf (fun _ => 0)))), (q_9, .inr (4, [.ref (q_10_0)])), ((q_10_0), .inl (cI, 1024, .inl (nf (fun _ => 0))))] := hD
  refine W.widen (k := 10) (n := 1584) (by omega) (by omega) ?_
  refine va_putF (D := (dC, dI)) (ci := 0) (v := .ref q_9) (ty := .object "LongNames$Slots") (C := "LongNames") (T := F_LN) (N := 5) hx hb hts (iw_LN _) t_LN t_LN_ok n_LN hown hK hP hD hS 0 rfl rfl 4 (by decide) (hts _ (List.mem_cons_of_mem _ k_95)) (fun _ h9 => h9) rfl hin rfl (by decide +kernel) rfl rfl (Nat.le_of_ble_eq_true rfl) d_LN_init_56 (fun H locs hP hD hS => ?_)
  have hP : va_P (dC, dI) vwCl [(x, .inr (0, [.ref q_1, .ref q_3, .ref q_5, .ref q_7, .ref q_9])), (q_1, .inr (1, [.ref (q_2_0), .int 0])), ((q_2_0), .inl (cI, 255, .inl (nf (fun _ => 0)))), (q_3, .inr (1, [.ref (q_4_0), .int 0])), ((q_4_0), .inl (cI, 255, .inl (nf (fun _ => 0)))), (q_5, .inr (2, [.ref (q_6_0)])), ((q_6_0), .inl (cI, 11, .inl (nf (fun _ => 0)))), (q_7, .inr (3, [.ref (q_8_0)])), ((q_8_0), .inl (cI, 32, .inl (nf (fun _ => 0)))), (q_9, .inr (4, [.ref (q_10_0)])), ((q_10_0), .inl (cI, 1024, .inl (nf (fun _ => 0))))] H := hP
  have hD : va_D A [(x, .inr (0, [.ref q_1, .ref q_3, .ref q_5, .ref q_7, .ref q_9])), (q_1, .inr (1, [.ref (q_2_0), .int 0])), ((q_2_0), .inl (cI, 255, .inl (nf (fun _ => 0)))), (q_3, .inr (1, [.ref (q_4_0), .int 0])), ((q_4_0), .inl (cI, 255, .inl (nf (fun _ => 0)))), (q_5, .inr (2, [.ref (q_6_0)])), ((q_6_0), .inl (cI, 11, .inl (nf (fun _ => 0)))), (q_7, .inr (3, [.ref (q_8_0)])), ((q_8_0), .inl (cI, 32, .inl (nf (fun _ => 0)))), (q_9, .inr (4, [.ref (q_10_0)])), ((q_10_0), .inl (cI, 1024, .inl (nf (fun _ => 0))))] := hD
  exact hret _ _ _ _ (fun k => ([q_1, (q_2_0), q_3, (q_4_0), q_5, (q_6_0), q_7, (q_8_0), q_9, (q_10_0)] : List Nat).getD k 0) d_LN_init_59 hP hD hS

