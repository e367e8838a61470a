set_option maxHeartbeats 1000000 in
set_option maxRecDepth 100000 in
theorem c_Mo_init (l : Launch) (dC : Nat → ClassId) (dI : Nat → Nat → Nat) (cI : ClassId) (m0 : Nat) : mC l y_Mo_init w_Mo_init ({ frames := 1, cells := 4, slots := 1547, locals := 12 } : Room) [.ref m0] (dC, dI) vwCl [(cI, .int)] [(m0, .inr (5, [.int 0, .null, .null, .null, .null]))] (fun q => [(m0, .inr (5, [.int 0, .ref (q 0), .ref (q 1), .ref (q 2), .ref (q 3)])), ((q 0), .inl (cI, 510, .inl (nf (fun _ => 0)))), ((q 1), .inl (cI, 2, .inl (nf (fun _ => 0)))), ((q 2), .inl (cI, 1024, .inl (nf (fun _ => 0)))), ((q 3), .inl (cI, 11, .inl (nf (fun _ => 0))))]) 4 1547 := by
  refine mk_Cv (cc := b_Mo_init) (maxL := 1) (by decide) rfl (Nat.le_of_ble_eq_true rfl) ?_
  intro p e s m below meth c Q A ls S hP hK hT hS hl hD hA hin hret
  obtain ⟨hx, hb, hml, hown, hts⟩ := id S
  have hl : lv_has ls 1 [(0, .ref m0)] := hl
  refine lv_aload_n hx hb d_Mo_init_0 rfl (lv_at hl 0 rfl) ?_
  refine W.objInit hx hb hown (hts _ (List.mem_cons_of_mem _ k_521)) (hts _ (List.mem_cons_of_mem _ k_45)) (hts _ (List.mem_cons_of_mem _ k_46)) rfl (by rw [hml]; exact hl.1) rfl d_Mo_init_1 (Nat.le_of_ble_eq_true rfl) (Nat.le_of_ble_eq_true rfl) ?_
  refine W.eq (g2 := F0 m 4 ls []) rfl ?_
  refine lv_aload_n hx hb d_Mo_init_4 rfl (lv_at hl 0 rfl) ?_
  refine lv_sipush (v := nI 510) hx hb d_Mo_init_5 (by decide) ?_
  refine va_newa (atype := .int) (ty := .int) (a0 := (510, .inl (nf (fun _ => 0)))) (N' := 510) hx hb (hts _ (List.mem_cons_of_mem _ k_60)) rfl hK hP hD hS hA (mk_ha 510) (nI_pos (by decide)) (nI_clamp (by decide)) (by decide) (Nat.le_of_ble_eq_true rfl) (Nat.le_of_ble_eq_true rfl) d_Mo_init_8 (fun q_1 cA H hK2 hP hD hS => ?_)
  rw [mk_cA hK2] at hP hD
  have hP : va_P (dC, dI) vwCl [(m0, .inr (5, [.int 0, .null, .null, .null, .null])), (q_1, .inl (cI, 510, .inl (nf (fun _ => 0))))] H := hP
  have hD : va_D A [(m0, .inr (5, [.int 0, .null, .null, .null, .null])), (q_1, .inl (cI, 510, .inl (nf (fun _ => 0))))] := hD
  refine W.widen (k := 1) (n := 510) (by omega) (by omega) ?_
  refine va_putF (D := (dC, dI)) (ci := 5) (v := .ref q_1) (ty := .array .int) (C := "LongNamesModel") (T := F_Mo) (N := 5) hx hb hts (iw_Mo _) t_Mo t_Mo_ok n_Mo hown hK hP hD hS 0 rfl rfl 1 (by decide) (hts _ (List.mem_cons_of_mem _ k_523)) (fun _ h9 => h9) rfl hin rfl (by decide +kernel) rfl rfl (Nat.le_of_ble_eq_true rfl) d_Mo_init_10 (fun H locs hP hD hS => ?_)
  have hP : va_P (dC, dI) vwCl [(m0, .inr (5, [.int 0, .ref q_1, .null, .null, .null])), (q_1, .inl (cI, 510, .inl (nf (fun _ => 0))))] H := hP
  have hD : va_D A [(m0, .inr (5, [.int 0, .ref q_1, .null, .null, .null])), (q_1, .inl (cI, 510, .inl (nf (fun _ => 0))))] := hD
  refine lv_aload_n hx hb d_Mo_init_13 rfl (lv_at hl 0 rfl) ?_
  refine lv_iconst (v := nI 2) hx hb d_Mo_init_14 (by decide) ?_
  refine va_newa (atype := .int) (ty := .int) (a0 := (2, .inl (nf (fun _ => 0)))) (N' := 2) hx hb (hts _ (List.mem_cons_of_mem _ k_60)) rfl hK hP hD hS hA (mk_ha 2) (nI_pos (by decide)) (nI_clamp (by decide)) (by decide) (Nat.le_of_ble_eq_true rfl) (Nat.le_of_ble_eq_true rfl) d_Mo_init_15 (fun q_2 cA H hK2 hP hD hS => ?_)
  rw [mk_cA hK2] at hP hD
  have hP : va_P (dC, dI) vwCl [(m0, .inr (5, [.int 0, .ref q_1, .null, .null, .null])), (q_1, .inl (cI, 510, .inl (nf (fun _ => 0)))), (q_2, .inl (cI, 2, .inl (nf (fun _ => 0))))] H := hP
  have hD : va_D A [(m0, .inr (5, [.int 0, .ref q_1, .null, .null, .null])), (q_1, .inl (cI, 510, .inl (nf (fun _ => 0)))), (q_2, .inl (cI, 2, .inl (nf (fun _ => 0))))] := hD
  refine W.widen (k := 2) (n := 512) (by omega) (by omega) ?_
  refine va_putF (D := (dC, dI)) (ci := 5) (v := .ref q_2) (ty := .array .int) (C := "LongNamesModel") (T := F_Mo) (N := 5) hx hb hts (iw_Mo _) t_Mo t_Mo_ok n_Mo hown hK hP hD hS 0 rfl rfl 2 (by decide) (hts _ (List.mem_cons_of_mem _ k_524)) (fun _ h9 => h9) rfl hin rfl (by decide +kernel) rfl rfl (Nat.le_of_ble_eq_true rfl) d_Mo_init_17 (fun H locs hP hD hS => ?_)
  have hP : va_P (dC, dI) vwCl [(m0, .inr (5, [.int 0, .ref q_1, .ref q_2, .null, .null])), (q_1, .inl (cI, 510, .inl (nf (fun _ => 0)))), (q_2, .inl (cI, 2, .inl (nf (fun _ => 0))))] H := hP
  have hD : va_D A [(m0, .inr (5, [.int 0, .ref q_1, .ref q_2, .null, .null])), (q_1, .inl (cI, 510, .inl (nf (fun _ => 0)))), (q_2, .inl (cI, 2, .inl (nf (fun _ => 0))))] := hD
  refine lv_aload_n hx hb d_Mo_init_20 rfl (lv_at hl 0 rfl) ?_
  refine lv_sipush (v := nI 1024) hx hb d_Mo_init_21 (by decide) ?_
  refine va_newa (atype := .int) (ty := .int) (a0 := (1024, .inl (nf (fun _ => 0)))) (N' := 1024) hx hb (hts _ (List.mem_cons_of_mem _ k_60)) rfl hK hP hD hS hA (mk_ha 1024) (nI_pos (by decide)) (nI_clamp (by decide)) (by decide) (Nat.le_of_ble_eq_true rfl) (Nat.le_of_ble_eq_true rfl) d_Mo_init_24 (fun q_3 cA H hK2 hP hD hS => ?_)
  rw [mk_cA hK2] at hP hD
  have hP : va_P (dC, dI) vwCl [(m0, .inr (5, [.int 0, .ref q_1, .ref q_2, .null, .null])), (q_1, .inl (cI, 510, .inl (nf (fun _ => 0)))), (q_2, .inl (cI, 2, .inl (nf (fun _ => 0)))), (q_3, .inl (cI, 1024, .inl (nf (fun _ => 0))))] H := hP
  have hD : va_D A [(m0, .inr (5, [.int 0, .ref q_1, .ref q_2, .null, .null])), (q_1, .inl (cI, 510, .inl (nf (fun _ => 0)))), (q_2, .inl (cI, 2, .inl (nf (fun _ => 0)))), (q_3, .inl (cI, 1024, .inl (nf (fun _ => 0))))] := hD
  refine W.widen (k := 3) (n := 1536) (by omega) (by omega) ?_
  refine va_putF (D := (dC, dI)) (ci := 5) (v := .ref q_3) (ty := .array .int) (C := "LongNamesModel") (T := F_Mo) (N := 5) hx hb hts (iw_Mo _) t_Mo t_Mo_ok n_Mo hown hK hP hD hS 0 rfl rfl 3 (by decide) (hts _ (List.mem_cons_of_mem _ k_525)) (fun _ h9 => h9) rfl hin rfl (by decide +kernel) rfl rfl (Nat.le_of_ble_eq_true rfl) d_Mo_init_26 (fun H locs hP hD hS => ?_)
  have hP : va_P (dC, dI) vwCl [(m0, .inr (5, [.int 0, .ref q_1, .ref q_2, .ref q_3, .null])), (q_1, .inl (cI, 510, .inl (nf (fun _ => 0)))), (q_2, .inl (cI, 2, .inl (nf (fun _ => 0)))), (q_3, .inl (cI, 1024, .inl (nf (fun _ => 0))))] H := hP
  have hD : va_D A [(m0, .inr (5, [.int 0, .ref q_1, .ref q_2, .ref q_3, .null])), (q_1, .inl (cI, 510, .inl (nf (fun _ => 0)))), (q_2, .inl (cI, 2, .inl (nf (fun _ => 0)))), (q_3, .inl (cI, 1024, .inl (nf (fun _ => 0))))] := hD
  refine lv_aload_n hx hb d_Mo_init_29 rfl (lv_at hl 0 rfl) ?_
  refine lv_bipush (v := nI 11) hx hb d_Mo_init_30 (by decide) ?_
  refine va_newa (atype := .int) (ty := .int) (a0 := (11, .inl (nf (fun _ => 0)))) (N' := 11) hx hb (hts _ (List.mem_cons_of_mem _ k_60)) rfl hK hP hD hS hA (mk_ha 11) (nI_pos (by decide)) (nI_clamp (by decide)) (by decide) (Nat.le_of_ble_eq_true rfl) (Nat.le_of_ble_eq_true rfl) d_Mo_init_32 (fun q_4 cA H hK2 hP hD hS => ?_)
  rw [mk_cA hK2] at hP hD
  have hP : va_P (dC, dI) vwCl [(m0, .inr (5, [.int 0, .ref q_1, .ref q_2, .ref q_3, .null])), (q_1, .inl (cI, 510, .inl (nf (fun _ => 0)))), (q_2, .inl (cI, 2, .inl (nf (fun _ => 0)))), (q_3, .inl (cI, 1024, .inl (nf (fun _ => 0)))), (q_4, .inl (cI, 11, .inl (nf (fun _ => 0))))] H := hP
  have hD : va_D A [(m0, .inr (5, [.int 0, .ref q_1, .ref q_2, .ref q_3, .null])), (q_1, .inl (cI, 510, .inl (nf (fun _ => 0)))), (q_2, .inl (cI, 2, .inl (nf (fun _ => 0)))), (q_3, .inl (cI, 1024, .inl (nf (fun _ => 0)))), (q_4, .inl (cI, 11, .inl (nf (fun _ => 0))))] := hD
  refine W.widen (k := 4) (n := 1547) (by omega) (by omega) ?_
  refine va_putF (D := (dC, dI)) (ci := 5) (v := .ref q_4) (ty := .array .int) (C := "LongNamesModel") (T := F_Mo) (N := 5) hx hb hts (iw_Mo _) t_Mo t_Mo_ok n_Mo hown hK hP hD hS 0 rfl rfl 4 (by decide) (hts _ (List.mem_cons_of_mem _ k_526)) (fun _ h9 => h9) rfl hin rfl (by decide +kernel) rfl rfl (Nat.le_of_ble_eq_true rfl) d_Mo_init_34 (fun H locs hP hD hS => ?_)
  have hP : va_P (dC, dI) vwCl [(m0, .inr (5, [.int 0, .ref q_1, .ref q_2, .ref q_3, .ref q_4])), (q_1, .inl (cI, 510, .inl (nf (fun _ => 0)))), (q_2, .inl (cI, 2, .inl (nf (fun _ => 0)))), (q_3, .inl (cI, 1024, .inl (nf (fun _ => 0)))), (q_4, .inl (cI, 11, .inl (nf (fun _ => 0))))] H := hP
  have hD : va_D A [(m0, .inr (5, [.int 0, .ref q_1, .ref q_2, .ref q_3, .ref q_4])), (q_1, .inl (cI, 510, .inl (nf (fun _ => 0)))), (q_2, .inl (cI, 2, .inl (nf (fun _ => 0)))), (q_3, .inl (cI, 1024, .inl (nf (fun _ => 0)))), (q_4, .inl (cI, 11, .inl (nf (fun _ => 0))))] := hD
  exact hret _ _ _ _ (fun k => ([q_1, q_2, q_3, q_4] : List Nat).getD k 0) d_Mo_init_37 hP hD hS

