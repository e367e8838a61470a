theorem lw_al (N : Nat) (cA : ClassId) : vp_cell cA (N, .inr (.inl (fun _ => 0))) = arrV cA N (fun _ => defaultValue .long) := rfl
theorem lw_tr {l : Launch} (h : l.flags = flags0) : l.stackTraces = false := by
  unfold Launch.stackTraces
  rw [h]
  decide +kernel
set_option maxHeartbeats 4000000 in
set_option maxRecDepth 100000 in
theorem whole_start {p : Program} {e : Env} {s : State} {m : MethodId} {below : List Frame} {meth : Method} {c : Code} (l : Launch) (htr : l.stackTraces = false) {sa L : Nat} {xs : Nat → Int32} (hL : L ≤ 2048) (C0 : lw_At p s m meth c sa L xs) : W p l e room_1 s m #[Value.ref sa] below meth c s.heap [] 0 0 (lw_Z below #[Value.ref sa] s) (entryFrame m ([Value.ref sa] : List Value).toArray 7) := by
  obtain ⟨hx, hb, hr, hml, hown, hts0, hX, hbl, hlocks, hgv⟩ := id C0
  have hA : ∀ q : Nat, s.heap.size ≤ q → lA s q := fun _ h => h
  have hts : ∀ w ∈ zW :: BIG, w.before #[Value.ref sa] s = true := by
    intro w hw
    rcases List.mem_cons.mp hw with rfl | hw
    · exact hts0 _ (lw_mem (i := 24) (by decide +kernel))
    · exact hts0 w (List.mem_filter.mp hw).1
  have hown : s.vm.findClass "LongNamesLaw" = some m.cls := hown
  have S : CallFix p m c code 7 s #[Value.ref sa] (zW :: BIG) "LongNamesLaw" := ⟨hx, hb, hml, hown, hts⟩
  obtain ⟨hT, hN⟩ := lw_sT (A := lA s) (fun a h => Nat.not_le.mpr h) hts0 hgv
  obtain ⟨cI, hI1, hI2⟩ := lw_arr (ty := .int) (hts _ (List.mem_cons_of_mem _ k_60))
  obtain ⟨cL, hL1, hL2⟩ := lw_arr (ty := .long) (hts _ (List.mem_cons_of_mem _ k_669))
  obtain ⟨c0, iS0, hKn0⟩ := u_known (C := "LongNames") (T := F_LN) (N := 5) (n := 5) hts (iw_LN _) (hts _ (List.mem_cons_of_mem _ k_40))
  obtain ⟨c1, iS1, hKn1⟩ := u_known (C := "LongNames$Row") (T := F_Ro) (N := 2) (n := 2) hts (iw_Ro _) (hts _ (List.mem_cons_of_mem _ k_48))
  obtain ⟨c2, iS2, hKn2⟩ := u_known (C := "LongNames$ShortName") (T := F_Sn) (N := 1) (n := 1) hts (iw_Sn _) (hts _ (List.mem_cons_of_mem _ k_62))
  obtain ⟨c3, iS3, hKn3⟩ := u_known (C := "LongNames$Part") (T := F_Pt) (N := 1) (n := 1) hts (iw_Pt _) (hts _ (List.mem_cons_of_mem _ k_72))
  obtain ⟨c4, iS4, hKn4⟩ := u_known (C := "LongNames$Slots") (T := F_Sl) (N := 1) (n := 1) hts (iw_Sl _) (hts _ (List.mem_cons_of_mem _ k_82))
  obtain ⟨c5, iS5, hKn5⟩ := u_known (C := "LongNamesModel") (T := F_Mo) (N := 5) (n := 5) hts (iw_Mo _) (hts _ (List.mem_cons_of_mem _ k_517))
  obtain ⟨dC, dI, hKc⟩ : ∃ (dC : Nat → ClassId) (dI : Nat → Nat → Nat), ∀ (k : Nat) (q : vw_C), vwCl[k]? = some q → u_Kn s q.1 q.2.1 q.2.2 (dC k) (dI k) := by
    refine ⟨fun k => if k = 0 then c0 else if k = 1 then c1 else if k = 2 then c2 else if k = 3 then c3 else if k = 4 then c4 else c5, fun k => if k = 0 then iS0 else if k = 1 then iS1 else if k = 2 then iS2 else if k = 3 then iS3 else if k = 4 then iS4 else iS5, ?_⟩
    intro k q hq
    match k, hq with
    | 0, hq => cases hq; exact hKn0
    | 1, hq => cases hq; exact hKn1
    | 2, hq => cases hq; exact hKn2
    | 3, hq => cases hq; exact hKn3
    | 4, hq => cases hq; exact hKn4
    | 5, hq => cases hq; exact hKn5
    | k + 6, hq => simp [vwCl] at hq
  have hK : va_K (dC, dI) vwCl [(cI, .int), (cL, .long)] s := by
    refine ⟨hKc, fun k q h => ?_⟩
    match k, h with
    | 0, h => cases h; exact ⟨hI1, hI2⟩
    | 1, h => cases h; exact ⟨hL1, hL2⟩
    | k + 2, h => simp at h
  have hK1 := hK.sub (tys' := [(cI, .int)]) [0] rfl
  have hS : va_S (lA s) s.heap s.heap [] := va_S.rf
  have hP : va_P (dC, dI) vwCl [] s.heap := fun k q h => by simp at h
  have hD : va_D (lA s) [] := ⟨fun i j p q h => by simp at h, fun k q h => by simp at h⟩
  have hl := lv_entry ([.ref sa]) (n := 7) (Nat.le_of_ble_eq_true rfl)
  rw [lg_entry_eq]
  generalize (lg_sl ([.ref sa]) ++ List.replicate (7 - (lg_sl ([.ref sa])).length) Slot.unset).toArray = ls at hl ⊢
  have hl : lv_has ls 7 [(0, .ref sa)] := hl
  refine va_new (ci := 0) (fs := [.null, .null, .null, .null, .null]) (C := "LongNames") (T := F_LN) (N := 5) hx hb hts (iw_LN _) t_LN t_LN_ok hown (hts _ (List.mem_cons_of_mem _ k_39)) (hts _ (List.mem_cons_of_mem _ k_40)) (hts _ (List.mem_cons_of_mem _ k_24)) hK hP hD hS hA rfl (fun j hj => by rcases (show j = 0 ∨ j = 1 ∨ j = 2 ∨ j = 3 ∨ j = 4 by omega) with rfl | rfl | rfl | rfl | rfl <;> rfl) (Nat.le_of_ble_eq_true rfl) (Nat.le_of_ble_eq_true rfl) d_la_0 (fun x0 H hP hD hS => ?_)
  have hP : va_P (dC, dI) vwCl [(x0, .inr (0, [.null, .null, .null, .null, .null]))] H := hP
  have hD : va_D (lA s) [(x0, .inr (0, [.null, .null, .null, .null, .null]))] := hD
  refine lv_dup hx hb d_la_3 rfl ?_
  refine mk_c0 (wr := []) (W.runI (As := []) (rest := [.ref x0]) S ((c_LN_init l dC dI cI x0) _) (cwI 0 hts (g_in (fun x hx => (List.mem_cons.mp hx).elim (fun e9 => e9 ▸ k_43) id)) rfl rfl rfl (hts _ (List.mem_cons_of_mem _ k_24)) (hts _ (List.mem_cons_of_mem _ k_41)) (hts _ (List.mem_cons_of_mem _ k_42)) rfl (by decide +kernel) ⟨(Nat.le_of_ble_eq_true rfl), (Nat.le_of_ble_eq_true rfl)⟩) (mk_sM hP hD hK1 hT hS hA [0] rfl rfl (by decide)) rfl rfl hl.1 rfl (lv_room (Nat.le_of_ble_eq_true rfl)) d_la_4 ⟨(Nat.le_of_ble_eq_true rfl), (Nat.le_of_ble_eq_true rfl)⟩) hP hD hS hA [0] [] rfl rfl (by decide) (by decide) (fun q1 H locs hP hD hS => ?_)
  obtain ⟨ad, ead⟩ : ∃ ad : Nat → Nat, ad = fun k => if k = 0 then x0 else q1 (k - 1) := ⟨_, rfl⟩
  have hP : va_P (dC, dI) vwCl (wL cI ad 0 (fun _ => 0) 0 (fun _ => 0) (fun _ => 0) (fun _ => 0) (fun _ => 0)) H := by rw [ead]; exact hP
  have hD : va_D (lA s) (wL cI ad 0 (fun _ => 0) 0 (fun _ => 0) (fun _ => 0) (fun _ => 0) (fun _ => 0)) := by rw [ead]; exact hD
  have hx0 : x0 = ad 0 := by rw [ead]; rfl
  rw [hx0]
  refine lv_astore_n (lv' := [(1, .ref (ad 0)), (0, .ref sa)]) hx hb d_la_7 rfl hl (by decide) rfl (fun ls hl => ?_)
  clear ead hx0
  refine va_new (ci := 5) (fs := [.int 0, .null, .null, .null, .null]) (C := "LongNamesModel") (T := F_Mo) (N := 5) hx hb hts (iw_Mo _) t_Mo t_Mo_ok hown (hts _ (List.mem_cons_of_mem _ k_516)) (hts _ (List.mem_cons_of_mem _ k_517)) (hts _ (List.mem_cons_of_mem _ k_29)) hK hP hD hS hA rfl (fun j hj => by rcases (show j = 0 ∨ j = 1 ∨ j = 2 ∨ j = 3 ∨ j = 4 by omega) with rfl | rfl | rfl | rfl | rfl <;> rfl) (Nat.le_of_ble_eq_true rfl) (Nat.le_of_ble_eq_true rfl) d_la_8 (fun y0 H hP hD hS => ?_)
  have hP : va_P (dC, dI) vwCl (wL cI ad 0 (fun _ => 0) 0 (fun _ => 0) (fun _ => 0) (fun _ => 0) (fun _ => 0) ++ [(y0, .inr (5, [.int 0, .null, .null, .null, .null]))]) H := hP
  have hD : va_D (lA s) (wL cI ad 0 (fun _ => 0) 0 (fun _ => 0) (fun _ => 0) (fun _ => 0) (fun _ => 0) ++ [(y0, .inr (5, [.int 0, .null, .null, .null, .null]))]) := hD
  refine lv_dup hx hb d_la_11 rfl ?_
  refine mk_c0 (wr := wL cI ad 0 (fun _ => 0) 0 (fun _ => 0) (fun _ => 0) (fun _ => 0) (fun _ => 0)) (W.runI (As := []) (rest := [.ref y0]) S ((c_Mo_init l dC dI cI y0) _) (cwI 0 hts (g_in (fun x hx => (List.mem_cons.mp hx).elim (fun e9 => e9 ▸ k_520) id)) rfl rfl rfl (hts _ (List.mem_cons_of_mem _ k_29)) (hts _ (List.mem_cons_of_mem _ k_518)) (hts _ (List.mem_cons_of_mem _ k_519)) rfl (by decide +kernel) ⟨(Nat.le_of_ble_eq_true rfl), (Nat.le_of_ble_eq_true rfl)⟩) (mk_sM hP hD hK1 hT hS hA [11] rfl rfl (by decide)) rfl rfl hl.1 rfl (lv_room (Nat.le_of_ble_eq_true rfl)) d_la_12 ⟨(Nat.le_of_ble_eq_true rfl), (Nat.le_of_ble_eq_true rfl)⟩) hP hD hS hA [11] [0, 1, 2, 3, 4, 5, 6, 7, 8, 9, 10] rfl rfl (by decide) (by decide) (fun q2 H locs hP hD hS => ?_)
  obtain ⟨am, eam⟩ : ∃ am : Nat → Nat, am = fun k => if k = 0 then y0 else q2 (k - 1) := ⟨_, rfl⟩
  have hP : va_P (dC, dI) vwCl (wL cI ad 0 (fun _ => 0) 0 (fun _ => 0) (fun _ => 0) (fun _ => 0) (fun _ => 0) ++ wM cI am 0 (fun _ => 0) (fun _ => 0) (fun _ => 0) (fun _ => 0)) H := by rw [eam]; exact hP
  have hD : va_D (lA s) (wL cI ad 0 (fun _ => 0) 0 (fun _ => 0) (fun _ => 0) (fun _ => 0) (fun _ => 0) ++ wM cI am 0 (fun _ => 0) (fun _ => 0) (fun _ => 0) (fun _ => 0)) := by rw [eam]; exact hD
  have hy0 : y0 = am 0 := by rw [eam]; rfl
  rw [hy0]
  refine lv_astore_n (lv' := [(2, .ref (am 0)), (1, .ref (ad 0)), (0, .ref sa)]) hx hb d_la_15 rfl hl (by decide) rfl (fun ls hl => ?_)
  clear eam hy0
  refine lv_iconst (v := nI 1) hx hb d_la_16 (by decide) ?_
  refine va_newa (atype := .long) (ty := .long) (a0 := (1, .inr (.inl (fun _ => 0)))) (N' := 1) hx hb (hts _ (List.mem_cons_of_mem _ k_669)) rfl hK hP hD hS hA (fun cA => lw_al 1 cA) (nI_pos (by decide)) (nI_clamp (by decide)) (by decide) (Nat.le_of_ble_eq_true rfl) (Nat.le_of_ble_eq_true rfl) d_la_17 (fun o cA H hK2 hP hD hS => ?_)
  have ecA : cA = cL := by
    have h9 := (hK2.2 2 (cA, .long) rfl).2
    have h8 : s.vm.findClass ("[" ++ FieldType.long.toString) = some cA := h9
    rw [hL2] at h8
    exact (Option.some.inj h8).symm
  rw [ecA] at hP hD
  have hP : va_P (dC, dI) vwCl (wL cI ad 0 (fun _ => 0) 0 (fun _ => 0) (fun _ => 0) (fun _ => 0) (fun _ => 0) ++ (wM cI am 0 (fun _ => 0) (fun _ => 0) (fun _ => 0) (fun _ => 0) ++ wO cL o (fun _ => 0))) H := hP
  have hD : va_D (lA s) (wL cI ad 0 (fun _ => 0) 0 (fun _ => 0) (fun _ => 0) (fun _ => 0) (fun _ => 0) ++ (wM cI am 0 (fun _ => 0) (fun _ => 0) (fun _ => 0) (fun _ => 0) ++ wO cL o (fun _ => 0))) := hD
  refine lv_astore_n (lv' := [(3, .ref o), (2, .ref (am 0)), (1, .ref (ad 0)), (0, .ref sa)]) hx hb d_la_19 rfl hl (by decide) rfl (fun ls hl => ?_)
  refine lv_iconst (v := nI 0) hx hb d_la_20 (by decide) ?_
  refine lv_istore (lv' := [(4, .int (nI 0)), (3, .ref o), (2, .ref (am 0)), (1, .ref (ad 0)), (0, .ref sa)]) hx hb d_la_21 hl (by decide) rfl (fun ls hl => ?_)
  refine W.widen (k := 17 + 0) (n := 3142 + 6 * 0) (by omega) (by omega) ?_
  have hI9 : lwI 0 (fun _ => 0) 0 (fun _ => 0) (fun _ => 0) (fun _ => 0) (fun _ => 0) (fun _ => 0) (fun _ => 0) (fun _ => 0) := ⟨⟨by decide, (fun _ => Nat.le_of_ble_eq_true rfl), by decide, (fun _ => Nat.le_of_ble_eq_true rfl), (fun _ => Nat.le_of_ble_eq_true rfl), (fun _ => Nat.le_of_ble_eq_true rfl), (fun _ => Nat.le_of_ble_eq_true rfl)⟩, ⟨(fun _ => Nat.le_of_ble_eq_true rfl), (fun _ => Nat.le_of_ble_eq_true rfl), (fun _ => Nat.le_of_ble_eq_true rfl)⟩, rfl, rfl, fun j hj => absurd hj (Nat.not_lt_zero _), fun j hj => absurd hj (Nat.not_lt_zero _)⟩
  exact law_loop ⟨S, hX, hbl, hK, hT, hN, htr⟩ hr hlocks hL L 0 (by omega) (by omega) hI9 hP hD hS (lv_sub hl [4, 3, 2, 1, 0] rfl)
