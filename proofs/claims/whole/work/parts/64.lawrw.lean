/-! the law's own write and read, and the reference's thrown -/
abbrev rmW : Room := { frames := 9, cells := 1, slots := 6, locals := 240 }
theorem k_279 : .codeWith ⟨"LongNamesLaw", "write", "(LLongNames;III[J)I"⟩ method_3_code 6 (some .int) [(0, 12, 15, 13), (0, 12, 19, 15)] ∈ BIG := bigT (i := 279) (by decide +kernel) (by decide +kernel)
abbrev b_La_write : ByteArray := method_3_code
abbrev y_La_write : MethodName := ⟨"LongNamesLaw", "write", "(LLongNames;III[J)I"⟩
abbrev w_La_write : List Cond := .codeWith y_La_write b_La_write 6 (some .int) [(0, 12, 15, 13), (0, 12, 19, 15)] :: BIG
theorem d_La_write_0 : decode b_La_write 0 = .ok (.aload 4, 2) := by decide +kernel
theorem d_La_write_2 : decode b_La_write 2 = .ok (.iconst 0, 1) := by decide +kernel
theorem d_La_write_3 : decode b_La_write 3 = .ok (.aload_n 0, 1) := by decide +kernel
theorem d_La_write_4 : decode b_La_write 4 = .ok (.iload_n 1, 1) := by decide +kernel
theorem d_La_write_5 : decode b_La_write 5 = .ok (.iload_n 2, 1) := by decide +kernel
theorem d_La_write_6 : decode b_La_write 6 = .ok (.iload_n 3, 1) := by decide +kernel
theorem d_La_write_7 : decode b_La_write 7 = .ok (.invokevirtual 7, 3) := by decide +kernel
theorem d_La_write_10 : decode b_La_write 10 = .ok (.i2l, 1) := by decide +kernel
theorem d_La_write_11 : decode b_La_write 11 = .ok (.lastore, 1) := by decide +kernel
theorem d_La_write_12 : decode b_La_write 12 = .ok (.goto 11, 3) := by decide +kernel
theorem d_La_write_15 : decode b_La_write 15 = .ok (.astore 5, 2) := by decide +kernel
theorem d_La_write_17 : decode b_La_write 17 = .ok (.iconst 1, 1) := by decide +kernel
theorem d_La_write_18 : decode b_La_write 18 = .ok (.ireturn, 1) := by decide +kernel
theorem d_La_write_19 : decode b_La_write 19 = .ok (.astore 5, 2) := by decide +kernel
theorem d_La_write_21 : decode b_La_write 21 = .ok (.iconst 2, 1) := by decide +kernel
theorem d_La_write_22 : decode b_La_write 22 = .ok (.ireturn, 1) := by decide +kernel
theorem d_La_write_23 : decode b_La_write 23 = .ok (.iconst 0, 1) := by decide +kernel
theorem d_La_write_24 : decode b_La_write 24 = .ok (.ireturn, 1) := by decide +kernel
theorem k_451 : .codeWith ⟨"LongNamesLaw", "read", "(LLongNames;III[J)I"⟩ method_4_code 6 (some .int) [(0, 12, 15, 13), (0, 12, 19, 15), (0, 12, 23, 20)] ∈ BIG := bigT (i := 451) (by decide +kernel) (by decide +kernel)
abbrev b_La_read : ByteArray := method_4_code
abbrev y_La_read : MethodName := ⟨"LongNamesLaw", "read", "(LLongNames;III[J)I"⟩
abbrev w_La_read : List Cond := .codeWith y_La_read b_La_read 6 (some .int) [(0, 12, 15, 13), (0, 12, 19, 15), (0, 12, 23, 20)] :: BIG
theorem d_La_read_0 : decode b_La_read 0 = .ok (.aload 4, 2) := by decide +kernel
theorem d_La_read_2 : decode b_La_read 2 = .ok (.iconst 0, 1) := by decide +kernel
theorem d_La_read_3 : decode b_La_read 3 = .ok (.aload_n 0, 1) := by decide +kernel
theorem d_La_read_4 : decode b_La_read 4 = .ok (.iload_n 1, 1) := by decide +kernel
theorem d_La_read_5 : decode b_La_read 5 = .ok (.iload_n 2, 1) := by decide +kernel
theorem d_La_read_6 : decode b_La_read 6 = .ok (.iload_n 3, 1) := by decide +kernel
theorem d_La_read_7 : decode b_La_read 7 = .ok (.invokevirtual 17, 3) := by decide +kernel
theorem d_La_read_10 : decode b_La_read 10 = .ok (.i2l, 1) := by decide +kernel
theorem d_La_read_11 : decode b_La_read 11 = .ok (.lastore, 1) := by decide +kernel
theorem d_La_read_12 : decode b_La_read 12 = .ok (.goto 15, 3) := by decide +kernel
theorem d_La_read_15 : decode b_La_read 15 = .ok (.astore 5, 2) := by decide +kernel
theorem d_La_read_17 : decode b_La_read 17 = .ok (.iconst 1, 1) := by decide +kernel
theorem d_La_read_18 : decode b_La_read 18 = .ok (.ireturn, 1) := by decide +kernel
theorem d_La_read_19 : decode b_La_read 19 = .ok (.astore 5, 2) := by decide +kernel
theorem d_La_read_21 : decode b_La_read 21 = .ok (.iconst 2, 1) := by decide +kernel
theorem d_La_read_22 : decode b_La_read 22 = .ok (.ireturn, 1) := by decide +kernel
theorem d_La_read_23 : decode b_La_read 23 = .ok (.astore 5, 2) := by decide +kernel
theorem d_La_read_25 : decode b_La_read 25 = .ok (.iconst 3, 1) := by decide +kernel
theorem d_La_read_26 : decode b_La_read 26 = .ok (.ireturn, 1) := by decide +kernel
theorem d_La_read_27 : decode b_La_read 27 = .ok (.iconst 0, 1) := by decide +kernel
theorem d_La_read_28 : decode b_La_read 28 = .ok (.ireturn, 1) := by decide +kernel
set_option maxHeartbeats 1000000 in
set_option maxRecDepth 100000 in
theorem c_La_write (l : Launch) (dC : Nat → ClassId) (dI : Nat → Nat → Nat) (cI cL : ClassId) (ad : Nat → Nat) (o : Nat) {n0 : Nat} {v0 : Nat → Nat} {n1 : Nat} {v1 b pb B : Nat → Nat} {n0' : Nat} {v0' : Nat → Nat} {n1' : Nat} {v1' b' pb' B' : Nat → Nat} (f : Nat → Int64) (p1 p2 p3 : Int32) (r : Int32) (hC : mG l y_LN_write w_LN_write 8 200 [.ref (ad 0), .int p1, .int p2, .int p3] (dC, dI) vwCl [(cI, .int)] (wL cI ad n0 v0 n1 v1 b pb B) (fun v w => v = .int r ∧ w = wL cI ad n0' v0' n1' v1' b' pb' B')) : mW l y_La_write w_La_write rmW [.ref (ad 0), .int p1, .int p2, .int p3, .ref o] (dC, dI) vwCl [(cI, .int), (cL, .long)] (wL cI ad n0 v0 n1 v1 b pb B ++ [(o, .inl (cL, 1, .inr (.inl f)))]) (fun v w => v = .int (nI 0) ∧ ∃ g : Nat → Int64, g 0 = r.toInt64 ∧ w = wL cI ad n0' v0' n1' v1' b' pb' B' ++ [(o, .inl (cL, 1, .inr (.inl g)))]) := by
  obtain ⟨rm, hF, hLc, hc0, hs0, hM⟩ := hC
  refine mk_Wi (cc := b_La_write) (maxL := 6) (by decide) rfl (Nat.le_of_ble_eq_true rfl) ?_
  intro p e s m below meth c Q A ls S hex hN hP hK hT hS hl hD hA hret
  obtain ⟨hx, hb, hml, hown, hts⟩ := id S
  have hK1 := hK.sub (tys' := [(cI, .int)]) [0] rfl
  have hl : lv_has ls 6 [(0, .ref (ad 0)), (1, .int p1), (2, .int p2), (3, .int p3), (4, .ref o)] := hl
  refine lv_aload hx hb d_La_write_0 (lv_at hl 4 rfl) ?_
  refine lv_iconst (v := nI 0) hx hb d_La_write_2 (by decide) ?_
  refine lv_aload_n hx hb d_La_write_3 rfl (lv_at hl 0 rfl) ?_
  refine lv_iload_n hx hb d_La_write_4 rfl (lv_at hl 1 rfl) ?_
  refine lv_iload_n hx hb d_La_write_5 rfl (lv_at hl 2 rfl) ?_
  refine lv_iload_n hx hb d_La_write_6 rfl (lv_at hl 3 rfl) ?_
  refine mk_g1 (wr := [(o, .inl (cL, 1, .inr (.inl f)))]) (W.runV (As := [.int p1, .int p2, .int p3]) (rest := [.int (nI 0), .ref o]) S (hM _) (gV 3 hts k_282 k_283 k_284 k_24 k_285 (by decide +kernel) ⟨by show rm.frames + 1 ≤ 9; omega, by show 8 + (6 + 11) + rm.locals ≤ 240; omega⟩ hc0 hs0) (mk_vM hP hD hK1 hT hS hA [0, 1, 2, 3, 4, 5, 6, 7, 8, 9, 10] rfl rfl (by decide) (q0 := 0) (ci := 0) rfl rfl) rfl rfl hl.1 rfl (lv_room (Nat.le_of_ble_eq_true rfl)) d_La_write_7 ⟨Nat.zero_le _, Nat.zero_le _⟩) hP hD hS hA [0, 1, 2, 3, 4, 5, 6, 7, 8, 9, 10] [11] rfl rfl (by decide) (by decide) (fun v w1 H locs hΦ hP hD hS => ?_)
  obtain ⟨rfl, rfl⟩ := hΦ
  refine lv_i2l (v := r.toInt64) hx hb d_La_write_10 rfl ?_
  refine va_last hx hb hK hP hD hS 0 1 rfl rfl (vp_in_nI (N := 1) (by decide) (by decide)) d_La_write_11 (fun H locs hP hD hS => ?_)
  refine lv_goto (tgt := 23) hx hb d_La_write_12 (by decide) ?_
  refine lv_iconst (v := nI 0) hx hb d_La_write_23 (by decide) ?_
  refine W.widen (k := 1) (n := 6) (Nat.zero_le _) (Nat.zero_le _) ?_
  exact hret _ _ _ _ _ (wL cI ad n0' v0' n1' v1' b' pb' B' ++ [(o, .inl (cL, 1, .inr (.inl (vp_updL f (nI 0).toNatClampNeg r.toInt64))))]) d_La_write_24 ⟨rfl, vp_updL f (nI 0).toNatClampNeg r.toInt64, by rw [nI_clamp (by decide)]; simp [vp_updL], rfl⟩ (hP.sub [1, 2, 3, 4, 5, 6, 7, 8, 9, 10, 11, 0] rfl) (hD.sub [1, 2, 3, 4, 5, 6, 7, 8, 9, 10, 11, 0] (by decide) rfl) hS
set_option maxHeartbeats 1000000 in
set_option maxRecDepth 100000 in
theorem x_La_write (l : Launch) (dC : Nat → ClassId) (dI : Nat → Nat → Nat) (cI cL : ClassId) (ad : Nat → Nat) (o : Nat) {n0 : Nat} {v0 : Nat → Nat} {n1 : Nat} {v1 b pb B : Nat → Nat} {n0' : Nat} {v0' : Nat → Nat} {n1' : Nat} {v1' b' pb' B' : Nat → Nat} (f : Nat → Int64) (p1 p2 p3 : Int32) (X : String) (k : Nat) (hXk : (X, k) ∈ ([(xA, 1), (xI, 2)] : List (String × Nat))) (hC : mX l y_LN_write w_LN_write 8 200 [.ref (ad 0), .int p1, .int p2, .int p3] (dC, dI) vwCl [(cI, .int)] (wL cI ad n0 v0 n1 v1 b pb B) X (wL cI ad n0' v0' n1' v1' b' pb' B')) : mW l y_La_write w_La_write rmW [.ref (ad 0), .int p1, .int p2, .int p3, .ref o] (dC, dI) vwCl [(cI, .int), (cL, .long)] (wL cI ad n0 v0 n1 v1 b pb B ++ [(o, .inl (cL, 1, .inr (.inl f)))]) (fun v w => v = .int (nI k) ∧ w = wL cI ad n0' v0' n1' v1' b' pb' B' ++ [(o, .inl (cL, 1, .inr (.inl f)))]) := by
  obtain ⟨rm, hF, hLc, hc0, hs0, hM⟩ := hC
  refine mk_Wi (cc := b_La_write) (maxL := 6) (by decide) rfl (Nat.le_of_ble_eq_true rfl) ?_
  intro p e s m below meth c Q A ls S hex hN hP hK hT hS hl hD hA hret
  obtain ⟨hx, hb, hml, hown, hts⟩ := id S
  have hK1 := hK.sub (tys' := [(cI, .int)]) [0] rfl
  have hl : lv_has ls 6 [(0, .ref (ad 0)), (1, .int p1), (2, .int p2), (3, .int p3), (4, .ref o)] := hl
  refine lv_aload hx hb d_La_write_0 (lv_at hl 4 rfl) ?_
  refine lv_iconst (v := nI 0) hx hb d_La_write_2 (by decide) ?_
  refine lv_aload_n hx hb d_La_write_3 rfl (lv_at hl 0 rfl) ?_
  refine lv_iload_n hx hb d_La_write_4 rfl (lv_at hl 1 rfl) ?_
  refine lv_iload_n hx hb d_La_write_5 rfl (lv_at hl 2 rfl) ?_
  refine lv_iload_n hx hb d_La_write_6 rfl (lv_at hl 3 rfl) ?_
  obtain ⟨x1, x2, hex, hx1, hx2⟩ := tb_2 hex
  simp only [Prod.mk.injEq] at hx1 hx2
  obtain ⟨s1, t1, u1, z1⟩ := hx1
  obtain ⟨s2, t2, u2, z2⟩ := hx2
  simp only [List.mem_cons, Prod.mk.injEq, List.not_mem_nil, or_false] at hXk
  rcases hXk with ⟨rfl, rfl⟩ | ⟨rfl, rfl⟩
  · refine mk_x1 (wr := [(o, .inl (cL, 1, .inr (.inl f)))]) (tgt := 15) (As := [.int p1, .int p2, .int p3]) (rest := [.int (nI 0), .ref o]) S hM (gV 3 hts k_282 k_283 k_284 k_24 k_285 (by decide +kernel) ⟨by show rm.frames + 1 ≤ 9; omega, by show 8 + (6 + 11) + rm.locals ≤ 240; omega⟩ hc0 hs0) (mk_vM hP hD hK1 hT hS hA [0, 1, 2, 3, 4, 5, 6, 7, 8, 9, 10] rfl rfl (by decide) (q0 := 0) (ci := 0) rfl rfl) rfl hl.1 rfl (lv_room (Nat.le_of_ble_eq_true rfl)) d_La_write_7 ⟨(Nat.le_of_ble_eq_true rfl), (Nat.le_of_ble_eq_true rfl)⟩ hP hD hS hA [0, 1, 2, 3, 4, 5, 6, 7, 8, 9, 10] [11] rfl rfl (by decide) (by decide) [] x1 [x2] hex (fun _ cX hcX z hz => absurd hz List.not_mem_nil) (by simp [covers, s1, t1]) (by rw [z1]; decide) (by rw [z1]; exact hts _ (List.mem_cons_of_mem _ k_280)) (th_cast (hts _ (List.mem_cons_of_mem _ k_287))) u1 (fun q H locs hP hD hS => ?_)
    refine lv_astore (lv' := [(5, .ref q), (0, .ref (ad 0)), (1, .int p1), (2, .int p2), (3, .int p3), (4, .ref o)]) hx hb d_La_write_15 hl (by decide) rfl (fun ls hl => ?_)
    refine lv_iconst (v := nI 1) hx hb d_La_write_17 (by decide) ?_
    exact hret _ _ _ _ _ (wL cI ad n0' v0' n1' v1' b' pb' B' ++ [(o, .inl (cL, 1, .inr (.inl f)))]) d_La_write_18 ⟨rfl, rfl⟩ (hP.sub [1, 2, 3, 4, 5, 6, 7, 8, 9, 10, 11, 0] rfl) (hD.sub [1, 2, 3, 4, 5, 6, 7, 8, 9, 10, 11, 0] (by decide) rfl) hS
  · have hps : e.platform.magicAccessors = ({} : Platform).magicAccessors → ∀ cX, s.vm.findClass xI = some cX → ∀ z ∈ [x1], RowPassed e.platform s m.cls 7 cX z := by
      intro hpl cX hcX z hz
      simp only [List.mem_cons, List.not_mem_nil, or_false] at hz
      rcases hz with rfl
      · exact nc_pass hpl hown (by rw [z1]; decide) (by rw [z1]; exact hts _ (List.mem_cons_of_mem _ k_280)) hcX hN.1
    refine mk_x1 (wr := [(o, .inl (cL, 1, .inr (.inl f)))]) (tgt := 19) (As := [.int p1, .int p2, .int p3]) (rest := [.int (nI 0), .ref o]) S hM (gV 3 hts k_282 k_283 k_284 k_24 k_285 (by decide +kernel) ⟨by show rm.frames + 1 ≤ 9; omega, by show 8 + (6 + 11) + rm.locals ≤ 240; omega⟩ hc0 hs0) (mk_vM hP hD hK1 hT hS hA [0, 1, 2, 3, 4, 5, 6, 7, 8, 9, 10] rfl rfl (by decide) (q0 := 0) (ci := 0) rfl rfl) rfl hl.1 rfl (lv_room (Nat.le_of_ble_eq_true rfl)) d_La_write_7 ⟨(Nat.le_of_ble_eq_true rfl), (Nat.le_of_ble_eq_true rfl)⟩ hP hD hS hA [0, 1, 2, 3, 4, 5, 6, 7, 8, 9, 10] [11] rfl rfl (by decide) (by decide) [x1] x2 [] hex hps (by simp [covers, s2, t2]) (by rw [z2]; decide) (by rw [z2]; exact hts _ (List.mem_cons_of_mem _ k_281)) (th_cast (hts _ (List.mem_cons_of_mem _ k_357))) u2 (fun q H locs hP hD hS => ?_)
    refine lv_astore (lv' := [(5, .ref q), (0, .ref (ad 0)), (1, .int p1), (2, .int p2), (3, .int p3), (4, .ref o)]) hx hb d_La_write_19 hl (by decide) rfl (fun ls hl => ?_)
    refine lv_iconst (v := nI 2) hx hb d_La_write_21 (by decide) ?_
    exact hret _ _ _ _ _ (wL cI ad n0' v0' n1' v1' b' pb' B' ++ [(o, .inl (cL, 1, .inr (.inl f)))]) d_La_write_22 ⟨rfl, rfl⟩ (hP.sub [1, 2, 3, 4, 5, 6, 7, 8, 9, 10, 11, 0] rfl) (hD.sub [1, 2, 3, 4, 5, 6, 7, 8, 9, 10, 11, 0] (by decide) rfl) hS
set_option maxHeartbeats 1000000 in
set_option maxRecDepth 100000 in
theorem c_La_read (l : Launch) (dC : Nat → ClassId) (dI : Nat → Nat → Nat) (cI cL : ClassId) (ad : Nat → Nat) (o : Nat) {n0 : Nat} {v0 : Nat → Nat} {n1 : Nat} {v1 b pb B : Nat → Nat} {n0' : Nat} {v0' : Nat → Nat} {n1' : Nat} {v1' b' pb' B' : Nat → Nat} (f : Nat → Int64) (p1 p2 p3 : Int32) (r : Int32) (hC : mG l y_LN_read w_LN_read 8 200 [.ref (ad 0), .int p1, .int p2, .int p3] (dC, dI) vwCl [(cI, .int)] (wL cI ad n0 v0 n1 v1 b pb B) (fun v w => v = .int r ∧ w = wL cI ad n0' v0' n1' v1' b' pb' B')) : mW l y_La_read w_La_read rmW [.ref (ad 0), .int p1, .int p2, .int p3, .ref o] (dC, dI) vwCl [(cI, .int), (cL, .long)] (wL cI ad n0 v0 n1 v1 b pb B ++ [(o, .inl (cL, 1, .inr (.inl f)))]) (fun v w => v = .int (nI 0) ∧ ∃ g : Nat → Int64, g 0 = r.toInt64 ∧ w = wL cI ad n0' v0' n1' v1' b' pb' B' ++ [(o, .inl (cL, 1, .inr (.inl g)))]) := by
  obtain ⟨rm, hF, hLc, hc0, hs0, hM⟩ := hC
  refine mk_Wi (cc := b_La_read) (maxL := 6) (by decide) rfl (Nat.le_of_ble_eq_true rfl) ?_
  intro p e s m below meth c Q A ls S hex hN hP hK hT hS hl hD hA hret
  obtain ⟨hx, hb, hml, hown, hts⟩ := id S
  have hK1 := hK.sub (tys' := [(cI, .int)]) [0] rfl
  have hl : lv_has ls 6 [(0, .ref (ad 0)), (1, .int p1), (2, .int p2), (3, .int p3), (4, .ref o)] := hl
  refine lv_aload hx hb d_La_read_0 (lv_at hl 4 rfl) ?_
  refine lv_iconst (v := nI 0) hx hb d_La_read_2 (by decide) ?_
  refine lv_aload_n hx hb d_La_read_3 rfl (lv_at hl 0 rfl) ?_
  refine lv_iload_n hx hb d_La_read_4 rfl (lv_at hl 1 rfl) ?_
  refine lv_iload_n hx hb d_La_read_5 rfl (lv_at hl 2 rfl) ?_
  refine lv_iload_n hx hb d_La_read_6 rfl (lv_at hl 3 rfl) ?_
  refine mk_g1 (wr := [(o, .inl (cL, 1, .inr (.inl f)))]) (W.runV (As := [.int p1, .int p2, .int p3]) (rest := [.int (nI 0), .ref o]) S (hM _) (gV 3 hts k_453 k_454 k_455 k_24 k_456 (by decide +kernel) ⟨by show rm.frames + 1 ≤ 9; omega, by show 8 + (5 + 11) + rm.locals ≤ 240; omega⟩ hc0 hs0) (mk_vM hP hD hK1 hT hS hA [0, 1, 2, 3, 4, 5, 6, 7, 8, 9, 10] rfl rfl (by decide) (q0 := 0) (ci := 0) rfl rfl) rfl rfl hl.1 rfl (lv_room (Nat.le_of_ble_eq_true rfl)) d_La_read_7 ⟨Nat.zero_le _, Nat.zero_le _⟩) hP hD hS hA [0, 1, 2, 3, 4, 5, 6, 7, 8, 9, 10] [11] rfl rfl (by decide) (by decide) (fun v w1 H locs hΦ hP hD hS => ?_)
  obtain ⟨rfl, rfl⟩ := hΦ
  refine lv_i2l (v := r.toInt64) hx hb d_La_read_10 rfl ?_
  refine va_last hx hb hK hP hD hS 0 1 rfl rfl (vp_in_nI (N := 1) (by decide) (by decide)) d_La_read_11 (fun H locs hP hD hS => ?_)
  refine lv_goto (tgt := 27) hx hb d_La_read_12 (by decide) ?_
  refine lv_iconst (v := nI 0) hx hb d_La_read_27 (by decide) ?_
  refine W.widen (k := 1) (n := 6) (Nat.zero_le _) (Nat.zero_le _) ?_
  exact hret _ _ _ _ _ (wL cI ad n0' v0' n1' v1' b' pb' B' ++ [(o, .inl (cL, 1, .inr (.inl (vp_updL f (nI 0).toNatClampNeg r.toInt64))))]) d_La_read_28 ⟨rfl, vp_updL f (nI 0).toNatClampNeg r.toInt64, by rw [nI_clamp (by decide)]; simp [vp_updL], rfl⟩ (hP.sub [1, 2, 3, 4, 5, 6, 7, 8, 9, 10, 11, 0] rfl) (hD.sub [1, 2, 3, 4, 5, 6, 7, 8, 9, 10, 11, 0] (by decide) rfl) hS
set_option maxHeartbeats 1000000 in
set_option maxRecDepth 100000 in
theorem x_La_read (l : Launch) (dC : Nat → ClassId) (dI : Nat → Nat → Nat) (cI cL : ClassId) (ad : Nat → Nat) (o : Nat) {n0 : Nat} {v0 : Nat → Nat} {n1 : Nat} {v1 b pb B : Nat → Nat} {n0' : Nat} {v0' : Nat → Nat} {n1' : Nat} {v1' b' pb' B' : Nat → Nat} (f : Nat → Int64) (p1 p2 p3 : Int32) (X : String) (k : Nat) (hXk : (X, k) ∈ ([(xA, 1), (xI, 2), (xS, 3)] : List (String × Nat))) (hC : mX l y_LN_read w_LN_read 8 200 [.ref (ad 0), .int p1, .int p2, .int p3] (dC, dI) vwCl [(cI, .int)] (wL cI ad n0 v0 n1 v1 b pb B) X (wL cI ad n0' v0' n1' v1' b' pb' B')) : mW l y_La_read w_La_read rmW [.ref (ad 0), .int p1, .int p2, .int p3, .ref o] (dC, dI) vwCl [(cI, .int), (cL, .long)] (wL cI ad n0 v0 n1 v1 b pb B ++ [(o, .inl (cL, 1, .inr (.inl f)))]) (fun v w => v = .int (nI k) ∧ w = wL cI ad n0' v0' n1' v1' b' pb' B' ++ [(o, .inl (cL, 1, .inr (.inl f)))]) := by
  obtain ⟨rm, hF, hLc, hc0, hs0, hM⟩ := hC
  refine mk_Wi (cc := b_La_read) (maxL := 6) (by decide) rfl (Nat.le_of_ble_eq_true rfl) ?_
  intro p e s m below meth c Q A ls S hex hN hP hK hT hS hl hD hA hret
  obtain ⟨hx, hb, hml, hown, hts⟩ := id S
  have hK1 := hK.sub (tys' := [(cI, .int)]) [0] rfl
  have hl : lv_has ls 6 [(0, .ref (ad 0)), (1, .int p1), (2, .int p2), (3, .int p3), (4, .ref o)] := hl
  refine lv_aload hx hb d_La_read_0 (lv_at hl 4 rfl) ?_
  refine lv_iconst (v := nI 0) hx hb d_La_read_2 (by decide) ?_
  refine lv_aload_n hx hb d_La_read_3 rfl (lv_at hl 0 rfl) ?_
  refine lv_iload_n hx hb d_La_read_4 rfl (lv_at hl 1 rfl) ?_
  refine lv_iload_n hx hb d_La_read_5 rfl (lv_at hl 2 rfl) ?_
  refine lv_iload_n hx hb d_La_read_6 rfl (lv_at hl 3 rfl) ?_
  obtain ⟨x1, x2, x3, hex, hx1, hx2, hx3⟩ := tb_3 hex
  simp only [Prod.mk.injEq] at hx1 hx2 hx3
  obtain ⟨s1, t1, u1, z1⟩ := hx1
  obtain ⟨s2, t2, u2, z2⟩ := hx2
  obtain ⟨s3, t3, u3, z3⟩ := hx3
  simp only [List.mem_cons, Prod.mk.injEq, List.not_mem_nil, or_false] at hXk
  rcases hXk with ⟨rfl, rfl⟩ | ⟨rfl, rfl⟩ | ⟨rfl, rfl⟩
  · refine mk_x1 (wr := [(o, .inl (cL, 1, .inr (.inl f)))]) (tgt := 15) (As := [.int p1, .int p2, .int p3]) (rest := [.int (nI 0), .ref o]) S hM (gV 3 hts k_453 k_454 k_455 k_24 k_456 (by decide +kernel) ⟨by show rm.frames + 1 ≤ 9; omega, by show 8 + (5 + 11) + rm.locals ≤ 240; omega⟩ hc0 hs0) (mk_vM hP hD hK1 hT hS hA [0, 1, 2, 3, 4, 5, 6, 7, 8, 9, 10] rfl rfl (by decide) (q0 := 0) (ci := 0) rfl rfl) rfl hl.1 rfl (lv_room (Nat.le_of_ble_eq_true rfl)) d_La_read_7 ⟨(Nat.le_of_ble_eq_true rfl), (Nat.le_of_ble_eq_true rfl)⟩ hP hD hS hA [0, 1, 2, 3, 4, 5, 6, 7, 8, 9, 10] [11] rfl rfl (by decide) (by decide) [] x1 [x2, x3] hex (fun _ cX hcX z hz => absurd hz List.not_mem_nil) (by simp [covers, s1, t1]) (by rw [z1]; decide) (by rw [z1]; exact hts _ (List.mem_cons_of_mem _ k_280)) (th_cast (hts _ (List.mem_cons_of_mem _ k_287))) u1 (fun q H locs hP hD hS => ?_)
    refine lv_astore (lv' := [(5, .ref q), (0, .ref (ad 0)), (1, .int p1), (2, .int p2), (3, .int p3), (4, .ref o)]) hx hb d_La_read_15 hl (by decide) rfl (fun ls hl => ?_)
    refine lv_iconst (v := nI 1) hx hb d_La_read_17 (by decide) ?_
    exact hret _ _ _ _ _ (wL cI ad n0' v0' n1' v1' b' pb' B' ++ [(o, .inl (cL, 1, .inr (.inl f)))]) d_La_read_18 ⟨rfl, rfl⟩ (hP.sub [1, 2, 3, 4, 5, 6, 7, 8, 9, 10, 11, 0] rfl) (hD.sub [1, 2, 3, 4, 5, 6, 7, 8, 9, 10, 11, 0] (by decide) rfl) hS
  · have hps : e.platform.magicAccessors = ({} : Platform).magicAccessors → ∀ cX, s.vm.findClass xI = some cX → ∀ z ∈ [x1], RowPassed e.platform s m.cls 7 cX z := by
      intro hpl cX hcX z hz
      simp only [List.mem_cons, List.not_mem_nil, or_false] at hz
      rcases hz with rfl
      · exact nc_pass hpl hown (by rw [z1]; decide) (by rw [z1]; exact hts _ (List.mem_cons_of_mem _ k_280)) hcX hN.1
    refine mk_x1 (wr := [(o, .inl (cL, 1, .inr (.inl f)))]) (tgt := 19) (As := [.int p1, .int p2, .int p3]) (rest := [.int (nI 0), .ref o]) S hM (gV 3 hts k_453 k_454 k_455 k_24 k_456 (by decide +kernel) ⟨by show rm.frames + 1 ≤ 9; omega, by show 8 + (5 + 11) + rm.locals ≤ 240; omega⟩ hc0 hs0) (mk_vM hP hD hK1 hT hS hA [0, 1, 2, 3, 4, 5, 6, 7, 8, 9, 10] rfl rfl (by decide) (q0 := 0) (ci := 0) rfl rfl) rfl hl.1 rfl (lv_room (Nat.le_of_ble_eq_true rfl)) d_La_read_7 ⟨(Nat.le_of_ble_eq_true rfl), (Nat.le_of_ble_eq_true rfl)⟩ hP hD hS hA [0, 1, 2, 3, 4, 5, 6, 7, 8, 9, 10] [11] rfl rfl (by decide) (by decide) [x1] x2 [x3] hex hps (by simp [covers, s2, t2]) (by rw [z2]; decide) (by rw [z2]; exact hts _ (List.mem_cons_of_mem _ k_281)) (th_cast (hts _ (List.mem_cons_of_mem _ k_357))) u2 (fun q H locs hP hD hS => ?_)
    refine lv_astore (lv' := [(5, .ref q), (0, .ref (ad 0)), (1, .int p1), (2, .int p2), (3, .int p3), (4, .ref o)]) hx hb d_La_read_19 hl (by decide) rfl (fun ls hl => ?_)
    refine lv_iconst (v := nI 2) hx hb d_La_read_21 (by decide) ?_
    exact hret _ _ _ _ _ (wL cI ad n0' v0' n1' v1' b' pb' B' ++ [(o, .inl (cL, 1, .inr (.inl f)))]) d_La_read_22 ⟨rfl, rfl⟩ (hP.sub [1, 2, 3, 4, 5, 6, 7, 8, 9, 10, 11, 0] rfl) (hD.sub [1, 2, 3, 4, 5, 6, 7, 8, 9, 10, 11, 0] (by decide) rfl) hS
  · have hps : e.platform.magicAccessors = ({} : Platform).magicAccessors → ∀ cX, s.vm.findClass xS = some cX → ∀ z ∈ [x1, x2], RowPassed e.platform s m.cls 7 cX z := by
      intro hpl cX hcX z hz
      simp only [List.mem_cons, List.not_mem_nil, or_false] at hz
      rcases hz with rfl | rfl
      · exact nc_pass hpl hown (by rw [z1]; decide) (by rw [z1]; exact hts _ (List.mem_cons_of_mem _ k_280)) hcX hN.2.1
      · exact nc_pass hpl hown (by rw [z2]; decide) (by rw [z2]; exact hts _ (List.mem_cons_of_mem _ k_281)) hcX hN.2.2
    refine mk_x1 (wr := [(o, .inl (cL, 1, .inr (.inl f)))]) (tgt := 23) (As := [.int p1, .int p2, .int p3]) (rest := [.int (nI 0), .ref o]) S hM (gV 3 hts k_453 k_454 k_455 k_24 k_456 (by decide +kernel) ⟨by show rm.frames + 1 ≤ 9; omega, by show 8 + (5 + 11) + rm.locals ≤ 240; omega⟩ hc0 hs0) (mk_vM hP hD hK1 hT hS hA [0, 1, 2, 3, 4, 5, 6, 7, 8, 9, 10] rfl rfl (by decide) (q0 := 0) (ci := 0) rfl rfl) rfl hl.1 rfl (lv_room (Nat.le_of_ble_eq_true rfl)) d_La_read_7 ⟨(Nat.le_of_ble_eq_true rfl), (Nat.le_of_ble_eq_true rfl)⟩ hP hD hS hA [0, 1, 2, 3, 4, 5, 6, 7, 8, 9, 10] [11] rfl rfl (by decide) (by decide) [x1, x2] x3 [] hex hps (by simp [covers, s3, t3]) (by rw [z3]; decide) (by rw [z3]; exact hts _ (List.mem_cons_of_mem _ k_452)) (th_cast (hts _ (List.mem_cons_of_mem _ k_475))) u3 (fun q H locs hP hD hS => ?_)
    refine lv_astore (lv' := [(5, .ref q), (0, .ref (ad 0)), (1, .int p1), (2, .int p2), (3, .int p3), (4, .ref o)]) hx hb d_La_read_23 hl (by decide) rfl (fun ls hl => ?_)
    refine lv_iconst (v := nI 3) hx hb d_La_read_25 (by decide) ?_
    exact hret _ _ _ _ _ (wL cI ad n0' v0' n1' v1' b' pb' B' ++ [(o, .inl (cL, 1, .inr (.inl f)))]) d_La_read_26 ⟨rfl, rfl⟩ (hP.sub [1, 2, 3, 4, 5, 6, 7, 8, 9, 10, 11, 0] rfl) (hD.sub [1, 2, 3, 4, 5, 6, 7, 8, 9, 10, 11, 0] (by decide) rfl) hS
set_option maxRecDepth 100000 in
theorem c_La_thrown (l : Launch) (dC : Nat → ClassId) (dI : Nat → Nat → Nat) (cI : ClassId) (am : Nat → Nat) (th : Int32) (U Z B bm : Nat → Nat) : mR l y_Mo_thrown w_Mo_thrown ({ frames := 0, cells := 0, slots := 0, locals := 0 } : Room) [.ref (am 0)] (dC, dI) vwCl [(cI, .int)] (wM cI am th U Z B bm) (some (.int th)) := by
  refine mk_Ri (cc := b_Mo_thrown) (maxL := 1) (by decide) rfl (Nat.le_of_ble_eq_true rfl) (rfl) ?_
  intro p e s m below meth c Q A ls S hP hK hT hS hl hret
  obtain ⟨hx, hb, hml, hown, hts⟩ := id S
  have hl : lv_has ls 1 [(0, .ref (am 0))] := hl
  refine lv_aload_n hx hb d_Mo_thrown_0 rfl (lv_at hl 0 rfl) ?_
  refine va_get (D := (dC, dI)) (ci := 5) (v := .int th) (C := "LongNamesModel") (T := F_Mo) (N := 5) hx hb hts (iw_Mo _) hown hK hP 0 rfl rfl 0 (by decide) (hts _ (List.mem_cons_of_mem _ k_522)) (fun _ h9 => h9) rfl d_Mo_thrown_1 ?_
  exact hret _ _ d_Mo_thrown_4
