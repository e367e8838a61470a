set_option maxHeartbeats 4000000 in
set_option maxRecDepth 100000 in
theorem c_LN_row0 (l : Launch) (dC : Nat → ClassId) (dI : Nat → Nat → Nat) (cI : ClassId) (x f0 f1 h hp hs : Nat)  : mR l y_LN_rowOf w_LN_rowOf ({ frames := 0, cells := 0, slots := 0, locals := 0 } : Room) [.ref x, .int (nI 0)] (dC, dI) vwCl [(cI, .int)] [(x, .inr (0, [.ref f0, .ref f1, .ref h, .ref hp, .ref hs]))] (some (.ref f0)) := by
  refine mk_Ra (cc := b_LN_rowOf) (maxL := 2) (by decide) rfl (Nat.le_of_ble_eq_true rfl) (Or.inl ⟨_, rfl⟩) (Or.inr ⟨_, rfl⟩) ?_
  intro p e s m below meth c Q A ls S hP hK hT hS hl hret
  obtain ⟨hx, hb, hml, hown, hts⟩ := id S
  have hl : lv_has ls 2 [(0, .ref x), (1, .int (nI 0))] := hl
  refine lv_iload_n hx hb d_LN_rowOf_0 rfl (lv_at hl 1 rfl) ?_
  refine lv_if_ne (tgt := 9) hx hb d_LN_rowOf_1 (by decide) (fun c_1 => ?_) (fun c_1 => ?_)
  · skip
    rw [mk_ceq (by omega)] at c_1
    first | omega | contradiction
  · skip
    rw [mk_ceq (by omega)] at c_1
    refine lv_aload_n hx hb d_LN_rowOf_4 rfl (lv_at hl 0 rfl) ?_
    refine va_get (D := (dC, dI)) (ci := 0) (v := .ref f0) (C := "LongNames") (T := F_LN) (N := 5) hx hb hts (iw_LN _) hown hK hP 0 rfl rfl 0 (by decide) (hts _ (List.mem_cons_of_mem _ k_91)) (fun _ h9 => h9) rfl d_LN_rowOf_5 ?_
    exact hret _ _ d_LN_rowOf_8

set_option maxHeartbeats 4000000 in
set_option maxRecDepth 100000 in
theorem c_LN_row1 (l : Launch) (dC : Nat → ClassId) (dI : Nat → Nat → Nat) (cI : ClassId) (x f0 f1 h hp hs : Nat)  : mR l y_LN_rowOf w_LN_rowOf ({ frames := 0, cells := 0, slots := 0, locals := 0 } : Room) [.ref x, .int (nI 1)] (dC, dI) vwCl [(cI, .int)] [(x, .inr (0, [.ref f0, .ref f1, .ref h, .ref hp, .ref hs]))] (some (.ref f1)) := by
  refine mk_Ra (cc := b_LN_rowOf) (maxL := 2) (by decide) rfl (Nat.le_of_ble_eq_true rfl) (Or.inl ⟨_, rfl⟩) (Or.inr ⟨_, rfl⟩) ?_
  intro p e s m below meth c Q A ls S hP hK hT hS hl hret
  obtain ⟨hx, hb, hml, hown, hts⟩ := id S
  have hl : lv_has ls 2 [(0, .ref x), (1, .int (nI 1))] := hl
  refine lv_iload_n hx hb d_LN_rowOf_0 rfl (lv_at hl 1 rfl) ?_
  refine lv_if_ne (tgt := 9) hx hb d_LN_rowOf_1 (by decide) (fun c_1 => ?_) (fun c_1 => ?_)
  · skip
    rw [mk_ceq (by omega)] at c_1
    refine lv_iload_n hx hb d_LN_rowOf_9 rfl (lv_at hl 1 rfl) ?_
    refine lv_iconst (v := nI 1) hx hb d_LN_rowOf_10 (by decide) ?_
    refine lv_icmp_ne (tgt := 21) hx hb d_LN_rowOf_11 (by decide) (fun c_2 => ?_) (fun c_2 => ?_)
    · skip
      rw [nI_eq (by omega) (by omega)] at c_2
      first | omega | contradiction
    · skip
      rw [nI_eq (by omega) (by omega)] at c_2
      refine lv_aload_n hx hb d_LN_rowOf_14 rfl (lv_at hl 0 rfl) ?_
      refine va_get (D := (dC, dI)) (ci := 0) (v := .ref f1) (C := "LongNames") (T := F_LN) (N := 5) hx hb hts (iw_LN _) hown hK hP 0 rfl rfl 1 (by decide) (hts _ (List.mem_cons_of_mem _ k_92)) (fun _ h9 => h9) rfl d_LN_rowOf_15 ?_
      refine lv_goto (tgt := 22) hx hb d_LN_rowOf_18 (by decide) ?_
      exact hret _ _ d_LN_rowOf_22
  · skip
    rw [mk_ceq (by omega)] at c_1
    first | omega | contradiction

set_option maxHeartbeats 4000000 in
set_option maxRecDepth 100000 in
theorem c_LN_rowX (l : Launch) (dC : Nat → ClassId) (dI : Nat → Nat → Nat) (cI : ClassId) (x f0 f1 h hp hs : Nat) (r : Int32) (hr0 : ¬ r = 0) (hr1 : ¬ r = nI 1) : mR l y_LN_rowOf w_LN_rowOf ({ frames := 0, cells := 0, slots := 0, locals := 0 } : Room) [.ref x, .int r] (dC, dI) vwCl [(cI, .int)] [(x, .inr (0, [.ref f0, .ref f1, .ref h, .ref hp, .ref hs]))] (some (.null)) := by
  refine mk_Ra (cc := b_LN_rowOf) (maxL := 2) (by decide) rfl (Nat.le_of_ble_eq_true rfl) (Or.inl ⟨_, rfl⟩) (Or.inl rfl) ?_
  intro p e s m below meth c Q A ls S hP hK hT hS hl hret
  obtain ⟨hx, hb, hml, hown, hts⟩ := id S
  have hl : lv_has ls 2 [(0, .ref x), (1, .int r)] := hl
  refine lv_iload_n hx hb d_LN_rowOf_0 rfl (lv_at hl 1 rfl) ?_
  refine lv_if_ne (tgt := 9) hx hb d_LN_rowOf_1 (by decide) (fun c_1 => ?_) (fun c_1 => ?_)
  · skip
    refine lv_iload_n hx hb d_LN_rowOf_9 rfl (lv_at hl 1 rfl) ?_
    refine lv_iconst (v := nI 1) hx hb d_LN_rowOf_10 (by decide) ?_
    refine lv_icmp_ne (tgt := 21) hx hb d_LN_rowOf_11 (by decide) (fun c_2 => ?_) (fun c_2 => ?_)
    · skip
      refine lv_null hx hb d_LN_rowOf_21 ?_
      exact hret _ _ d_LN_rowOf_22
    · skip
      exact absurd c_2 hr1
  · skip
    exact absurd c_1 hr0

set_option maxHeartbeats 4000000 in
set_option maxRecDepth 100000 in
theorem c_LN_ws (l : Launch) (dC : Nat → ClassId) (dI : Nat → Nat → Nat) (cI : ClassId) (x f0 f1 h a : Nat) (b : Nat → Nat) (hp ap : Nat) (pb : Nat → Nat) (hs as : Nat) (B : Nat → Nat) (hr ar n : Nat) (v : Nat → Nat) (q p9 : Nat) (hn : n ≤ 255) (hv : ∀ j, v j < 65536) (hb9 : ∀ j, b j < 65536) (hpb : ∀ j, pb j < 65536) (hB : ∀ j, B j < 256) (hq : q < 32) (hp9 : p9 ≤ q) : mM l y_LN_writeSlots w_LN_writeSlots ({ frames := 4, cells := 0, slots := 0, locals := 87 } : Room) [.ref x, .ref hr, .int (nI q), .int (nI p9)] (dC, dI) vwCl [(cI, .int)] [(x, .inr (0, [.ref f0, .ref f1, .ref h, .ref hp, .ref hs])), (h, .inr (2, [.ref a])), (a, .inl (cI, 11, .inl (nf b))), (hp, .inr (3, [.ref ap])), (ap, .inl (cI, 32, .inl (nf pb))), (hs, .inr (4, [.ref as])), (as, .inl (cI, 1024, .inl (nf B))), (hr, .inr (1, [.ref ar, .int (nI n)])), (ar, .inl (cI, 255, .inl (nf v)))] none [(x, .inr (0, [.ref f0, .ref f1, .ref h, .ref hp, .ref hs])), (h, .inr (2, [.ref a])), (a, .inl (cI, 11, .inl (nf b))), (hp, .inr (3, [.ref ap])), (ap, .inl (cI, 32, .inl (nf (wpB v n (suN (stN B (enN b) (q * 32) 32) (q * 32) 11) pb p9)))), (hs, .inr (4, [.ref as])), (as, .inl (cI, 1024, .inl (nf (wsB v n (suN (stN B (enN b) (q * 32) 32) (q * 32) 11) q pb (stN B (enN b) (q * 32) 32) p9)))), (hr, .inr (1, [.ref ar, .int (nI n)])), (ar, .inl (cI, 255, .inl (nf v)))] := by
  have hB1 : ∀ j, (stN B (enN b) (q * 32) 32) j < 256 := stN_lt hB (enN_lt b)
  have hs9 := suN_lt (stN B (enN b) (q * 32) 32) (q * 32) 11
  refine mk_Mv (cc := b_LN_writeSlots) (maxL := 6) (by decide) rfl (Nat.le_of_ble_eq_true rfl) ?_
  intro p e s m below meth c Q A ls S hP hK hT hS hl hD hA hret
  obtain ⟨hx, hb, hml, hown, hts⟩ := id S
  have hl : lv_has ls 6 [(0, .ref x), (1, .ref hr), (2, .int (nI q)), (3, .int (nI p9))] := hl
  refine lv_aload_n hx hb d_LN_writeSlots_0 rfl (lv_at hl 0 rfl) ?_
  refine va_get (D := (dC, dI)) (ci := 0) (v := .ref h) (C := "LongNames") (T := F_LN) (N := 5) hx hb hts (iw_LN _) hown hK hP 0 rfl rfl 2 (by decide) (hts _ (List.mem_cons_of_mem _ k_93)) (fun _ h9 => h9) rfl d_LN_writeSlots_1 ?_
  refine lv_aload_n hx hb d_LN_writeSlots_4 rfl (lv_at hl 0 rfl) ?_
  refine va_get (D := (dC, dI)) (ci := 0) (v := .ref hs) (C := "LongNames") (T := F_LN) (N := 5) hx hb hts (iw_LN _) hown hK hP 0 rfl rfl 4 (by decide) (hts _ (List.mem_cons_of_mem _ k_95)) (fun _ h9 => h9) rfl d_LN_writeSlots_5 ?_
  refine lv_iload_n hx hb d_LN_writeSlots_8 rfl (lv_at hl 2 rfl) ?_
  refine mk_w0 (wr := [(x, .inr (0, [.ref f0, .ref f1, .ref h, .ref hp, .ref hs])), (hp, .inr (3, [.ref ap])), (ap, .inl (cI, 32, .inl (nf pb))), (hr, .inr (1, [.ref ar, .int (nI n)])), (ar, .inl (cI, 255, .inl (nf v)))]) (W.runV (As := [.ref hs, .int (nI q)]) (rest := []) S ((c_Sn_store l dC dI cI h a b hs as B q (by first | assumption | omega) (by first | assumption | omega)) _) (gV 2 hts k_410 k_411 k_412 k_26 k_413 (by decide +kernel) ⟨Nat.le_of_ble_eq_true rfl, Nat.le_of_ble_eq_true rfl⟩) (mk_vM hP hD hK hT hS hA [1, 2, 5, 6] rfl rfl (by decide) (q0 := 1) (ci := 2) rfl rfl) rfl rfl hl.1 rfl (lv_room (Nat.le_of_ble_eq_true rfl)) d_LN_writeSlots_9 ⟨Nat.zero_le _, Nat.zero_le _⟩) hP hD hS hA [1, 2, 5, 6] [0, 3, 4, 7, 8] rfl rfl (by decide) (by decide) (fun H locs hP hD hS => ?_)
  have hP : va_P (dC, dI) vwCl [(x, .inr (0, [.ref f0, .ref f1, .ref h, .ref hp, .ref hs])), (h, .inr (2, [.ref a])), (a, .inl (cI, 11, .inl (nf b))), (hp, .inr (3, [.ref ap])), (ap, .inl (cI, 32, .inl (nf pb))), (hs, .inr (4, [.ref as])), (as, .inl (cI, 1024, .inl (nf (stN B (enN b) (q * 32) 32)))), (hr, .inr (1, [.ref ar, .int (nI n)])), (ar, .inl (cI, 255, .inl (nf v)))] H := hP.sub [0, 5, 6, 1, 2, 7, 8, 3, 4] rfl
  have hD : va_D A [(x, .inr (0, [.ref f0, .ref f1, .ref h, .ref hp, .ref hs])), (h, .inr (2, [.ref a])), (a, .inl (cI, 11, .inl (nf b))), (hp, .inr (3, [.ref ap])), (ap, .inl (cI, 32, .inl (nf pb))), (hs, .inr (4, [.ref as])), (as, .inl (cI, 1024, .inl (nf (stN B (enN b) (q * 32) 32)))), (hr, .inr (1, [.ref ar, .int (nI n)])), (ar, .inl (cI, 255, .inl (nf v)))] := hD.sub [0, 5, 6, 1, 2, 7, 8, 3, 4] (by decide) rfl
  refine lv_aload_n hx hb d_LN_writeSlots_12 rfl (lv_at hl 0 rfl) ?_
  refine va_get (D := (dC, dI)) (ci := 0) (v := .ref hs) (C := "LongNames") (T := F_LN) (N := 5) hx hb hts (iw_LN _) hown hK hP 0 rfl rfl 4 (by decide) (hts _ (List.mem_cons_of_mem _ k_95)) (fun _ h9 => h9) rfl d_LN_writeSlots_13 ?_
  refine lv_iload_n hx hb d_LN_writeSlots_16 rfl (lv_at hl 2 rfl) ?_
  refine mk_r1 (W.runV (As := [.int (nI q)]) (rest := []) S (c_Sl_sum l dC dI cI hs as (stN B (enN b) (q * 32) 32) q (by first | assumption | omega) (by first | assumption | omega)) (gV 1 hts k_222 k_223 k_224 k_28 k_225 (by decide +kernel) ⟨Nat.le_of_ble_eq_true rfl, Nat.le_of_ble_eq_true rfl⟩) (mk_vR hP hK hT hS [5, 6] rfl (q0 := 5) (ci := 4) rfl rfl) rfl rfl hl.1 rfl (lv_room (Nat.le_of_ble_eq_true rfl)) d_LN_writeSlots_17 ⟨Nat.zero_le _, Nat.zero_le _⟩) ?_
  refine lv_istore (lv' := [(4, .int (nI (suN (stN B (enN b) (q * 32) 32) (q * 32) 11))), (0, .ref x), (1, .ref hr), (2, .int (nI q)), (3, .int (nI p9))]) hx hb d_LN_writeSlots_20 hl (by decide) rfl (fun ls hl => ?_)
  refine lv_iconst (v := nI 1) hx hb d_LN_writeSlots_22 (by decide) ?_
  refine lv_istore (lv' := [(5, .int (nI 1)), (4, .int (nI (suN (stN B (enN b) (q * 32) 32) (q * 32) 11))), (0, .ref x), (1, .ref hr), (2, .int (nI q)), (3, .int (nI p9))]) hx hb d_LN_writeSlots_23 hl (by decide) rfl (fun ls hl => ?_)
  have lp25 : ∀ (k : Nat) (i : Nat) (H : Heap) (locs : List Loc) (ls : Array Slot), (i + k = p9) → va_P (dC, dI) vwCl [(x, .inr (0, [.ref f0, .ref f1, .ref h, .ref hp, .ref hs])), (h, .inr (2, [.ref a])), (a, .inl (cI, 11, .inl (nf b))), (hp, .inr (3, [.ref ap])), (ap, .inl (cI, 32, .inl (nf (wpB v n (suN (stN B (enN b) (q * 32) 32) (q * 32) 11) pb i)))), (hs, .inr (4, [.ref as])), (as, .inl (cI, 1024, .inl (nf (wsB v n (suN (stN B (enN b) (q * 32) 32) (q * 32) 11) q pb (stN B (enN b) (q * 32) 32) i)))), (hr, .inr (1, [.ref ar, .int (nI n)])), (ar, .inl (cI, 255, .inl (nf v)))] H → va_D A [(x, .inr (0, [.ref f0, .ref f1, .ref h, .ref hp, .ref hs])), (h, .inr (2, [.ref a])), (a, .inl (cI, 11, .inl (nf b))), (hp, .inr (3, [.ref ap])), (ap, .inl (cI, 32, .inl (nf (wpB v n (suN (stN B (enN b) (q * 32) 32) (q * 32) 11) pb i)))), (hs, .inr (4, [.ref as])), (as, .inl (cI, 1024, .inl (nf (wsB v n (suN (stN B (enN b) (q * 32) 32) (q * 32) 11) q pb (stN B (enN b) (q * 32) 32) i)))), (hr, .inr (1, [.ref ar, .int (nI n)])), (ar, .inl (cI, 255, .inl (nf v)))] → va_S A s.heap H locs → lv_has ls 6 [(0, .ref x), (1, .ref hr), (2, .int (nI q)), (3, .int (nI p9)), (4, .int (nI (suN (stN B (enN b) (q * 32) 32) (q * 32) 11))), (5, .int (nI (i + 1)))] → W p l e ({ frames := 4, cells := 0, slots := 0, locals := 87 } : Room) s m ([.ref x, .ref hr, .int (nI q), .int (nI p9)] : List Value).toArray below meth c H locs 0 0 Q (F0 m 25 ls []) := by
    intro k
    induction k with
    | zero =>
      intro i H locs ls hi hP hD hS hl
      refine lv_iload hx hb d_LN_writeSlots_25 (lv_at hl 5 rfl) ?_
      refine lv_iload_n hx hb d_LN_writeSlots_27 rfl (lv_at hl 3 rfl) ?_
      refine lv_icmp_gt (tgt := 64) hx hb d_LN_writeSlots_28 (by decide) (fun c_1 => ?_) (fun c_1 => ?_)
      · skip
        rw [nI_ltI (by omega) (by omega)] at c_1
        have hw9 : ([(x, .inr (0, [.ref f0, .ref f1, .ref h, .ref hp, .ref hs])), (h, .inr (2, [.ref a])), (a, .inl (cI, 11, .inl (nf b))), (hp, .inr (3, [.ref ap])), (ap, .inl (cI, 32, .inl (nf (wpB v n (suN (stN B (enN b) (q * 32) 32) (q * 32) 11) pb i)))), (hs, .inr (4, [.ref as])), (as, .inl (cI, 1024, .inl (nf (wsB v n (suN (stN B (enN b) (q * 32) 32) (q * 32) 11) q pb (stN B (enN b) (q * 32) 32) i)))), (hr, .inr (1, [.ref ar, .int (nI n)])), (ar, .inl (cI, 255, .inl (nf v)))] : va_W) = [(x, .inr (0, [.ref f0, .ref f1, .ref h, .ref hp, .ref hs])), (h, .inr (2, [.ref a])), (a, .inl (cI, 11, .inl (nf b))), (hp, .inr (3, [.ref ap])), (ap, .inl (cI, 32, .inl (nf (wpB v n (suN (stN B (enN b) (q * 32) 32) (q * 32) 11) pb p9)))), (hs, .inr (4, [.ref as])), (as, .inl (cI, 1024, .inl (nf (wsB v n (suN (stN B (enN b) (q * 32) 32) (q * 32) 11) q pb (stN B (enN b) (q * 32) 32) p9)))), (hr, .inr (1, [.ref ar, .int (nI n)])), (ar, .inl (cI, 255, .inl (nf v)))] := by rw [show i = p9 by omega]
        rw [hw9] at hP hD
        exact hret _ _ _ _ d_LN_writeSlots_64 hP hD hS
      · skip
        rw [nI_ltI (by omega) (by omega)] at c_1
        first | omega | contradiction
    | succ k ih25 =>
      intro i H locs ls hi hP hD hS hl
      have hw7 := wpB_lt (n := n) (su := suN (stN B (enN b) (q * 32) 32) (q * 32) 11) (pb := pb) hv hpb hs9 i (by omega)
      have hw6 := wpB_lt (n := n) (su := suN (stN B (enN b) (q * 32) 32) (q * 32) 11) (pb := pb) hv hpb hs9 (i + 1) (by omega)
      refine lv_iload hx hb d_LN_writeSlots_25 (lv_at hl 5 rfl) ?_
      refine lv_iload_n hx hb d_LN_writeSlots_27 rfl (lv_at hl 3 rfl) ?_
      refine lv_icmp_gt (tgt := 64) hx hb d_LN_writeSlots_28 (by decide) (fun c_2 => ?_) (fun c_2 => ?_)
      · skip
        rw [nI_ltI (by omega) (by omega)] at c_2
        first | omega | contradiction
      · skip
        rw [nI_ltI (by omega) (by omega)] at c_2
        refine lv_aload_n hx hb d_LN_writeSlots_31 rfl (lv_at hl 0 rfl) ?_
        refine va_get (D := (dC, dI)) (ci := 0) (v := .ref hp) (C := "LongNames") (T := F_LN) (N := 5) hx hb hts (iw_LN _) hown hK hP 0 rfl rfl 3 (by decide) (hts _ (List.mem_cons_of_mem _ k_94)) (fun _ h9 => h9) rfl d_LN_writeSlots_32 ?_
        refine lv_aload_n hx hb d_LN_writeSlots_35 rfl (lv_at hl 1 rfl) ?_
        refine lv_iload hx hb d_LN_writeSlots_36 (lv_at hl 5 rfl) ?_
        refine lv_iload hx hb d_LN_writeSlots_38 (lv_at hl 4 rfl) ?_
        refine mk_w0 (wr := [(x, .inr (0, [.ref f0, .ref f1, .ref h, .ref hp, .ref hs])), (h, .inr (2, [.ref a])), (a, .inl (cI, 11, .inl (nf b))), (hs, .inr (4, [.ref as])), (as, .inl (cI, 1024, .inl (nf (wsB v n (suN (stN B (enN b) (q * 32) 32) (q * 32) 11) q pb (stN B (enN b) (q * 32) 32) i))))]) (W.runV (As := [.ref hr, .int (nI (i + 1)), .int (nI (suN (stN B (enN b) (q * 32) 32) (q * 32) 11))]) (rest := []) S ((c_Pt_build l dC dI cI hp ap (wpB v n (suN (stN B (enN b) (q * 32) 32) (q * 32) 11) pb i) hr ar n v (i + 1) (suN (stN B (enN b) (q * 32) 32) (q * 32) 11) (by first | assumption | omega) (by first | assumption | omega) (by first | assumption | omega) (by first | assumption | omega)) _) (gV 3 hts k_419 k_420 k_421 k_27 k_422 (by decide +kernel) ⟨Nat.le_of_ble_eq_true rfl, Nat.le_of_ble_eq_true rfl⟩) (mk_vM hP hD hK hT hS hA [3, 4, 7, 8] rfl rfl (by decide) (q0 := 3) (ci := 3) rfl rfl) rfl rfl hl.1 rfl (lv_room (Nat.le_of_ble_eq_true rfl)) d_LN_writeSlots_40 ⟨Nat.zero_le _, Nat.zero_le _⟩) hP hD hS hA [3, 4, 7, 8] [0, 1, 2, 5, 6] rfl rfl (by decide) (by decide) (fun H locs hP hD hS => ?_)
        have hP : va_P (dC, dI) vwCl [(x, .inr (0, [.ref f0, .ref f1, .ref h, .ref hp, .ref hs])), (h, .inr (2, [.ref a])), (a, .inl (cI, 11, .inl (nf b))), (hp, .inr (3, [.ref ap])), (ap, .inl (cI, 32, .inl (nf (bdN v n (i + 1) (suN (stN B (enN b) (q * 32) 32) (q * 32) 11) (wpB v n (suN (stN B (enN b) (q * 32) 32) (q * 32) 11) pb i))))), (hs, .inr (4, [.ref as])), (as, .inl (cI, 1024, .inl (nf (wsB v n (suN (stN B (enN b) (q * 32) 32) (q * 32) 11) q pb (stN B (enN b) (q * 32) 32) i)))), (hr, .inr (1, [.ref ar, .int (nI n)])), (ar, .inl (cI, 255, .inl (nf v)))] H := hP.sub [0, 1, 2, 5, 6, 3, 4, 7, 8] rfl
        have hD : va_D A [(x, .inr (0, [.ref f0, .ref f1, .ref h, .ref hp, .ref hs])), (h, .inr (2, [.ref a])), (a, .inl (cI, 11, .inl (nf b))), (hp, .inr (3, [.ref ap])), (ap, .inl (cI, 32, .inl (nf (bdN v n (i + 1) (suN (stN B (enN b) (q * 32) 32) (q * 32) 11) (wpB v n (suN (stN B (enN b) (q * 32) 32) (q * 32) 11) pb i))))), (hs, .inr (4, [.ref as])), (as, .inl (cI, 1024, .inl (nf (wsB v n (suN (stN B (enN b) (q * 32) 32) (q * 32) 11) q pb (stN B (enN b) (q * 32) 32) i)))), (hr, .inr (1, [.ref ar, .int (nI n)])), (ar, .inl (cI, 255, .inl (nf v)))] := hD.sub [0, 1, 2, 5, 6, 3, 4, 7, 8] (by decide) rfl
        refine lv_aload_n hx hb d_LN_writeSlots_43 rfl (lv_at hl 0 rfl) ?_
        refine va_get (D := (dC, dI)) (ci := 0) (v := .ref hp) (C := "LongNames") (T := F_LN) (N := 5) hx hb hts (iw_LN _) hown hK hP 0 rfl rfl 3 (by decide) (hts _ (List.mem_cons_of_mem _ k_94)) (fun _ h9 => h9) rfl d_LN_writeSlots_44 ?_
        refine lv_aload_n hx hb d_LN_writeSlots_47 rfl (lv_at hl 0 rfl) ?_
        refine va_get (D := (dC, dI)) (ci := 0) (v := .ref hs) (C := "LongNames") (T := F_LN) (N := 5) hx hb hts (iw_LN _) hown hK hP 0 rfl rfl 4 (by decide) (hts _ (List.mem_cons_of_mem _ k_95)) (fun _ h9 => h9) rfl d_LN_writeSlots_48 ?_
        refine lv_iload_n hx hb d_LN_writeSlots_51 rfl (lv_at hl 2 rfl) ?_
        refine lv_iload hx hb d_LN_writeSlots_52 (lv_at hl 5 rfl) ?_
        refine lv_isub hx hb d_LN_writeSlots_54 ?_
        refine mk_ti (y := nI (q - (i + 1))) (pk_sub (by omega)) ?_
        refine mk_w0 (wr := [(x, .inr (0, [.ref f0, .ref f1, .ref h, .ref hp, .ref hs])), (h, .inr (2, [.ref a])), (a, .inl (cI, 11, .inl (nf b))), (hr, .inr (1, [.ref ar, .int (nI n)])), (ar, .inl (cI, 255, .inl (nf v)))]) (W.runV (As := [.ref hs, .int (nI (q - (i + 1)))]) (rest := []) S ((c_Pt_store l dC dI cI hp ap (bdN v n (i + 1) (suN (stN B (enN b) (q * 32) 32) (q * 32) 11) (wpB v n (suN (stN B (enN b) (q * 32) 32) (q * 32) 11) pb i)) hs as (wsB v n (suN (stN B (enN b) (q * 32) 32) (q * 32) 11) q pb (stN B (enN b) (q * 32) 32) i) (q - (i + 1)) (by first | assumption | omega) (by first | assumption | omega)) _) (gV 2 hts k_440 k_441 k_442 k_27 k_443 (by decide +kernel) ⟨Nat.le_of_ble_eq_true rfl, Nat.le_of_ble_eq_true rfl⟩) (mk_vM hP hD hK hT hS hA [3, 4, 5, 6] rfl rfl (by decide) (q0 := 3) (ci := 3) rfl rfl) rfl rfl hl.1 rfl (lv_room (Nat.le_of_ble_eq_true rfl)) d_LN_writeSlots_55 ⟨Nat.zero_le _, Nat.zero_le _⟩) hP hD hS hA [3, 4, 5, 6] [0, 1, 2, 7, 8] rfl rfl (by decide) (by decide) (fun H locs hP hD hS => ?_)
        have hP : va_P (dC, dI) vwCl [(x, .inr (0, [.ref f0, .ref f1, .ref h, .ref hp, .ref hs])), (h, .inr (2, [.ref a])), (a, .inl (cI, 11, .inl (nf b))), (hp, .inr (3, [.ref ap])), (ap, .inl (cI, 32, .inl (nf (bdN v n (i + 1) (suN (stN B (enN b) (q * 32) 32) (q * 32) 11) (wpB v n (suN (stN B (enN b) (q * 32) 32) (q * 32) 11) pb i))))), (hs, .inr (4, [.ref as])), (as, .inl (cI, 1024, .inl (nf (stN (wsB v n (suN (stN B (enN b) (q * 32) 32) (q * 32) 11) q pb (stN B (enN b) (q * 32) 32) i) (moN (bdN v n (i + 1) (suN (stN B (enN b) (q * 32) 32) (q * 32) 11) (wpB v n (suN (stN B (enN b) (q * 32) 32) (q * 32) 11) pb i))) ((q - (i + 1)) * 32) 32)))), (hr, .inr (1, [.ref ar, .int (nI n)])), (ar, .inl (cI, 255, .inl (nf v)))] H := hP.sub [0, 1, 2, 5, 6, 7, 8, 3, 4] rfl
        have hD : va_D A [(x, .inr (0, [.ref f0, .ref f1, .ref h, .ref hp, .ref hs])), (h, .inr (2, [.ref a])), (a, .inl (cI, 11, .inl (nf b))), (hp, .inr (3, [.ref ap])), (ap, .inl (cI, 32, .inl (nf (bdN v n (i + 1) (suN (stN B (enN b) (q * 32) 32) (q * 32) 11) (wpB v n (suN (stN B (enN b) (q * 32) 32) (q * 32) 11) pb i))))), (hs, .inr (4, [.ref as])), (as, .inl (cI, 1024, .inl (nf (stN (wsB v n (suN (stN B (enN b) (q * 32) 32) (q * 32) 11) q pb (stN B (enN b) (q * 32) 32) i) (moN (bdN v n (i + 1) (suN (stN B (enN b) (q * 32) 32) (q * 32) 11) (wpB v n (suN (stN B (enN b) (q * 32) 32) (q * 32) 11) pb i))) ((q - (i + 1)) * 32) 32)))), (hr, .inr (1, [.ref ar, .int (nI n)])), (ar, .inl (cI, 255, .inl (nf v)))] := hD.sub [0, 1, 2, 5, 6, 7, 8, 3, 4] (by decide) rfl
        refine lv_iinc (v := nI (i + 1 + 1)) (lv' := [(5, .int (nI (i + 1 + 1))), (0, .ref x), (1, .ref hr), (2, .int (nI q)), (3, .int (nI p9)), (4, .int (nI (suN (stN B (enN b) (q * 32) 32) (q * 32) 11)))]) hx hb d_LN_writeSlots_58 hl (k := 5) rfl (mk_i1 (i + 1)) (by decide) rfl (fun ls hl => ?_)
        refine lv_goto (tgt := 25) hx hb d_LN_writeSlots_61 (by decide) ?_
        have hl : lv_has ls 6 [(0, .ref x), (1, .ref hr), (2, .int (nI q)), (3, .int (nI p9)), (4, .int (nI (suN (stN B (enN b) (q * 32) 32) (q * 32) 11))), (5, .int (nI (i + 1 + 1)))] := lv_sub hl [1, 2, 3, 4, 5, 0] rfl
        have hl9 : ([(0, .ref x), (1, .ref hr), (2, .int (nI q)), (3, .int (nI p9)), (4, .int (nI (suN (stN B (enN b) (q * 32) 32) (q * 32) 11))), (5, .int (nI (i + 1 + 1)))] : List (Nat × Value)) = [(0, .ref x), (1, .ref hr), (2, .int (nI q)), (3, .int (nI p9)), (4, .int (nI (suN (stN B (enN b) (q * 32) 32) (q * 32) 11))), (5, .int (nI ((i + 1) + 1)))] := by rfl
        rw [hl9] at hl
        have hw9 : ([(x, .inr (0, [.ref f0, .ref f1, .ref h, .ref hp, .ref hs])), (h, .inr (2, [.ref a])), (a, .inl (cI, 11, .inl (nf b))), (hp, .inr (3, [.ref ap])), (ap, .inl (cI, 32, .inl (nf (bdN v n (i + 1) (suN (stN B (enN b) (q * 32) 32) (q * 32) 11) (wpB v n (suN (stN B (enN b) (q * 32) 32) (q * 32) 11) pb i))))), (hs, .inr (4, [.ref as])), (as, .inl (cI, 1024, .inl (nf (stN (wsB v n (suN (stN B (enN b) (q * 32) 32) (q * 32) 11) q pb (stN B (enN b) (q * 32) 32) i) (moN (bdN v n (i + 1) (suN (stN B (enN b) (q * 32) 32) (q * 32) 11) (wpB v n (suN (stN B (enN b) (q * 32) 32) (q * 32) 11) pb i))) ((q - (i + 1)) * 32) 32)))), (hr, .inr (1, [.ref ar, .int (nI n)])), (ar, .inl (cI, 255, .inl (nf v)))] : va_W) = [(x, .inr (0, [.ref f0, .ref f1, .ref h, .ref hp, .ref hs])), (h, .inr (2, [.ref a])), (a, .inl (cI, 11, .inl (nf b))), (hp, .inr (3, [.ref ap])), (ap, .inl (cI, 32, .inl (nf (wpB v n (suN (stN B (enN b) (q * 32) 32) (q * 32) 11) pb (i + 1))))), (hs, .inr (4, [.ref as])), (as, .inl (cI, 1024, .inl (nf (wsB v n (suN (stN B (enN b) (q * 32) 32) (q * 32) 11) q pb (stN B (enN b) (q * 32) 32) (i + 1))))), (hr, .inr (1, [.ref ar, .int (nI n)])), (ar, .inl (cI, 255, .inl (nf v)))] := by rfl
        rw [hw9] at hP hD
        exact ih25 (i + 1) _ _ _ (by omega) hP hD hS hl
  have hl : lv_has ls 6 [(0, .ref x), (1, .ref hr), (2, .int (nI q)), (3, .int (nI p9)), (4, .int (nI (suN (stN B (enN b) (q * 32) 32) (q * 32) 11))), (5, .int (nI 1))] := lv_sub hl [2, 3, 4, 5, 1, 0] rfl
  have hl9 : ([(0, .ref x), (1, .ref hr), (2, .int (nI q)), (3, .int (nI p9)), (4, .int (nI (suN (stN B (enN b) (q * 32) 32) (q * 32) 11))), (5, .int (nI 1))] : List (Nat × Value)) = [(0, .ref x), (1, .ref hr), (2, .int (nI q)), (3, .int (nI p9)), (4, .int (nI (suN (stN B (enN b) (q * 32) 32) (q * 32) 11))), (5, .int (nI (0 + 1)))] := by rfl
  rw [hl9] at hl
  have hw9 : ([(x, .inr (0, [.ref f0, .ref f1, .ref h, .ref hp, .ref hs])), (h, .inr (2, [.ref a])), (a, .inl (cI, 11, .inl (nf b))), (hp, .inr (3, [.ref ap])), (ap, .inl (cI, 32, .inl (nf pb))), (hs, .inr (4, [.ref as])), (as, .inl (cI, 1024, .inl (nf (stN B (enN b) (q * 32) 32)))), (hr, .inr (1, [.ref ar, .int (nI n)])), (ar, .inl (cI, 255, .inl (nf v)))] : va_W) = [(x, .inr (0, [.ref f0, .ref f1, .ref h, .ref hp, .ref hs])), (h, .inr (2, [.ref a])), (a, .inl (cI, 11, .inl (nf b))), (hp, .inr (3, [.ref ap])), (ap, .inl (cI, 32, .inl (nf (wpB v n (suN (stN B (enN b) (q * 32) 32) (q * 32) 11) pb 0)))), (hs, .inr (4, [.ref as])), (as, .inl (cI, 1024, .inl (nf (wsB v n (suN (stN B (enN b) (q * 32) 32) (q * 32) 11) q pb (stN B (enN b) (q * 32) 32) 0)))), (hr, .inr (1, [.ref ar, .int (nI n)])), (ar, .inl (cI, 255, .inl (nf v)))] := by rfl
  rw [hw9] at hP hD
  exact lp25 p9 0 _ _ _ (by omega) hP hD hS hl

set_option maxHeartbeats 4000000 in
set_option maxRecDepth 100000 in
theorem c_LN_co (l : Launch) (dC : Nat → ClassId) (dI : Nat → Nat → Nat) (cI : ClassId) (x f0 f1 h hp hs as : Nat) (B : Nat → Nat) (hr ar : Nat) (v : Nat → Nat) (q p9 : Nat) (hB : ∀ j, B j < 256) (hq : q < 32) (hp9 : p9 ≤ q) (hp20 : p9 ≤ 20) : mM l y_LN_collectUnits w_LN_collectUnits ({ frames := 4, cells := 0, slots := 0, locals := 86 } : Room) [.ref x, .ref hr, .int (nI q), .int (nI p9)] (dC, dI) vwCl [(cI, .int)] [(x, .inr (0, [.ref f0, .ref f1, .ref h, .ref hp, .ref hs])), (hs, .inr (4, [.ref as])), (as, .inl (cI, 1024, .inl (nf B))), (hr, .inr (1, [.ref ar, .int (nI 0)])), (ar, .inl (cI, 255, .inl (nf v)))] none [(x, .inr (0, [.ref f0, .ref f1, .ref h, .ref hp, .ref hs])), (hs, .inr (4, [.ref as])), (as, .inl (cI, 1024, .inl (nf B))), (hr, .inr (1, [.ref ar, .int (nI (coC (unN B q) (13 * p9) 0))])), (ar, .inl (cI, 255, .inl (nf (coV v (unN B q) (coC (unN B q) (13 * p9) 0)))))] := by
  refine mk_Mv (cc := b_LN_collectUnits) (maxL := 7) (by decide) rfl (Nat.le_of_ble_eq_true rfl) ?_
  intro p e s m below meth c Q A ls S hP hK hT hS hl hD hA hret
  obtain ⟨hx, hb, hml, hown, hts⟩ := id S
  have hl : lv_has ls 7 [(0, .ref x), (1, .ref hr), (2, .int (nI q)), (3, .int (nI p9))] := hl
  refine lv_iconst (v := nI 1) hx hb d_LN_collectUnits_0 (by decide) ?_
  refine lv_istore (lv' := [(4, .int (nI 1)), (0, .ref x), (1, .ref hr), (2, .int (nI q)), (3, .int (nI p9))]) hx hb d_LN_collectUnits_1 hl (by decide) rfl (fun ls hl => ?_)
  have lp3 : ∀ (k : Nat) (io : Nat) (H : Heap) (locs : List Loc) (ls : Array Slot), (io + k = p9) → (13 * io ≤ 255 ∨ k = 0) → (coC (unN B q) (13 * p9) 0 = coC (unN B q) (13 * k) (13 * io)) → va_P (dC, dI) vwCl [(x, .inr (0, [.ref f0, .ref f1, .ref h, .ref hp, .ref hs])), (hs, .inr (4, [.ref as])), (as, .inl (cI, 1024, .inl (nf B))), (hr, .inr (1, [.ref ar, .int (nI (13 * io))])), (ar, .inl (cI, 255, .inl (nf (coV v (unN B q) (13 * io)))))] H → va_D A [(x, .inr (0, [.ref f0, .ref f1, .ref h, .ref hp, .ref hs])), (hs, .inr (4, [.ref as])), (as, .inl (cI, 1024, .inl (nf B))), (hr, .inr (1, [.ref ar, .int (nI (13 * io))])), (ar, .inl (cI, 255, .inl (nf (coV v (unN B q) (13 * io)))))] → va_S A s.heap H locs → lv_has ls 7 [(0, .ref x), (1, .ref hr), (2, .int (nI q)), (3, .int (nI p9)), (4, .int (nI (io + 1)))] → W p l e ({ frames := 4, cells := 0, slots := 0, locals := 86 } : Room) s m ([.ref x, .ref hr, .int (nI q), .int (nI p9)] : List Value).toArray below meth c H locs 0 0 Q (F0 m 3 ls []) := by
    intro k
    induction k with
    | zero =>
      intro io H locs ls hi ht9 hE hP hD hS hl
      refine lv_iload hx hb d_LN_collectUnits_3 (lv_at hl 4 rfl) ?_
      refine lv_iload_n hx hb d_LN_collectUnits_5 rfl (lv_at hl 3 rfl) ?_
      refine lv_icmp_gt (tgt := 61) hx hb d_LN_collectUnits_6 (by decide) (fun c_1 => ?_) (fun c_1 => ?_)
      · skip
        rw [nI_ltI (by omega) (by omega)] at c_1
        have hw9 : ([(x, .inr (0, [.ref f0, .ref f1, .ref h, .ref hp, .ref hs])), (hs, .inr (4, [.ref as])), (as, .inl (cI, 1024, .inl (nf B))), (hr, .inr (1, [.ref ar, .int (nI (13 * io))])), (ar, .inl (cI, 255, .inl (nf (coV v (unN B q) (13 * io)))))] : va_W) = [(x, .inr (0, [.ref f0, .ref f1, .ref h, .ref hp, .ref hs])), (hs, .inr (4, [.ref as])), (as, .inl (cI, 1024, .inl (nf B))), (hr, .inr (1, [.ref ar, .int (nI (coC (unN B q) (13 * p9) 0))])), (ar, .inl (cI, 255, .inl (nf (coV v (unN B q) (coC (unN B q) (13 * p9) 0)))))] := by rw [show coC (unN B q) (13 * p9) 0 = 13 * io from hE]
        rw [hw9] at hP hD
        exact hret _ _ _ _ d_LN_collectUnits_61 hP hD hS
      · skip
        rw [nI_ltI (by omega) (by omega)] at c_1
        first | omega | contradiction
    | succ k ih3 =>
      intro io H locs ls hi ht9 hE hP hD hS hl
      refine lv_iload hx hb d_LN_collectUnits_3 (lv_at hl 4 rfl) ?_
      refine lv_iload_n hx hb d_LN_collectUnits_5 rfl (lv_at hl 3 rfl) ?_
      refine lv_icmp_gt (tgt := 61) hx hb d_LN_collectUnits_6 (by decide) (fun c_2 => ?_) (fun c_2 => ?_)
      · skip
        rw [nI_ltI (by omega) (by omega)] at c_2
        first | omega | contradiction
      · skip
        rw [nI_ltI (by omega) (by omega)] at c_2
        refine lv_iconst (v := nI 0) hx hb d_LN_collectUnits_9 (by decide) ?_
        refine lv_istore (lv' := [(5, .int (nI 0)), (0, .ref x), (1, .ref hr), (2, .int (nI q)), (3, .int (nI p9)), (4, .int (nI (io + 1)))]) hx hb d_LN_collectUnits_10 hl (by decide) rfl (fun ls hl => ?_)
        have lp12 : ∀ (k2 : Nat) (i : Nat) (H : Heap) (locs : List Loc) (ls : Array Slot), (i + k2 = 13) → (13 * io + i ≤ 255) → (coC (unN B q) (13 * p9) 0 = coC (unN B q) (13 * k + k2) (13 * io + i)) → va_P (dC, dI) vwCl [(x, .inr (0, [.ref f0, .ref f1, .ref h, .ref hp, .ref hs])), (hs, .inr (4, [.ref as])), (as, .inl (cI, 1024, .inl (nf B))), (hr, .inr (1, [.ref ar, .int (nI (13 * io + i))])), (ar, .inl (cI, 255, .inl (nf (coV v (unN B q) (13 * io + i)))))] H → va_D A [(x, .inr (0, [.ref f0, .ref f1, .ref h, .ref hp, .ref hs])), (hs, .inr (4, [.ref as])), (as, .inl (cI, 1024, .inl (nf B))), (hr, .inr (1, [.ref ar, .int (nI (13 * io + i))])), (ar, .inl (cI, 255, .inl (nf (coV v (unN B q) (13 * io + i)))))] → va_S A s.heap H locs → lv_has ls 7 [(0, .ref x), (1, .ref hr), (2, .int (nI q)), (3, .int (nI p9)), (4, .int (nI (io + 1))), (5, .int (nI i))] → W p l e ({ frames := 4, cells := 0, slots := 0, locals := 86 } : Room) s m ([.ref x, .ref hr, .int (nI q), .int (nI p9)] : List Value).toArray below meth c H locs 0 0 Q (F0 m 12 ls []) := by
          intro k2
          induction k2 with
          | zero =>
            intro i H locs ls hi2 ht2 hE2 hP hD hS hl
            have hio : 13 * io + i = 13 * (io + 1) := by omega
            refine lv_iload hx hb d_LN_collectUnits_12 (lv_at hl 5 rfl) ?_
            refine lv_bipush (v := nI 13) hx hb d_LN_collectUnits_14 (by decide) ?_
            refine lv_icmp_ge (tgt := 55) hx hb d_LN_collectUnits_16 (by decide) (fun c_3 => ?_) (fun c_3 => ?_)
            · skip
              rw [nI_leI (by omega) (by omega)] at c_3
              refine lv_iinc (v := nI (io + 1 + 1)) (lv' := [(4, .int (nI (io + 1 + 1))), (0, .ref x), (1, .ref hr), (2, .int (nI q)), (3, .int (nI p9)), (5, .int (nI i))]) hx hb d_LN_collectUnits_55 hl (k := 4) rfl (mk_i1 (io + 1)) (by decide) rfl (fun ls hl => ?_)
              refine lv_goto (tgt := 3) hx hb d_LN_collectUnits_58 (by decide) ?_
              have hl : lv_has ls 7 [(0, .ref x), (1, .ref hr), (2, .int (nI q)), (3, .int (nI p9)), (4, .int (nI (io + 1 + 1)))] := lv_sub hl [1, 2, 3, 4, 0] rfl
              have hl9 : ([(0, .ref x), (1, .ref hr), (2, .int (nI q)), (3, .int (nI p9)), (4, .int (nI (io + 1 + 1)))] : List (Nat × Value)) = [(0, .ref x), (1, .ref hr), (2, .int (nI q)), (3, .int (nI p9)), (4, .int (nI ((io + 1) + 1)))] := by rfl
              rw [hl9] at hl
              have hw9 : ([(x, .inr (0, [.ref f0, .ref f1, .ref h, .ref hp, .ref hs])), (hs, .inr (4, [.ref as])), (as, .inl (cI, 1024, .inl (nf B))), (hr, .inr (1, [.ref ar, .int (nI (13 * io + i))])), (ar, .inl (cI, 255, .inl (nf (coV v (unN B q) (13 * io + i)))))] : va_W) = [(x, .inr (0, [.ref f0, .ref f1, .ref h, .ref hp, .ref hs])), (hs, .inr (4, [.ref as])), (as, .inl (cI, 1024, .inl (nf B))), (hr, .inr (1, [.ref ar, .int (nI (13 * (io + 1)))])), (ar, .inl (cI, 255, .inl (nf (coV v (unN B q) (13 * (io + 1))))))] := by rw [hio]
              rw [hw9] at hP hD
              exact ih3 (io + 1) _ _ _ (by omega) (Or.inl (by omega)) (by rw [hE2, hio]; rfl) hP hD hS hl
            · skip
              rw [nI_leI (by omega) (by omega)] at c_3
              first | omega | contradiction
          | succ k2 ih12 =>
            intro i H locs ls hi2 ht2 hE2 hP hD hS hl
            refine lv_iload hx hb d_LN_collectUnits_12 (lv_at hl 5 rfl) ?_
            refine lv_bipush (v := nI 13) hx hb d_LN_collectUnits_14 (by decide) ?_
            refine lv_icmp_ge (tgt := 55) hx hb d_LN_collectUnits_16 (by decide) (fun c_4 => ?_) (fun c_4 => ?_)
            · skip
              rw [nI_leI (by omega) (by omega)] at c_4
              first | omega | contradiction
            · skip
              rw [nI_leI (by omega) (by omega)] at c_4
              refine lv_aload_n hx hb d_LN_collectUnits_19 rfl (lv_at hl 0 rfl) ?_
              refine va_get (D := (dC, dI)) (ci := 0) (v := .ref hs) (C := "LongNames") (T := F_LN) (N := 5) hx hb hts (iw_LN _) hown hK hP 0 rfl rfl 4 (by decide) (hts _ (List.mem_cons_of_mem _ k_95)) (fun _ h9 => h9) rfl d_LN_collectUnits_20 ?_
              refine lv_iload_n hx hb d_LN_collectUnits_23 rfl (lv_at hl 2 rfl) ?_
              refine lv_iload hx hb d_LN_collectUnits_24 (lv_at hl 4 rfl) ?_
              refine lv_isub hx hb d_LN_collectUnits_26 ?_
              refine mk_ti (y := nI (q - (io + 1))) (pk_sub (by omega)) ?_
              refine lv_iload hx hb d_LN_collectUnits_27 (lv_at hl 5 rfl) ?_
              refine mk_r1 (W.runS (As := [.ref hs, .int (nI (q - (io + 1))), .int (nI i)]) (rest := []) S (c_Pt_unit l dC dI cI hs as B (q - (io + 1)) i (by first | assumption | omega) (by first | assumption | omega) (by first | assumption | omega)) (gS 3 hts k_507 k_508 k_27 k_509 (by decide +kernel) ⟨Nat.le_of_ble_eq_true rfl, Nat.le_of_ble_eq_true rfl⟩) (mk_sR hP hK hT hS [1, 2] rfl) rfl rfl hl.1 rfl (lv_room (Nat.le_of_ble_eq_true rfl)) d_LN_collectUnits_29 ⟨Nat.zero_le _, Nat.zero_le _⟩) ?_
              refine mk_ti (y := nI (unN B q (13 * io + i))) (by rw [unN, show (13 * io + i) / 13 = io by omega, show (13 * io + i) % 13 = i by omega]) ?_
              have hu9 := unN_lt q (13 * io + i) hB
              have b_5 := uiN_lt (q - (io + 1)) i (show ∀ j9, B j9 < 256 by assumption)
              refine lv_istore (lv' := [(6, .int (nI (unN B q (13 * io + i)))), (0, .ref x), (1, .ref hr), (2, .int (nI q)), (3, .int (nI p9)), (4, .int (nI (io + 1))), (5, .int (nI i))]) hx hb d_LN_collectUnits_32 hl (by decide) rfl (fun ls hl => ?_)
              refine lv_iload hx hb d_LN_collectUnits_34 (lv_at hl 0 rfl) ?_
              refine lv_if_le (tgt := 48) hx hb d_LN_collectUnits_36 (by decide) (fun c_6 => ?_) (fun c_6 => ?_)
              · skip
                rw [mk_cle (by omega)] at c_6
                have hw9 : ([(x, .inr (0, [.ref f0, .ref f1, .ref h, .ref hp, .ref hs])), (hs, .inr (4, [.ref as])), (as, .inl (cI, 1024, .inl (nf B))), (hr, .inr (1, [.ref ar, .int (nI (13 * io + i))])), (ar, .inl (cI, 255, .inl (nf (coV v (unN B q) (13 * io + i)))))] : va_W) = [(x, .inr (0, [.ref f0, .ref f1, .ref h, .ref hp, .ref hs])), (hs, .inr (4, [.ref as])), (as, .inl (cI, 1024, .inl (nf B))), (hr, .inr (1, [.ref ar, .int (nI (coC (unN B q) (13 * p9) 0))])), (ar, .inl (cI, 255, .inl (nf (coV v (unN B q) (coC (unN B q) (13 * p9) 0)))))] := by rw [show coC (unN B q) (13 * p9) 0 = 13 * io + i from hE2.trans (show coC (unN B q) ((13 * k + k2) + 1) (13 * io + i) = 13 * io + i from by rw [coC, if_pos (by omega)])]
                rw [hw9] at hP hD
                exact hret _ _ _ _ d_LN_collectUnits_48 hP hD hS
              · skip
                rw [mk_cle (by omega)] at c_6
                refine lv_aload_n hx hb d_LN_collectUnits_39 rfl (lv_at hl 2 rfl) ?_
                refine lv_iload hx hb d_LN_collectUnits_40 (lv_at hl 0 rfl) ?_
                by_cases c_7 : 13 * io + i = 255
                · skip
                  refine mk_w1 (wr := [(x, .inr (0, [.ref f0, .ref f1, .ref h, .ref hp, .ref hs])), (hs, .inr (4, [.ref as])), (as, .inl (cI, 1024, .inl (nf B)))]) (W.runV (As := [.int (nI (unN B q (13 * io + i)))]) (rest := []) S ((c_Ro_full l dC dI cI hr ar (13 * io + i) (coV v (unN B q) (13 * io + i)) (nI (unN B q (13 * io + i))) (by first | assumption | omega)) _) (gV 1 hts k_116 k_117 k_118 k_25 k_119 (by decide +kernel) ⟨Nat.le_of_ble_eq_true rfl, Nat.le_of_ble_eq_true rfl⟩) (mk_vM hP hD hK hT hS hA [3, 4] rfl rfl (by decide) (q0 := 3) (ci := 1) rfl rfl) rfl rfl hl.1 rfl (lv_room (Nat.le_of_ble_eq_true rfl)) d_LN_collectUnits_42 ⟨Nat.zero_le _, Nat.zero_le _⟩) hP hD hS hA [3, 4] [0, 1, 2] rfl rfl (by decide) (by decide) (fun H locs hP hD hS => ?_)
                  have hP : va_P (dC, dI) vwCl [(x, .inr (0, [.ref f0, .ref f1, .ref h, .ref hp, .ref hs])), (hs, .inr (4, [.ref as])), (as, .inl (cI, 1024, .inl (nf B))), (hr, .inr (1, [.ref ar, .int (nI (13 * io + i))])), (ar, .inl (cI, 255, .inl (nf (coV v (unN B q) (13 * io + i)))))] H := hP.sub [0, 1, 2, 3, 4] rfl
                  have hD : va_D A [(x, .inr (0, [.ref f0, .ref f1, .ref h, .ref hp, .ref hs])), (hs, .inr (4, [.ref as])), (as, .inl (cI, 1024, .inl (nf B))), (hr, .inr (1, [.ref ar, .int (nI (13 * io + i))])), (ar, .inl (cI, 255, .inl (nf (coV v (unN B q) (13 * io + i)))))] := hD.sub [0, 1, 2, 3, 4] (by decide) rfl
                  refine lv_if_ne (tgt := 49) hx hb d_LN_collectUnits_45 (by decide) (fun c_8 => ?_) (fun c_8 => ?_)
                  · skip
                    rw [mk_ceq (by omega)] at c_8
                    first | omega | contradiction
                  · skip
                    rw [mk_ceq (by omega)] at c_8
                    have hw9 : ([(x, .inr (0, [.ref f0, .ref f1, .ref h, .ref hp, .ref hs])), (hs, .inr (4, [.ref as])), (as, .inl (cI, 1024, .inl (nf B))), (hr, .inr (1, [.ref ar, .int (nI (13 * io + i))])), (ar, .inl (cI, 255, .inl (nf (coV v (unN B q) (13 * io + i)))))] : va_W) = [(x, .inr (0, [.ref f0, .ref f1, .ref h, .ref hp, .ref hs])), (hs, .inr (4, [.ref as])), (as, .inl (cI, 1024, .inl (nf B))), (hr, .inr (1, [.ref ar, .int (nI (coC (unN B q) (13 * p9) 0))])), (ar, .inl (cI, 255, .inl (nf (coV v (unN B q) (coC (unN B q) (13 * p9) 0)))))] := by rw [show coC (unN B q) (13 * p9) 0 = 13 * io + i from hE2.trans (show coC (unN B q) ((13 * k + k2) + 1) (13 * io + i) = 13 * io + i from by rw [coC, if_pos (by omega)])]
                    rw [hw9] at hP hD
                    exact hret _ _ _ _ d_LN_collectUnits_48 hP hD hS
                · skip
                  refine mk_w1 (wr := [(x, .inr (0, [.ref f0, .ref f1, .ref h, .ref hp, .ref hs])), (hs, .inr (4, [.ref as])), (as, .inl (cI, 1024, .inl (nf B)))]) (W.runV (As := [.int (nI (unN B q (13 * io + i)))]) (rest := []) S ((c_Ro_app l dC dI cI hr ar (13 * io + i) (coV v (unN B q) (13 * io + i)) (unN B q (13 * io + i)) (by first | assumption | omega)) _) (gV 1 hts k_116 k_117 k_118 k_25 k_119 (by decide +kernel) ⟨Nat.le_of_ble_eq_true rfl, Nat.le_of_ble_eq_true rfl⟩) (mk_vM hP hD hK hT hS hA [3, 4] rfl rfl (by decide) (q0 := 3) (ci := 1) rfl rfl) rfl rfl hl.1 rfl (lv_room (Nat.le_of_ble_eq_true rfl)) d_LN_collectUnits_42 ⟨Nat.zero_le _, Nat.zero_le _⟩) hP hD hS hA [3, 4] [0, 1, 2] rfl rfl (by decide) (by decide) (fun H locs hP hD hS => ?_)
                  have hP : va_P (dC, dI) vwCl [(x, .inr (0, [.ref f0, .ref f1, .ref h, .ref hp, .ref hs])), (hs, .inr (4, [.ref as])), (as, .inl (cI, 1024, .inl (nf B))), (hr, .inr (1, [.ref ar, .int (nI ((13 * io + i) + 1))])), (ar, .inl (cI, 255, .inl (nf (uN (coV v (unN B q) (13 * io + i)) (13 * io + i) (unN B q (13 * io + i))))))] H := hP.sub [0, 1, 2, 3, 4] rfl
                  have hD : va_D A [(x, .inr (0, [.ref f0, .ref f1, .ref h, .ref hp, .ref hs])), (hs, .inr (4, [.ref as])), (as, .inl (cI, 1024, .inl (nf B))), (hr, .inr (1, [.ref ar, .int (nI ((13 * io + i) + 1))])), (ar, .inl (cI, 255, .inl (nf (uN (coV v (unN B q) (13 * io + i)) (13 * io + i) (unN B q (13 * io + i))))))] := hD.sub [0, 1, 2, 3, 4] (by decide) rfl
                  refine lv_if_ne (tgt := 49) hx hb d_LN_collectUnits_45 (by decide) (fun c_9 => ?_) (fun c_9 => ?_)
                  · skip
                    rw [mk_ceq (by omega)] at c_9
                    refine lv_iinc (v := nI (i + 1)) (lv' := [(5, .int (nI (i + 1))), (6, .int (nI (unN B q (13 * io + i)))), (0, .ref x), (1, .ref hr), (2, .int (nI q)), (3, .int (nI p9)), (4, .int (nI (io + 1)))]) hx hb d_LN_collectUnits_49 hl (k := 6) rfl (mk_i1 i) (by decide) rfl (fun ls hl => ?_)
                    refine lv_goto (tgt := 12) hx hb d_LN_collectUnits_52 (by decide) ?_
                    have hl : lv_has ls 7 [(0, .ref x), (1, .ref hr), (2, .int (nI q)), (3, .int (nI p9)), (4, .int (nI (io + 1))), (5, .int (nI (i + 1)))] := lv_sub hl [2, 3, 4, 5, 6, 0] rfl
                    have hw9 : ([(x, .inr (0, [.ref f0, .ref f1, .ref h, .ref hp, .ref hs])), (hs, .inr (4, [.ref as])), (as, .inl (cI, 1024, .inl (nf B))), (hr, .inr (1, [.ref ar, .int (nI ((13 * io + i) + 1))])), (ar, .inl (cI, 255, .inl (nf (uN (coV v (unN B q) (13 * io + i)) (13 * io + i) (unN B q (13 * io + i))))))] : va_W) = [(x, .inr (0, [.ref f0, .ref f1, .ref h, .ref hp, .ref hs])), (hs, .inr (4, [.ref as])), (as, .inl (cI, 1024, .inl (nf B))), (hr, .inr (1, [.ref ar, .int (nI (13 * io + (i + 1)))])), (ar, .inl (cI, 255, .inl (nf (coV v (unN B q) (13 * io + (i + 1))))))] := by rw [coV_s]; rfl
                    rw [hw9] at hP hD
                    exact ih12 (i + 1) _ _ _ (by omega) (by omega) (hE2.trans (show coC (unN B q) ((13 * k + k2) + 1) (13 * io + i) = _ from by rw [coC, if_neg (by omega)]; rfl)) hP hD hS hl
                  · skip
                    rw [mk_ceq (by omega)] at c_9
                    first | omega | contradiction
        have hl : lv_has ls 7 [(0, .ref x), (1, .ref hr), (2, .int (nI q)), (3, .int (nI p9)), (4, .int (nI (io + 1))), (5, .int (nI 0))] := lv_sub hl [1, 2, 3, 4, 5, 0] rfl
        have hw9 : ([(x, .inr (0, [.ref f0, .ref f1, .ref h, .ref hp, .ref hs])), (hs, .inr (4, [.ref as])), (as, .inl (cI, 1024, .inl (nf B))), (hr, .inr (1, [.ref ar, .int (nI (13 * io))])), (ar, .inl (cI, 255, .inl (nf (coV v (unN B q) (13 * io)))))] : va_W) = [(x, .inr (0, [.ref f0, .ref f1, .ref h, .ref hp, .ref hs])), (hs, .inr (4, [.ref as])), (as, .inl (cI, 1024, .inl (nf B))), (hr, .inr (1, [.ref ar, .int (nI (13 * io + 0))])), (ar, .inl (cI, 255, .inl (nf (coV v (unN B q) (13 * io + 0)))))] := by rfl
        rw [hw9] at hP hD
        exact lp12 13 0 _ _ _ rfl (by omega) (hE.trans rfl) hP hD hS hl
  have hl : lv_has ls 7 [(0, .ref x), (1, .ref hr), (2, .int (nI q)), (3, .int (nI p9)), (4, .int (nI 1))] := lv_sub hl [1, 2, 3, 4, 0] rfl
  have hl9 : ([(0, .ref x), (1, .ref hr), (2, .int (nI q)), (3, .int (nI p9)), (4, .int (nI 1))] : List (Nat × Value)) = [(0, .ref x), (1, .ref hr), (2, .int (nI q)), (3, .int (nI p9)), (4, .int (nI (0 + 1)))] := by rfl
  rw [hl9] at hl
  have hw9 : ([(x, .inr (0, [.ref f0, .ref f1, .ref h, .ref hp, .ref hs])), (hs, .inr (4, [.ref as])), (as, .inl (cI, 1024, .inl (nf B))), (hr, .inr (1, [.ref ar, .int (nI 0)])), (ar, .inl (cI, 255, .inl (nf v)))] : va_W) = [(x, .inr (0, [.ref f0, .ref f1, .ref h, .ref hp, .ref hs])), (hs, .inr (4, [.ref as])), (as, .inl (cI, 1024, .inl (nf B))), (hr, .inr (1, [.ref ar, .int (nI (13 * 0))])), (ar, .inl (cI, 255, .inl (nf (coV v (unN B q) (13 * 0)))))] := by rw [Nat.mul_zero, coV_0]
  rw [hw9] at hP hD
  exact lp3 p9 0 _ _ _ (by omega) (Or.inl (by omega)) rfl hP hD hS hl

set_option maxHeartbeats 4000000 in
set_option maxRecDepth 100000 in
theorem c_LN_rp1 (l : Launch) (dC : Nat → ClassId) (dI : Nat → Nat → Nat) (cI : ClassId) (x f0 f1 h hp ap : Nat) (pb : Nat → Nat) (hs as : Nat) (B : Nat → Nat) (hr ar : Nat) (v : Nat → Nat) (q p9 : Nat) (hv : ∀ j, v j < 65536) (hpb : ∀ j, pb j < 65536) (hB : ∀ j, B j < 256) (hq : q < 32) (hp9 : p9 ≤ q) (hp20 : p9 ≤ 20) (h1 : nameN (coV v (unN B q) (coC (unN B q) (13 * p9) 0)) (coC (unN B q) (13 * p9) 0) = false) : mM l y_LN_readParts w_LN_readParts ({ frames := 5, cells := 0, slots := 0, locals := 112 } : Room) [.ref x, .ref hr, .int (nI q), .int (nI p9)] (dC, dI) vwCl [(cI, .int)] [(x, .inr (0, [.ref f0, .ref f1, .ref h, .ref hp, .ref hs])), (hp, .inr (3, [.ref ap])), (ap, .inl (cI, 32, .inl (nf pb))), (hs, .inr (4, [.ref as])), (as, .inl (cI, 1024, .inl (nf B))), (hr, .inr (1, [.ref ar, .int (nI 0)])), (ar, .inl (cI, 255, .inl (nf v)))] (some (.int (nI 0))) [(x, .inr (0, [.ref f0, .ref f1, .ref h, .ref hp, .ref hs])), (hp, .inr (3, [.ref ap])), (ap, .inl (cI, 32, .inl (nf pb))), (hs, .inr (4, [.ref as])), (as, .inl (cI, 1024, .inl (nf B))), (hr, .inr (1, [.ref ar, .int (nI (coC (unN B q) (13 * p9) 0))])), (ar, .inl (cI, 255, .inl (nf (coV v (unN B q) (coC (unN B q) (13 * p9) 0)))))] := by
  have hc9 : coC (unN B q) (13 * p9) 0 ≤ 255 := coC_le _ _ _ (by omega)
  have hv9 : ∀ j, (coV v (unN B q) (coC (unN B q) (13 * p9) 0)) j < 65536 := coV_lt hv (fun j => unN_lt q j hB)
  have hs9 := suN_lt B (q * 32) 11
  refine mk_Mi (cc := b_LN_readParts) (maxL := 6) (by decide) rfl (Nat.le_of_ble_eq_true rfl) (rfl) ?_
  intro p e s m below meth c Q A ls S hP hK hT hS hl hD hA hret
  obtain ⟨hx, hb, hml, hown, hts⟩ := id S
  have hl : lv_has ls 6 [(0, .ref x), (1, .ref hr), (2, .int (nI q)), (3, .int (nI p9))] := hl
  refine lv_aload_n hx hb d_LN_readParts_0 rfl (lv_at hl 0 rfl) ?_
  refine lv_aload_n hx hb d_LN_readParts_1 rfl (lv_at hl 1 rfl) ?_
  refine lv_iload_n hx hb d_LN_readParts_2 rfl (lv_at hl 2 rfl) ?_
  refine lv_iload_n hx hb d_LN_readParts_3 rfl (lv_at hl 3 rfl) ?_
  refine mk_w0 (wr := [(hp, .inr (3, [.ref ap])), (ap, .inl (cI, 32, .inl (nf pb)))]) (W.runV (As := [.ref hr, .int (nI q), .int (nI p9)]) (rest := []) S ((c_LN_co l dC dI cI x f0 f1 h hp hs as B hr ar v q p9 (by first | assumption | omega) (by first | assumption | omega) (by first | assumption | omega) (by first | assumption | omega)) _) (gV 3 hts k_503 k_505 k_12 k_24 k_506 (by decide +kernel) ⟨Nat.le_of_ble_eq_true rfl, Nat.le_of_ble_eq_true rfl⟩) (mk_vM hP hD hK hT hS hA [0, 3, 4, 5, 6] rfl rfl (by decide) (q0 := 0) (ci := 0) rfl rfl) rfl rfl hl.1 rfl (lv_room (Nat.le_of_ble_eq_true rfl)) d_LN_readParts_4 ⟨Nat.zero_le _, Nat.zero_le _⟩) hP hD hS hA [0, 3, 4, 5, 6] [1, 2] rfl rfl (by decide) (by decide) (fun H locs hP hD hS => ?_)
  have hP : va_P (dC, dI) vwCl [(x, .inr (0, [.ref f0, .ref f1, .ref h, .ref hp, .ref hs])), (hp, .inr (3, [.ref ap])), (ap, .inl (cI, 32, .inl (nf pb))), (hs, .inr (4, [.ref as])), (as, .inl (cI, 1024, .inl (nf B))), (hr, .inr (1, [.ref ar, .int (nI (coC (unN B q) (13 * p9) 0))])), (ar, .inl (cI, 255, .inl (nf (coV v (unN B q) (coC (unN B q) (13 * p9) 0)))))] H := hP.sub [2, 0, 1, 3, 4, 5, 6] rfl
  have hD : va_D A [(x, .inr (0, [.ref f0, .ref f1, .ref h, .ref hp, .ref hs])), (hp, .inr (3, [.ref ap])), (ap, .inl (cI, 32, .inl (nf pb))), (hs, .inr (4, [.ref as])), (as, .inl (cI, 1024, .inl (nf B))), (hr, .inr (1, [.ref ar, .int (nI (coC (unN B q) (13 * p9) 0))])), (ar, .inl (cI, 255, .inl (nf (coV v (unN B q) (coC (unN B q) (13 * p9) 0)))))] := hD.sub [2, 0, 1, 3, 4, 5, 6] (by decide) rfl
  refine lv_aload_n hx hb d_LN_readParts_7 rfl (lv_at hl 1 rfl) ?_
  refine mk_r1 (W.runV (As := []) (rest := []) S (c_Ro_name l dC dI cI hr ar (coC (unN B q) (13 * p9) 0) (coV v (unN B q) (coC (unN B q) (13 * p9) 0)) (by first | assumption | omega) (by first | assumption | omega)) (gV 0 hts k_136 k_137 k_138 k_25 k_139 (by decide +kernel) ⟨Nat.le_of_ble_eq_true rfl, Nat.le_of_ble_eq_true rfl⟩) (mk_vR hP hK hT hS [5, 6] rfl (q0 := 5) (ci := 1) rfl rfl) rfl rfl hl.1 rfl (lv_room (Nat.le_of_ble_eq_true rfl)) d_LN_readParts_8 ⟨Nat.zero_le _, Nat.zero_le _⟩) ?_
  refine lv_if_eq (tgt := 22) hx hb d_LN_readParts_11 (by decide) (fun c_1 => ?_) (fun c_1 => ?_)
  · skip
    have c_1 := bI_0 c_1
    refine lv_iconst (v := nI 0) hx hb d_LN_readParts_22 (by decide) ?_
    exact hret _ _ _ _ d_LN_readParts_23 hP hD hS
  · skip
    have c_1 := bI_1 c_1
    rw [h1] at c_1; exact absurd c_1 (by decide)

set_option maxHeartbeats 4000000 in
set_option maxRecDepth 100000 in
theorem c_LN_rp2 (l : Launch) (dC : Nat → ClassId) (dI : Nat → Nat → Nat) (cI : ClassId) (x f0 f1 h hp ap : Nat) (pb : Nat → Nat) (hs as : Nat) (B : Nat → Nat) (hr ar : Nat) (v : Nat → Nat) (q p9 : Nat) (hv : ∀ j, v j < 65536) (hpb : ∀ j, pb j < 65536) (hB : ∀ j, B j < 256) (hq : q < 32) (hp9 : p9 ≤ q) (hp20 : p9 ≤ 20) (h1 : nameN (coV v (unN B q) (coC (unN B q) (13 * p9) 0)) (coC (unN B q) (13 * p9) 0) = true) (h2 : ¬ pnN (coC (unN B q) (13 * p9) 0) = p9) : mM l y_LN_readParts w_LN_readParts ({ frames := 5, cells := 0, slots := 0, locals := 112 } : Room) [.ref x, .ref hr, .int (nI q), .int (nI p9)] (dC, dI) vwCl [(cI, .int)] [(x, .inr (0, [.ref f0, .ref f1, .ref h, .ref hp, .ref hs])), (hp, .inr (3, [.ref ap])), (ap, .inl (cI, 32, .inl (nf pb))), (hs, .inr (4, [.ref as])), (as, .inl (cI, 1024, .inl (nf B))), (hr, .inr (1, [.ref ar, .int (nI 0)])), (ar, .inl (cI, 255, .inl (nf v)))] (some (.int (nI 0))) [(x, .inr (0, [.ref f0, .ref f1, .ref h, .ref hp, .ref hs])), (hp, .inr (3, [.ref ap])), (ap, .inl (cI, 32, .inl (nf pb))), (hs, .inr (4, [.ref as])), (as, .inl (cI, 1024, .inl (nf B))), (hr, .inr (1, [.ref ar, .int (nI (coC (unN B q) (13 * p9) 0))])), (ar, .inl (cI, 255, .inl (nf (coV v (unN B q) (coC (unN B q) (13 * p9) 0)))))] := by
  have hc9 : coC (unN B q) (13 * p9) 0 ≤ 255 := coC_le _ _ _ (by omega)
  have hv9 : ∀ j, (coV v (unN B q) (coC (unN B q) (13 * p9) 0)) j < 65536 := coV_lt hv (fun j => unN_lt q j hB)
  have hs9 := suN_lt B (q * 32) 11
  have hpn : pnN (coC (unN B q) (13 * p9) 0) ≤ 20 := by unfold pnN; omega
  refine mk_Mi (cc := b_LN_readParts) (maxL := 6) (by decide) rfl (Nat.le_of_ble_eq_true rfl) (rfl) ?_
  intro p e s m below meth c Q A ls S hP hK hT hS hl hD hA hret
  obtain ⟨hx, hb, hml, hown, hts⟩ := id S
  have hl : lv_has ls 6 [(0, .ref x), (1, .ref hr), (2, .int (nI q)), (3, .int (nI p9))] := hl
  refine lv_aload_n hx hb d_LN_readParts_0 rfl (lv_at hl 0 rfl) ?_
  refine lv_aload_n hx hb d_LN_readParts_1 rfl (lv_at hl 1 rfl) ?_
  refine lv_iload_n hx hb d_LN_readParts_2 rfl (lv_at hl 2 rfl) ?_
  refine lv_iload_n hx hb d_LN_readParts_3 rfl (lv_at hl 3 rfl) ?_
  refine mk_w0 (wr := [(hp, .inr (3, [.ref ap])), (ap, .inl (cI, 32, .inl (nf pb)))]) (W.runV (As := [.ref hr, .int (nI q), .int (nI p9)]) (rest := []) S ((c_LN_co l dC dI cI x f0 f1 h hp hs as B hr ar v q p9 (by first | assumption | omega) (by first | assumption | omega) (by first | assumption | omega) (by first | assumption | omega)) _) (gV 3 hts k_503 k_505 k_12 k_24 k_506 (by decide +kernel) ⟨Nat.le_of_ble_eq_true rfl, Nat.le_of_ble_eq_true rfl⟩) (mk_vM hP hD hK hT hS hA [0, 3, 4, 5, 6] rfl rfl (by decide) (q0 := 0) (ci := 0) rfl rfl) rfl rfl hl.1 rfl (lv_room (Nat.le_of_ble_eq_true rfl)) d_LN_readParts_4 ⟨Nat.zero_le _, Nat.zero_le _⟩) hP hD hS hA [0, 3, 4, 5, 6] [1, 2] rfl rfl (by decide) (by decide) (fun H locs hP hD hS => ?_)
  have hP : va_P (dC, dI) vwCl [(x, .inr (0, [.ref f0, .ref f1, .ref h, .ref hp, .ref hs])), (hp, .inr (3, [.ref ap])), (ap, .inl (cI, 32, .inl (nf pb))), (hs, .inr (4, [.ref as])), (as, .inl (cI, 1024, .inl (nf B))), (hr, .inr (1, [.ref ar, .int (nI (coC (unN B q) (13 * p9) 0))])), (ar, .inl (cI, 255, .inl (nf (coV v (unN B q) (coC (unN B q) (13 * p9) 0)))))] H := hP.sub [2, 0, 1, 3, 4, 5, 6] rfl
  have hD : va_D A [(x, .inr (0, [.ref f0, .ref f1, .ref h, .ref hp, .ref hs])), (hp, .inr (3, [.ref ap])), (ap, .inl (cI, 32, .inl (nf pb))), (hs, .inr (4, [.ref as])), (as, .inl (cI, 1024, .inl (nf B))), (hr, .inr (1, [.ref ar, .int (nI (coC (unN B q) (13 * p9) 0))])), (ar, .inl (cI, 255, .inl (nf (coV v (unN B q) (coC (unN B q) (13 * p9) 0)))))] := hD.sub [2, 0, 1, 3, 4, 5, 6] (by decide) rfl
  refine lv_aload_n hx hb d_LN_readParts_7 rfl (lv_at hl 1 rfl) ?_
  refine mk_r1 (W.runV (As := []) (rest := []) S (c_Ro_name l dC dI cI hr ar (coC (unN B q) (13 * p9) 0) (coV v (unN B q) (coC (unN B q) (13 * p9) 0)) (by first | assumption | omega) (by first | assumption | omega)) (gV 0 hts k_136 k_137 k_138 k_25 k_139 (by decide +kernel) ⟨Nat.le_of_ble_eq_true rfl, Nat.le_of_ble_eq_true rfl⟩) (mk_vR hP hK hT hS [5, 6] rfl (q0 := 5) (ci := 1) rfl rfl) rfl rfl hl.1 rfl (lv_room (Nat.le_of_ble_eq_true rfl)) d_LN_readParts_8 ⟨Nat.zero_le _, Nat.zero_le _⟩) ?_
  refine lv_if_eq (tgt := 22) hx hb d_LN_readParts_11 (by decide) (fun c_1 => ?_) (fun c_1 => ?_)
  · skip
    have c_1 := bI_0 c_1
    rw [h1] at c_1; exact absurd c_1 (by decide)
  · skip
    have c_1 := bI_1 c_1
    refine lv_aload_n hx hb d_LN_readParts_14 rfl (lv_at hl 1 rfl) ?_
    refine mk_r1 (W.runV (As := []) (rest := []) S (c_Ro_parts l dC dI cI hr ar (coC (unN B q) (13 * p9) 0) (coV v (unN B q) (coC (unN B q) (13 * p9) 0)) (by first | assumption | omega)) (gV 0 hts k_161 k_162 k_163 k_25 k_164 (by decide +kernel) ⟨Nat.le_of_ble_eq_true rfl, Nat.le_of_ble_eq_true rfl⟩) (mk_vR hP hK hT hS [5, 6] rfl (q0 := 5) (ci := 1) rfl rfl) rfl rfl hl.1 rfl (lv_room (Nat.le_of_ble_eq_true rfl)) d_LN_readParts_15 ⟨Nat.zero_le _, Nat.zero_le _⟩) ?_
    have b_2 := pnN_le (show (coC (unN B q) (13 * p9) 0) ≤ 255 by omega)
    refine lv_iload_n hx hb d_LN_readParts_18 rfl (lv_at hl 3 rfl) ?_
    refine lv_icmp_eq (tgt := 24) hx hb d_LN_readParts_19 (by decide) (fun c_3 => ?_) (fun c_3 => ?_)
    · skip
      rw [nI_eq (by omega) (by omega)] at c_3
      first | omega | contradiction
    · skip
      rw [nI_eq (by omega) (by omega)] at c_3
      refine lv_iconst (v := nI 0) hx hb d_LN_readParts_22 (by decide) ?_
      exact hret _ _ _ _ d_LN_readParts_23 hP hD hS

set_option maxHeartbeats 4000000 in
set_option maxRecDepth 100000 in
theorem c_LN_rp3 (l : Launch) (dC : Nat → ClassId) (dI : Nat → Nat → Nat) (cI : ClassId) (x f0 f1 h hp ap : Nat) (pb : Nat → Nat) (hs as : Nat) (B : Nat → Nat) (hr ar : Nat) (v : Nat → Nat) (q p9 : Nat) (hv : ∀ j, v j < 65536) (hpb : ∀ j, pb j < 65536) (hB : ∀ j, B j < 256) (hq : q < 32) (hp9 : p9 ≤ q) (hp20 : p9 ≤ 20) (h1 : nameN (coV v (unN B q) (coC (unN B q) (13 * p9) 0)) (coC (unN B q) (13 * p9) 0) = true) (h2 : pnN (coC (unN B q) (13 * p9) 0) = p9) : mM l y_LN_readParts w_LN_readParts ({ frames := 5, cells := 0, slots := 0, locals := 112 } : Room) [.ref x, .ref hr, .int (nI q), .int (nI p9)] (dC, dI) vwCl [(cI, .int)] [(x, .inr (0, [.ref f0, .ref f1, .ref h, .ref hp, .ref hs])), (hp, .inr (3, [.ref ap])), (ap, .inl (cI, 32, .inl (nf pb))), (hs, .inr (4, [.ref as])), (as, .inl (cI, 1024, .inl (nf B))), (hr, .inr (1, [.ref ar, .int (nI 0)])), (ar, .inl (cI, 255, .inl (nf v)))] (some (.int (bI (rpR (coV v (unN B q) (coC (unN B q) (13 * p9) 0)) (coC (unN B q) (13 * p9) 0) (suN B (q * 32) 11) q pb B p9 0)))) [(x, .inr (0, [.ref f0, .ref f1, .ref h, .ref hp, .ref hs])), (hp, .inr (3, [.ref ap])), (ap, .inl (cI, 32, .inl (nf (wpB (coV v (unN B q) (coC (unN B q) (13 * p9) 0)) (coC (unN B q) (13 * p9) 0) (suN B (q * 32) 11) pb (rpK (coV v (unN B q) (coC (unN B q) (13 * p9) 0)) (coC (unN B q) (13 * p9) 0) (suN B (q * 32) 11) q pb B p9 0))))), (hs, .inr (4, [.ref as])), (as, .inl (cI, 1024, .inl (nf B))), (hr, .inr (1, [.ref ar, .int (nI (coC (unN B q) (13 * p9) 0))])), (ar, .inl (cI, 255, .inl (nf (coV v (unN B q) (coC (unN B q) (13 * p9) 0)))))] := by
  have hc9 : coC (unN B q) (13 * p9) 0 ≤ 255 := coC_le _ _ _ (by omega)
  have hv9 : ∀ j, (coV v (unN B q) (coC (unN B q) (13 * p9) 0)) j < 65536 := coV_lt hv (fun j => unN_lt q j hB)
  have hs9 := suN_lt B (q * 32) 11
  refine mk_Mi (cc := b_LN_readParts) (maxL := 6) (by decide) rfl (Nat.le_of_ble_eq_true rfl) (mk_nz _) ?_
  intro p e s m below meth c Q A ls S hP hK hT hS hl hD hA hret
  obtain ⟨hx, hb, hml, hown, hts⟩ := id S
  have hl : lv_has ls 6 [(0, .ref x), (1, .ref hr), (2, .int (nI q)), (3, .int (nI p9))] := hl
  refine lv_aload_n hx hb d_LN_readParts_0 rfl (lv_at hl 0 rfl) ?_
  refine lv_aload_n hx hb d_LN_readParts_1 rfl (lv_at hl 1 rfl) ?_
  refine lv_iload_n hx hb d_LN_readParts_2 rfl (lv_at hl 2 rfl) ?_
  refine lv_iload_n hx hb d_LN_readParts_3 rfl (lv_at hl 3 rfl) ?_
  refine mk_w0 (wr := [(hp, .inr (3, [.ref ap])), (ap, .inl (cI, 32, .inl (nf pb)))]) (W.runV (As := [.ref hr, .int (nI q), .int (nI p9)]) (rest := []) S ((c_LN_co l dC dI cI x f0 f1 h hp hs as B hr ar v q p9 (by first | assumption | omega) (by first | assumption | omega) (by first | assumption | omega) (by first | assumption | omega)) _) (gV 3 hts k_503 k_505 k_12 k_24 k_506 (by decide +kernel) ⟨Nat.le_of_ble_eq_true rfl, Nat.le_of_ble_eq_true rfl⟩) (mk_vM hP hD hK hT hS hA [0, 3, 4, 5, 6] rfl rfl (by decide) (q0 := 0) (ci := 0) rfl rfl) rfl rfl hl.1 rfl (lv_room (Nat.le_of_ble_eq_true rfl)) d_LN_readParts_4 ⟨Nat.zero_le _, Nat.zero_le _⟩) hP hD hS hA [0, 3, 4, 5, 6] [1, 2] rfl rfl (by decide) (by decide) (fun H locs hP hD hS => ?_)
  have hP : va_P (dC, dI) vwCl [(x, .inr (0, [.ref f0, .ref f1, .ref h, .ref hp, .ref hs])), (hp, .inr (3, [.ref ap])), (ap, .inl (cI, 32, .inl (nf pb))), (hs, .inr (4, [.ref as])), (as, .inl (cI, 1024, .inl (nf B))), (hr, .inr (1, [.ref ar, .int (nI (coC (unN B q) (13 * p9) 0))])), (ar, .inl (cI, 255, .inl (nf (coV v (unN B q) (coC (unN B q) (13 * p9) 0)))))] H := hP.sub [2, 0, 1, 3, 4, 5, 6] rfl
  have hD : va_D A [(x, .inr (0, [.ref f0, .ref f1, .ref h, .ref hp, .ref hs])), (hp, .inr (3, [.ref ap])), (ap, .inl (cI, 32, .inl (nf pb))), (hs, .inr (4, [.ref as])), (as, .inl (cI, 1024, .inl (nf B))), (hr, .inr (1, [.ref ar, .int (nI (coC (unN B q) (13 * p9) 0))])), (ar, .inl (cI, 255, .inl (nf (coV v (unN B q) (coC (unN B q) (13 * p9) 0)))))] := hD.sub [2, 0, 1, 3, 4, 5, 6] (by decide) rfl
  refine lv_aload_n hx hb d_LN_readParts_7 rfl (lv_at hl 1 rfl) ?_
  refine mk_r1 (W.runV (As := []) (rest := []) S (c_Ro_name l dC dI cI hr ar (coC (unN B q) (13 * p9) 0) (coV v (unN B q) (coC (unN B q) (13 * p9) 0)) (by first | assumption | omega) (by first | assumption | omega)) (gV 0 hts k_136 k_137 k_138 k_25 k_139 (by decide +kernel) ⟨Nat.le_of_ble_eq_true rfl, Nat.le_of_ble_eq_true rfl⟩) (mk_vR hP hK hT hS [5, 6] rfl (q0 := 5) (ci := 1) rfl rfl) rfl rfl hl.1 rfl (lv_room (Nat.le_of_ble_eq_true rfl)) d_LN_readParts_8 ⟨Nat.zero_le _, Nat.zero_le _⟩) ?_
  refine lv_if_eq (tgt := 22) hx hb d_LN_readParts_11 (by decide) (fun c_1 => ?_) (fun c_1 => ?_)
  · skip
    have c_1 := bI_0 c_1
    rw [h1] at c_1; exact absurd c_1 (by decide)
  · skip
    have c_1 := bI_1 c_1
    refine lv_aload_n hx hb d_LN_readParts_14 rfl (lv_at hl 1 rfl) ?_
    refine mk_r1 (W.runV (As := []) (rest := []) S (c_Ro_parts l dC dI cI hr ar (coC (unN B q) (13 * p9) 0) (coV v (unN B q) (coC (unN B q) (13 * p9) 0)) (by first | assumption | omega)) (gV 0 hts k_161 k_162 k_163 k_25 k_164 (by decide +kernel) ⟨Nat.le_of_ble_eq_true rfl, Nat.le_of_ble_eq_true rfl⟩) (mk_vR hP hK hT hS [5, 6] rfl (q0 := 5) (ci := 1) rfl rfl) rfl rfl hl.1 rfl (lv_room (Nat.le_of_ble_eq_true rfl)) d_LN_readParts_15 ⟨Nat.zero_le _, Nat.zero_le _⟩) ?_
    have b_2 := pnN_le (show (coC (unN B q) (13 * p9) 0) ≤ 255 by omega)
    refine lv_iload_n hx hb d_LN_readParts_18 rfl (lv_at hl 3 rfl) ?_
    refine lv_icmp_eq (tgt := 24) hx hb d_LN_readParts_19 (by decide) (fun c_3 => ?_) (fun c_3 => ?_)
    · skip
      rw [nI_eq (by omega) (by omega)] at c_3
      refine lv_aload_n hx hb d_LN_readParts_24 rfl (lv_at hl 0 rfl) ?_
      refine va_get (D := (dC, dI)) (ci := 0) (v := .ref hs) (C := "LongNames") (T := F_LN) (N := 5) hx hb hts (iw_LN _) hown hK hP 0 rfl rfl 4 (by decide) (hts _ (List.mem_cons_of_mem _ k_95)) (fun _ h9 => h9) rfl d_LN_readParts_25 ?_
      refine lv_iload_n hx hb d_LN_readParts_28 rfl (lv_at hl 2 rfl) ?_
      refine mk_r1 (W.runV (As := [.int (nI q)]) (rest := []) S (c_Sl_sum l dC dI cI hs as B q (by first | assumption | omega) (by first | assumption | omega)) (gV 1 hts k_222 k_223 k_224 k_28 k_225 (by decide +kernel) ⟨Nat.le_of_ble_eq_true rfl, Nat.le_of_ble_eq_true rfl⟩) (mk_vR hP hK hT hS [3, 4] rfl (q0 := 3) (ci := 4) rfl rfl) rfl rfl hl.1 rfl (lv_room (Nat.le_of_ble_eq_true rfl)) d_LN_readParts_29 ⟨Nat.zero_le _, Nat.zero_le _⟩) ?_
      refine lv_istore (lv' := [(4, .int (nI (suN B (q * 32) 11))), (0, .ref x), (1, .ref hr), (2, .int (nI q)), (3, .int (nI p9))]) hx hb d_LN_readParts_32 hl (by decide) rfl (fun ls hl => ?_)
      refine lv_iconst (v := nI 1) hx hb d_LN_readParts_34 (by decide) ?_
      refine lv_istore (lv' := [(5, .int (nI 1)), (4, .int (nI (suN B (q * 32) 11))), (0, .ref x), (1, .ref hr), (2, .int (nI q)), (3, .int (nI p9))]) hx hb d_LN_readParts_35 hl (by decide) rfl (fun ls hl => ?_)
      have lp37 : ∀ (k : Nat) (i : Nat) (H : Heap) (locs : List Loc) (ls : Array Slot), (i + k = p9) → (rpK (coV v (unN B q) (coC (unN B q) (13 * p9) 0)) (coC (unN B q) (13 * p9) 0) (suN B (q * 32) 11) q pb B p9 0 = rpK (coV v (unN B q) (coC (unN B q) (13 * p9) 0)) (coC (unN B q) (13 * p9) 0) (suN B (q * 32) 11) q pb B k i ∧ rpR (coV v (unN B q) (coC (unN B q) (13 * p9) 0)) (coC (unN B q) (13 * p9) 0) (suN B (q * 32) 11) q pb B p9 0 = rpR (coV v (unN B q) (coC (unN B q) (13 * p9) 0)) (coC (unN B q) (13 * p9) 0) (suN B (q * 32) 11) q pb B k i) → va_P (dC, dI) vwCl [(x, .inr (0, [.ref f0, .ref f1, .ref h, .ref hp, .ref hs])), (hp, .inr (3, [.ref ap])), (ap, .inl (cI, 32, .inl (nf (wpB (coV v (unN B q) (coC (unN B q) (13 * p9) 0)) (coC (unN B q) (13 * p9) 0) (suN B (q * 32) 11) pb i)))), (hs, .inr (4, [.ref as])), (as, .inl (cI, 1024, .inl (nf B))), (hr, .inr (1, [.ref ar, .int (nI (coC (unN B q) (13 * p9) 0))])), (ar, .inl (cI, 255, .inl (nf (coV v (unN B q) (coC (unN B q) (13 * p9) 0)))))] H → va_D A [(x, .inr (0, [.ref f0, .ref f1, .ref h, .ref hp, .ref hs])), (hp, .inr (3, [.ref ap])), (ap, .inl (cI, 32, .inl (nf (wpB (coV v (unN B q) (coC (unN B q) (13 * p9) 0)) (coC (unN B q) (13 * p9) 0) (suN B (q * 32) 11) pb i)))), (hs, .inr (4, [.ref as])), (as, .inl (cI, 1024, .inl (nf B))), (hr, .inr (1, [.ref ar, .int (nI (coC (unN B q) (13 * p9) 0))])), (ar, .inl (cI, 255, .inl (nf (coV v (unN B q) (coC (unN B q) (13 * p9) 0)))))] → va_S A s.heap H locs → lv_has ls 6 [(0, .ref x), (1, .ref hr), (2, .int (nI q)), (3, .int (nI p9)), (4, .int (nI (suN B (q * 32) 11))), (5, .int (nI (i + 1)))] → W p l e ({ frames := 5, cells := 0, slots := 0, locals := 112 } : Room) s m ([.ref x, .ref hr, .int (nI q), .int (nI p9)] : List Value).toArray below meth c H locs 0 0 Q (F0 m 37 ls []) := by
        intro k
        induction k with
        | zero =>
          intro i H locs ls hi hE hP hD hS hl
          refine lv_iload hx hb d_LN_readParts_37 (lv_at hl 5 rfl) ?_
          refine lv_iload_n hx hb d_LN_readParts_39 rfl (lv_at hl 3 rfl) ?_
          refine lv_icmp_gt (tgt := 81) hx hb d_LN_readParts_40 (by decide) (fun c_4 => ?_) (fun c_4 => ?_)
          · skip
            rw [nI_ltI (by omega) (by omega)] at c_4
            refine lv_iconst (v := nI 1) hx hb d_LN_readParts_81 (by decide) ?_
            have hw9 : ([(x, .inr (0, [.ref f0, .ref f1, .ref h, .ref hp, .ref hs])), (hp, .inr (3, [.ref ap])), (ap, .inl (cI, 32, .inl (nf (wpB (coV v (unN B q) (coC (unN B q) (13 * p9) 0)) (coC (unN B q) (13 * p9) 0) (suN B (q * 32) 11) pb i)))), (hs, .inr (4, [.ref as])), (as, .inl (cI, 1024, .inl (nf B))), (hr, .inr (1, [.ref ar, .int (nI (coC (unN B q) (13 * p9) 0))])), (ar, .inl (cI, 255, .inl (nf (coV v (unN B q) (coC (unN B q) (13 * p9) 0)))))] : va_W) = [(x, .inr (0, [.ref f0, .ref f1, .ref h, .ref hp, .ref hs])), (hp, .inr (3, [.ref ap])), (ap, .inl (cI, 32, .inl (nf (wpB (coV v (unN B q) (coC (unN B q) (13 * p9) 0)) (coC (unN B q) (13 * p9) 0) (suN B (q * 32) 11) pb (rpK (coV v (unN B q) (coC (unN B q) (13 * p9) 0)) (coC (unN B q) (13 * p9) 0) (suN B (q * 32) 11) q pb B p9 0))))), (hs, .inr (4, [.ref as])), (as, .inl (cI, 1024, .inl (nf B))), (hr, .inr (1, [.ref ar, .int (nI (coC (unN B q) (13 * p9) 0))])), (ar, .inl (cI, 255, .inl (nf (coV v (unN B q) (coC (unN B q) (13 * p9) 0)))))] := by rw [hE.1]; rfl
            rw [hw9] at hP hD
            exact mk_ti (by exact mk_bt (by rw [hE.2]; rfl)) (hret _ _ _ _ d_LN_readParts_82 hP hD hS)
          · skip
            rw [nI_ltI (by omega) (by omega)] at c_4
            first | omega | contradiction
        | succ k ih37 =>
          intro i H locs ls hi hE hP hD hS hl
          have hw7 := wpB_lt (n := coC (unN B q) (13 * p9) 0) (su := suN B (q * 32) 11) (pb := pb) hv9 hpb hs9 i (by omega)
          have hw6 := wpB_lt (n := coC (unN B q) (13 * p9) 0) (su := suN B (q * 32) 11) (pb := pb) hv9 hpb hs9 (i + 1) (by omega)
          refine lv_iload hx hb d_LN_readParts_37 (lv_at hl 5 rfl) ?_
          refine lv_iload_n hx hb d_LN_readParts_39 rfl (lv_at hl 3 rfl) ?_
          refine lv_icmp_gt (tgt := 81) hx hb d_LN_readParts_40 (by decide) (fun c_5 => ?_) (fun c_5 => ?_)
          · skip
            rw [nI_ltI (by omega) (by omega)] at c_5
            first | omega | contradiction
          · skip
            rw [nI_ltI (by omega) (by omega)] at c_5
            refine lv_aload_n hx hb d_LN_readParts_43 rfl (lv_at hl 0 rfl) ?_
            refine va_get (D := (dC, dI)) (ci := 0) (v := .ref hp) (C := "LongNames") (T := F_LN) (N := 5) hx hb hts (iw_LN _) hown hK hP 0 rfl rfl 3 (by decide) (hts _ (List.mem_cons_of_mem _ k_94)) (fun _ h9 => h9) rfl d_LN_readParts_44 ?_
            refine lv_aload_n hx hb d_LN_readParts_47 rfl (lv_at hl 1 rfl) ?_
            refine lv_iload hx hb d_LN_readParts_48 (lv_at hl 5 rfl) ?_
            refine lv_iload hx hb d_LN_readParts_50 (lv_at hl 4 rfl) ?_
            refine mk_w0 (wr := [(x, .inr (0, [.ref f0, .ref f1, .ref h, .ref hp, .ref hs])), (hs, .inr (4, [.ref as])), (as, .inl (cI, 1024, .inl (nf B)))]) (W.runV (As := [.ref hr, .int (nI (i + 1)), .int (nI (suN B (q * 32) 11))]) (rest := []) S ((c_Pt_build l dC dI cI hp ap (wpB (coV v (unN B q) (coC (unN B q) (13 * p9) 0)) (coC (unN B q) (13 * p9) 0) (suN B (q * 32) 11) pb i) hr ar (coC (unN B q) (13 * p9) 0) (coV v (unN B q) (coC (unN B q) (13 * p9) 0)) (i + 1) (suN B (q * 32) 11) (by first | assumption | omega) (by first | assumption | omega) (by first | assumption | omega) (by first | assumption | omega)) _) (gV 3 hts k_419 k_420 k_421 k_27 k_422 (by decide +kernel) ⟨Nat.le_of_ble_eq_true rfl, Nat.le_of_ble_eq_true rfl⟩) (mk_vM hP hD hK hT hS hA [1, 2, 5, 6] rfl rfl (by decide) (q0 := 1) (ci := 3) rfl rfl) rfl rfl hl.1 rfl (lv_room (Nat.le_of_ble_eq_true rfl)) d_LN_readParts_52 ⟨Nat.zero_le _, Nat.zero_le _⟩) hP hD hS hA [1, 2, 5, 6] [0, 3, 4] rfl rfl (by decide) (by decide) (fun H locs hP hD hS => ?_)
            have hP : va_P (dC, dI) vwCl [(x, .inr (0, [.ref f0, .ref f1, .ref h, .ref hp, .ref hs])), (hp, .inr (3, [.ref ap])), (ap, .inl (cI, 32, .inl (nf (bdN (coV v (unN B q) (coC (unN B q) (13 * p9) 0)) (coC (unN B q) (13 * p9) 0) (i + 1) (suN B (q * 32) 11) (wpB (coV v (unN B q) (coC (unN B q) (13 * p9) 0)) (coC (unN B q) (13 * p9) 0) (suN B (q * 32) 11) pb i))))), (hs, .inr (4, [.ref as])), (as, .inl (cI, 1024, .inl (nf B))), (hr, .inr (1, [.ref ar, .int (nI (coC (unN B q) (13 * p9) 0))])), (ar, .inl (cI, 255, .inl (nf (coV v (unN B q) (coC (unN B q) (13 * p9) 0)))))] H := hP.sub [0, 3, 4, 1, 2, 5, 6] rfl
            have hD : va_D A [(x, .inr (0, [.ref f0, .ref f1, .ref h, .ref hp, .ref hs])), (hp, .inr (3, [.ref ap])), (ap, .inl (cI, 32, .inl (nf (bdN (coV v (unN B q) (coC (unN B q) (13 * p9) 0)) (coC (unN B q) (13 * p9) 0) (i + 1) (suN B (q * 32) 11) (wpB (coV v (unN B q) (coC (unN B q) (13 * p9) 0)) (coC (unN B q) (13 * p9) 0) (suN B (q * 32) 11) pb i))))), (hs, .inr (4, [.ref as])), (as, .inl (cI, 1024, .inl (nf B))), (hr, .inr (1, [.ref ar, .int (nI (coC (unN B q) (13 * p9) 0))])), (ar, .inl (cI, 255, .inl (nf (coV v (unN B q) (coC (unN B q) (13 * p9) 0)))))] := hD.sub [0, 3, 4, 1, 2, 5, 6] (by decide) rfl
            refine lv_aload_n hx hb d_LN_readParts_55 rfl (lv_at hl 0 rfl) ?_
            refine va_get (D := (dC, dI)) (ci := 0) (v := .ref hp) (C := "LongNames") (T := F_LN) (N := 5) hx hb hts (iw_LN _) hown hK hP 0 rfl rfl 3 (by decide) (hts _ (List.mem_cons_of_mem _ k_94)) (fun _ h9 => h9) rfl d_LN_readParts_56 ?_
            refine lv_aload_n hx hb d_LN_readParts_59 rfl (lv_at hl 0 rfl) ?_
            refine va_get (D := (dC, dI)) (ci := 0) (v := .ref hs) (C := "LongNames") (T := F_LN) (N := 5) hx hb hts (iw_LN _) hown hK hP 0 rfl rfl 4 (by decide) (hts _ (List.mem_cons_of_mem _ k_95)) (fun _ h9 => h9) rfl d_LN_readParts_60 ?_
            refine lv_iload_n hx hb d_LN_readParts_63 rfl (lv_at hl 2 rfl) ?_
            refine lv_iload hx hb d_LN_readParts_64 (lv_at hl 5 rfl) ?_
            refine lv_isub hx hb d_LN_readParts_66 ?_
            refine mk_ti (y := nI (q - (i + 1))) (pk_sub (by omega)) ?_
            refine mk_r1 (W.runV (As := [.ref hs, .int (nI (q - (i + 1)))]) (rest := []) S (c_Pt_in l dC dI cI hp ap (bdN (coV v (unN B q) (coC (unN B q) (13 * p9) 0)) (coC (unN B q) (13 * p9) 0) (i + 1) (suN B (q * 32) 11) (wpB (coV v (unN B q) (coC (unN B q) (13 * p9) 0)) (coC (unN B q) (13 * p9) 0) (suN B (q * 32) 11) pb i)) hs as B (q - (i + 1)) (by first | assumption | omega) (by first | assumption | omega) (by first | assumption | omega)) (gV 2 hts k_511 k_512 k_513 k_27 k_514 (by decide +kernel) ⟨Nat.le_of_ble_eq_true rfl, Nat.le_of_ble_eq_true rfl⟩) (mk_vR hP hK hT hS [1, 2, 3, 4] rfl (q0 := 1) (ci := 3) rfl rfl) rfl rfl hl.1 rfl (lv_room (Nat.le_of_ble_eq_true rfl)) d_LN_readParts_67 ⟨Nat.zero_le _, Nat.zero_le _⟩) ?_
            refine lv_if_ne (tgt := 75) hx hb d_LN_readParts_70 (by decide) (fun c_6 => ?_) (fun c_6 => ?_)
            · skip
              have c_6 := bI_1 c_6
              refine lv_iinc (v := nI (i + 1 + 1)) (lv' := [(5, .int (nI (i + 1 + 1))), (0, .ref x), (1, .ref hr), (2, .int (nI q)), (3, .int (nI p9)), (4, .int (nI (suN B (q * 32) 11)))]) hx hb d_LN_readParts_75 hl (k := 5) rfl (mk_i1 (i + 1)) (by decide) rfl (fun ls hl => ?_)
              refine lv_goto (tgt := 37) hx hb d_LN_readParts_78 (by decide) ?_
              have hl : lv_has ls 6 [(0, .ref x), (1, .ref hr), (2, .int (nI q)), (3, .int (nI p9)), (4, .int (nI (suN B (q * 32) 11))), (5, .int (nI (i + 1 + 1)))] := lv_sub hl [1, 2, 3, 4, 5, 0] rfl
              have hl9 : ([(0, .ref x), (1, .ref hr), (2, .int (nI q)), (3, .int (nI p9)), (4, .int (nI (suN B (q * 32) 11))), (5, .int (nI (i + 1 + 1)))] : List (Nat × Value)) = [(0, .ref x), (1, .ref hr), (2, .int (nI q)), (3, .int (nI p9)), (4, .int (nI (suN B (q * 32) 11))), (5, .int (nI ((i + 1) + 1)))] := by rfl
              rw [hl9] at hl
              have hw9 : ([(x, .inr (0, [.ref f0, .ref f1, .ref h, .ref hp, .ref hs])), (hp, .inr (3, [.ref ap])), (ap, .inl (cI, 32, .inl (nf (bdN (coV v (unN B q) (coC (unN B q) (13 * p9) 0)) (coC (unN B q) (13 * p9) 0) (i + 1) (suN B (q * 32) 11) (wpB (coV v (unN B q) (coC (unN B q) (13 * p9) 0)) (coC (unN B q) (13 * p9) 0) (suN B (q * 32) 11) pb i))))), (hs, .inr (4, [.ref as])), (as, .inl (cI, 1024, .inl (nf B))), (hr, .inr (1, [.ref ar, .int (nI (coC (unN B q) (13 * p9) 0))])), (ar, .inl (cI, 255, .inl (nf (coV v (unN B q) (coC (unN B q) (13 * p9) 0)))))] : va_W) = [(x, .inr (0, [.ref f0, .ref f1, .ref h, .ref hp, .ref hs])), (hp, .inr (3, [.ref ap])), (ap, .inl (cI, 32, .inl (nf (wpB (coV v (unN B q) (coC (unN B q) (13 * p9) 0)) (coC (unN B q) (13 * p9) 0) (suN B (q * 32) 11) pb (i + 1))))), (hs, .inr (4, [.ref as])), (as, .inl (cI, 1024, .inl (nf B))), (hr, .inr (1, [.ref ar, .int (nI (coC (unN B q) (13 * p9) 0))])), (ar, .inl (cI, 255, .inl (nf (coV v (unN B q) (coC (unN B q) (13 * p9) 0)))))] := by rfl
              rw [hw9] at hP hD
              exact ih37 (i + 1) _ _ _ (by omega) ⟨hE.1.trans (by rw [rpK, if_pos (by assumption)]), hE.2.trans (by rw [rpR, if_pos (by assumption)])⟩ hP hD hS hl
            · skip
              have c_6 := bI_0 c_6
              refine lv_iconst (v := nI 0) hx hb d_LN_readParts_73 (by decide) ?_
              have hw9 : ([(x, .inr (0, [.ref f0, .ref f1, .ref h, .ref hp, .ref hs])), (hp, .inr (3, [.ref ap])), (ap, .inl (cI, 32, .inl (nf (bdN (coV v (unN B q) (coC (unN B q) (13 * p9) 0)) (coC (unN B q) (13 * p9) 0) (i + 1) (suN B (q * 32) 11) (wpB (coV v (unN B q) (coC (unN B q) (13 * p9) 0)) (coC (unN B q) (13 * p9) 0) (suN B (q * 32) 11) pb i))))), (hs, .inr (4, [.ref as])), (as, .inl (cI, 1024, .inl (nf B))), (hr, .inr (1, [.ref ar, .int (nI (coC (unN B q) (13 * p9) 0))])), (ar, .inl (cI, 255, .inl (nf (coV v (unN B q) (coC (unN B q) (13 * p9) 0)))))] : va_W) = [(x, .inr (0, [.ref f0, .ref f1, .ref h, .ref hp, .ref hs])), (hp, .inr (3, [.ref ap])), (ap, .inl (cI, 32, .inl (nf (wpB (coV v (unN B q) (coC (unN B q) (13 * p9) 0)) (coC (unN B q) (13 * p9) 0) (suN B (q * 32) 11) pb (rpK (coV v (unN B q) (coC (unN B q) (13 * p9) 0)) (coC (unN B q) (13 * p9) 0) (suN B (q * 32) 11) q pb B p9 0))))), (hs, .inr (4, [.ref as])), (as, .inl (cI, 1024, .inl (nf B))), (hr, .inr (1, [.ref ar, .int (nI (coC (unN B q) (13 * p9) 0))])), (ar, .inl (cI, 255, .inl (nf (coV v (unN B q) (coC (unN B q) (13 * p9) 0)))))] := by rw [hE.1, rpK, if_neg (fun h9 => absurd (h9.symm.trans c_6) (by decide))]; rfl
              rw [hw9] at hP hD
              exact mk_ti (by exact mk_bf (by rw [hE.2, rpR, if_neg (fun h9 => absurd (h9.symm.trans c_6) (by decide))])) (hret _ _ _ _ d_LN_readParts_74 hP hD hS)
      have hl : lv_has ls 6 [(0, .ref x), (1, .ref hr), (2, .int (nI q)), (3, .int (nI p9)), (4, .int (nI (suN B (q * 32) 11))), (5, .int (nI 1))] := lv_sub hl [2, 3, 4, 5, 1, 0] rfl
      have hl9 : ([(0, .ref x), (1, .ref hr), (2, .int (nI q)), (3, .int (nI p9)), (4, .int (nI (suN B (q * 32) 11))), (5, .int (nI 1))] : List (Nat × Value)) = [(0, .ref x), (1, .ref hr), (2, .int (nI q)), (3, .int (nI p9)), (4, .int (nI (suN B (q * 32) 11))), (5, .int (nI (0 + 1)))] := by rfl
      rw [hl9] at hl
      have hw9 : ([(x, .inr (0, [.ref f0, .ref f1, .ref h, .ref hp, .ref hs])), (hp, .inr (3, [.ref ap])), (ap, .inl (cI, 32, .inl (nf pb))), (hs, .inr (4, [.ref as])), (as, .inl (cI, 1024, .inl (nf B))), (hr, .inr (1, [.ref ar, .int (nI (coC (unN B q) (13 * p9) 0))])), (ar, .inl (cI, 255, .inl (nf (coV v (unN B q) (coC (unN B q) (13 * p9) 0)))))] : va_W) = [(x, .inr (0, [.ref f0, .ref f1, .ref h, .ref hp, .ref hs])), (hp, .inr (3, [.ref ap])), (ap, .inl (cI, 32, .inl (nf (wpB (coV v (unN B q) (coC (unN B q) (13 * p9) 0)) (coC (unN B q) (13 * p9) 0) (suN B (q * 32) 11) pb 0)))), (hs, .inr (4, [.ref as])), (as, .inl (cI, 1024, .inl (nf B))), (hr, .inr (1, [.ref ar, .int (nI (coC (unN B q) (13 * p9) 0))])), (ar, .inl (cI, 255, .inl (nf (coV v (unN B q) (coC (unN B q) (13 * p9) 0)))))] := by rfl
      rw [hw9] at hP hD
      exact lp37 p9 0 _ _ _ (by omega) ⟨rfl, rfl⟩ hP hD hS hl
    · skip
      rw [nI_eq (by omega) (by omega)] at c_3
      first | omega | contradiction

