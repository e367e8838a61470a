set_option maxHeartbeats 4000000 in
set_option maxRecDepth 100000 in
theorem c_Sn_set (l : Launch) (dC : Nat → ClassId) (dI : Nat → Nat → Nat) (cI : ClassId) (h a : Nat) (b : Nat → Nat) (j x : Nat) (hj : j < 11) : mM l y_Sn_set w_Sn_set ({ frames := 0, cells := 0, slots := 0, locals := 0 } : Room) [.ref h, .int (nI j), .int (nI x)] (dC, dI) vwCl [(cI, .int)] [(h, .inr (2, [.ref a])), (a, .inl (cI, 11, .inl (nf b)))] none [(h, .inr (2, [.ref a])), (a, .inl (cI, 11, .inl (nf (uN b j x))))] := by
  refine mk_Mv (cc := b_Sn_set) (maxL := 3) (by decide) rfl (Nat.le_of_ble_eq_true rfl) ?_
  intro p e s m below meth c Q A ls S hP hK hT hS hl hD hA hret
  obtain ⟨hx, hb, hml, hown, hts⟩ := id S
  have hl : lv_has ls 3 [(0, .ref h), (1, .int (nI j)), (2, .int (nI x))] := hl
  refine lv_iload_n hx hb d_Sn_set_0 rfl (lv_at hl 1 rfl) ?_
  refine lv_if_lt (tgt := 17) hx hb d_Sn_set_1 (by decide) (fun c_1 => ?_) (fun c_1 => ?_)
  · skip
    rw [mk_clt (by omega)] at c_1
    first | omega | contradiction
  · skip
    rw [mk_clt (by omega)] at c_1
    refine lv_iload_n hx hb d_Sn_set_4 rfl (lv_at hl 1 rfl) ?_
    refine lv_bipush (v := nI 11) hx hb d_Sn_set_5 (by decide) ?_
    refine lv_icmp_ge (tgt := 17) hx hb d_Sn_set_7 (by decide) (fun c_2 => ?_) (fun c_2 => ?_)
    · skip
      rw [nI_leI (by omega) (by omega)] at c_2
      first | omega | contradiction
    · skip
      rw [nI_leI (by omega) (by omega)] at c_2
      refine lv_aload_n hx hb d_Sn_set_10 rfl (lv_at hl 0 rfl) ?_
      refine va_get (D := (dC, dI)) (ci := 2) (v := .ref a) (C := "LongNames$ShortName") (T := F_Sn) (N := 1) hx hb hts (iw_Sn _) hown hK hP 0 rfl rfl 0 (by decide) (hts _ (List.mem_cons_of_mem _ k_67)) (fun _ h9 => h9) rfl d_Sn_set_11 ?_
      refine lv_iload_n hx hb d_Sn_set_14 rfl (lv_at hl 1 rfl) ?_
      refine lv_iload_n hx hb d_Sn_set_15 rfl (lv_at hl 2 rfl) ?_
      refine va_iast hx hb hK hP hD hS 1 0 rfl rfl (vp_in_nI (N := 11) (show j < 11 by omega) (by decide)) d_Sn_set_16 (fun H locs hP hD hS => ?_)
      rw [nI_clamp (by omega), nf_up] at hP hD
      have hP : va_P (dC, dI) vwCl [(h, .inr (2, [.ref a])), (a, .inl (cI, 11, .inl (nf (uN b j x))))] H := hP
      have hD : va_D A [(h, .inr (2, [.ref a])), (a, .inl (cI, 11, .inl (nf (uN b j x))))] := hD
      exact hret _ _ _ _ d_Sn_set_17 hP hD hS

set_option maxHeartbeats 4000000 in
set_option maxRecDepth 100000 in
theorem c_Sn_get (l : Launch) (dC : Nat → ClassId) (dI : Nat → Nat → Nat) (cI : ClassId) (h a : Nat) (b : Nat → Nat) (j : Nat) (hb9 : ∀ j, b j < 65536) (hj : j < 11) : mR l y_Sn_get w_Sn_get ({ frames := 0, cells := 0, slots := 0, locals := 0 } : Room) [.ref h, .int (nI j)] (dC, dI) vwCl [(cI, .int)] [(h, .inr (2, [.ref a])), (a, .inl (cI, 11, .inl (nf b)))] (some (.int (nI (b j)))) := by
  refine mk_Ri (cc := b_Sn_get) (maxL := 2) (by decide) rfl (Nat.le_of_ble_eq_true rfl) rfl ?_
  intro p e s m below meth c Q A ls S hP hK hT hS hl hret
  obtain ⟨hx, hb, hml, hown, hts⟩ := id S
  have hl : lv_has ls 2 [(0, .ref h), (1, .int (nI j))] := hl
  refine lv_iload_n hx hb d_Sn_get_0 rfl (lv_at hl 1 rfl) ?_
  refine lv_if_lt (tgt := 19) hx hb d_Sn_get_1 (by decide) (fun c_1 => ?_) (fun c_1 => ?_)
  · skip
    rw [mk_clt (by omega)] at c_1
    first | omega | contradiction
  · skip
    rw [mk_clt (by omega)] at c_1
    refine lv_iload_n hx hb d_Sn_get_4 rfl (lv_at hl 1 rfl) ?_
    refine lv_bipush (v := nI 11) hx hb d_Sn_get_5 (by decide) ?_
    refine lv_icmp_ge (tgt := 19) hx hb d_Sn_get_7 (by decide) (fun c_2 => ?_) (fun c_2 => ?_)
    · skip
      rw [nI_leI (by omega) (by omega)] at c_2
      first | omega | contradiction
    · skip
      rw [nI_leI (by omega) (by omega)] at c_2
      refine lv_aload_n hx hb d_Sn_get_10 rfl (lv_at hl 0 rfl) ?_
      refine va_get (D := (dC, dI)) (ci := 2) (v := .ref a) (C := "LongNames$ShortName") (T := F_Sn) (N := 1) hx hb hts (iw_Sn _) hown hK hP 0 rfl rfl 0 (by decide) (hts _ (List.mem_cons_of_mem _ k_67)) (fun _ h9 => h9) rfl d_Sn_get_11 ?_
      refine lv_iload_n hx hb d_Sn_get_14 rfl (lv_at hl 1 rfl) ?_
      refine va_iald hx hb hK hP 1 0 rfl rfl (vp_in_nI (N := 11) (show j < 11 by omega) (by decide)) d_Sn_get_15 ?_
      refine mk_ti (y := nI (b j)) (by rw [nI_clamp (by omega)]; rfl) ?_
      have b_3 := hb9 j
      refine lv_goto (tgt := 20) hx hb d_Sn_get_16 (by decide) ?_
      exact hret _ _ d_Sn_get_20

set_option maxHeartbeats 4000000 in
set_option maxRecDepth 100000 in
theorem c_Sn_dig (l : Launch) (dC : Nat → ClassId) (dI : Nat → Nat → Nat) (cI : ClassId) (t : Nat) (ht : t < 10000) : mR l y_Sn_digitsOf w_Sn_digitsOf ({ frames := 0, cells := 0, slots := 0, locals := 0 } : Room) [.int (nI t)] (dC, dI) vwCl [(cI, .int)] [] (some (.int (nI (dgN t)))) := by
  refine mk_Ri (cc := b_Sn_digitsOf) (maxL := 1) (by decide) rfl (Nat.le_of_ble_eq_true rfl) rfl ?_
  intro p e s m below meth c Q A ls S hP hK hT hS hl hret
  obtain ⟨hx, hb, hml, hown, hts⟩ := id S
  have hl : lv_has ls 1 [(0, .int (nI t))] := hl
  refine lv_iload_n hx hb d_Sn_digitsOf_0 rfl (lv_at hl 0 rfl) ?_
  refine lv_bipush (v := nI 100) hx hb d_Sn_digitsOf_1 (by decide) ?_
  refine lv_icmp_ge (tgt := 18) hx hb d_Sn_digitsOf_3 (by decide) (fun c_1 => ?_) (fun c_1 => ?_)
  · skip
    rw [nI_leI (by omega) (by omega)] at c_1
    refine lv_iload_n hx hb d_Sn_digitsOf_18 rfl (lv_at hl 0 rfl) ?_
    refine lv_sipush (v := nI 1000) hx hb d_Sn_digitsOf_19 (by decide) ?_
    refine lv_icmp_ge (tgt := 29) hx hb d_Sn_digitsOf_22 (by decide) (fun c_2 => ?_) (fun c_2 => ?_)
    · skip
      rw [nI_leI (by omega) (by omega)] at c_2
      refine lv_iconst (v := nI 4) hx hb d_Sn_digitsOf_29 (by decide) ?_
      exact mk_ti (by congr 1; unfold dgN; (repeat' split) <;> omega) (hret _ _ d_Sn_digitsOf_30)
    · skip
      rw [nI_leI (by omega) (by omega)] at c_2
      refine lv_iconst (v := nI 3) hx hb d_Sn_digitsOf_25 (by decide) ?_
      refine lv_goto (tgt := 30) hx hb d_Sn_digitsOf_26 (by decide) ?_
      exact mk_ti (by congr 1; unfold dgN; (repeat' split) <;> omega) (hret _ _ d_Sn_digitsOf_30)
  · skip
    rw [nI_leI (by omega) (by omega)] at c_1
    refine lv_iload_n hx hb d_Sn_digitsOf_6 rfl (lv_at hl 0 rfl) ?_
    refine lv_bipush (v := nI 10) hx hb d_Sn_digitsOf_7 (by decide) ?_
    refine lv_icmp_ge (tgt := 16) hx hb d_Sn_digitsOf_9 (by decide) (fun c_3 => ?_) (fun c_3 => ?_)
    · skip
      rw [nI_leI (by omega) (by omega)] at c_3
      refine lv_iconst (v := nI 2) hx hb d_Sn_digitsOf_16 (by decide) ?_
      exact mk_ti (by congr 1; unfold dgN; (repeat' split) <;> omega) (hret _ _ d_Sn_digitsOf_17)
    · skip
      rw [nI_leI (by omega) (by omega)] at c_3
      refine lv_iconst (v := nI 1) hx hb d_Sn_digitsOf_12 (by decide) ?_
      refine lv_goto (tgt := 17) hx hb d_Sn_digitsOf_13 (by decide) ?_
      exact mk_ti (by congr 1; unfold dgN; (repeat' split) <;> omega) (hret _ _ d_Sn_digitsOf_17)

set_option maxHeartbeats 4000000 in
set_option maxRecDepth 100000 in
theorem c_Sn_num (l : Launch) (dC : Nat → ClassId) (dI : Nat → Nat → Nat) (cI : ClassId) (h a : Nat) (b : Nat → Nat) (p9 d t : Nat) (ht : t < 10000) (hd : p9 + d ≤ 11) : mM l y_Sn_setNumber w_Sn_setNumber ({ frames := 1, cells := 0, slots := 0, locals := 22 } : Room) [.ref h, .int (nI p9), .int (nI d), .int (nI t)] (dC, dI) vwCl [(cI, .int)] [(h, .inr (2, [.ref a])), (a, .inl (cI, 11, .inl (nf b)))] none [(h, .inr (2, [.ref a])), (a, .inl (cI, 11, .inl (nf (nuN p9 d t b))))] := by
  refine mk_Mv (cc := b_Sn_setNumber) (maxL := 6) (by decide) rfl (Nat.le_of_ble_eq_true rfl) ?_
  intro p e s m below meth c Q A ls S hP hK hT hS hl hD hA hret
  obtain ⟨hx, hb, hml, hown, hts⟩ := id S
  have hl : lv_has ls 6 [(0, .ref h), (1, .int (nI p9)), (2, .int (nI d)), (3, .int (nI t))] := hl
  refine lv_iload_n hx hb d_Sn_setNumber_0 rfl (lv_at hl 3 rfl) ?_
  refine lv_istore (lv' := [(4, .int (nI t)), (0, .ref h), (1, .int (nI p9)), (2, .int (nI d)), (3, .int (nI t))]) hx hb d_Sn_setNumber_1 hl (by decide) rfl (fun ls hl => ?_)
  refine lv_iload_n hx hb d_Sn_setNumber_3 rfl (lv_at hl 3 rfl) ?_
  refine lv_iconst (v := nI 1) hx hb d_Sn_setNumber_4 (by decide) ?_
  refine lv_isub hx hb d_Sn_setNumber_5 ?_
  refine lv_istore (lv' := [(5, .int ((nI d) - (nI 1))), (4, .int (nI t)), (0, .ref h), (1, .int (nI p9)), (2, .int (nI d)), (3, .int (nI t))]) hx hb d_Sn_setNumber_6 hl (by decide) rfl (fun ls hl => ?_)
  have lp8 : ∀ (k : Nat) (x : Int32) (r : Nat) (b' : Nat → Nat) (H : Heap) (locs : List Loc) (ls : Array Slot), (x = nI k - 1) → (r < 10000) → (p9 + k ≤ 11) → (nuN p9 d t b = nuN p9 k r b') → va_P (dC, dI) vwCl [(h, .inr (2, [.ref a])), (a, .inl (cI, 11, .inl (nf b')))] H → va_D A [(h, .inr (2, [.ref a])), (a, .inl (cI, 11, .inl (nf b')))] → va_S A s.heap H locs → lv_has ls 6 [(0, .ref h), (1, .int (nI p9)), (4, .int (nI r)), (5, .int x)] → W p l e ({ frames := 1, cells := 0, slots := 0, locals := 22 } : Room) s m ([.ref h, .int (nI p9), .int (nI d), .int (nI t)] : List Value).toArray below meth c H locs 0 0 Q (F0 m 8 ls []) := by
    intro k
    induction k with
    | zero =>
      intro x r b' H locs ls hx9 hr9 hk hE hP hD hS hl
      obtain rfl : x = -1 := by rw [hx9]; decide
      have hl : lv_has ls 6 [(0, .ref h), (1, .int (nI p9)), (4, .int (nI r)), (5, .int (-1))] := hl
      refine lv_iload hx hb d_Sn_setNumber_8 (lv_at hl 3 rfl) ?_
      refine lv_if_lt (tgt := 42) hx hb d_Sn_setNumber_10 (by decide) (fun c_1 => ?_) (fun c_1 => ?_)
      · skip
        have hw9 : ([(h, .inr (2, [.ref a])), (a, .inl (cI, 11, .inl (nf b')))] : va_W) = [(h, .inr (2, [.ref a])), (a, .inl (cI, 11, .inl (nf (nuN p9 d t b))))] := by rw [hE]; rfl
        rw [hw9] at hP hD
        exact hret _ _ _ _ d_Sn_setNumber_42 hP hD hS
      · skip
        exact absurd (by decide) c_1
    | succ k ih8 =>
      intro x r b' H locs ls hx9 hr9 hk hE hP hD hS hl
      obtain rfl : x = nI k := by rw [hx9]; exact nI_pred k
      have hl : lv_has ls 6 [(0, .ref h), (1, .int (nI p9)), (4, .int (nI r)), (5, .int (nI k))] := hl
      refine lv_iload hx hb d_Sn_setNumber_8 (lv_at hl 3 rfl) ?_
      refine lv_if_lt (tgt := 42) hx hb d_Sn_setNumber_10 (by decide) (fun c_2 => ?_) (fun c_2 => ?_)
      · skip
        rw [mk_clt (by omega)] at c_2
        first | omega | contradiction
      · skip
        rw [mk_clt (by omega)] at c_2
        refine lv_aload_n hx hb d_Sn_setNumber_13 rfl (lv_at hl 0 rfl) ?_
        refine lv_iload_n hx hb d_Sn_setNumber_14 rfl (lv_at hl 1 rfl) ?_
        refine lv_iload hx hb d_Sn_setNumber_15 (lv_at hl 3 rfl) ?_
        refine lv_iadd hx hb d_Sn_setNumber_17 ?_
        refine mk_ti (y := nI (p9 + k)) (nI_add p9 k) ?_
        refine lv_bipush (v := nI 48) hx hb d_Sn_setNumber_18 (by decide) ?_
        refine lv_iload hx hb d_Sn_setNumber_20 (lv_at hl 2 rfl) ?_
        refine lv_bipush (v := nI 10) hx hb d_Sn_setNumber_22 (by decide) ?_
        refine lv_irem hx hb d_Sn_setNumber_24 (by decide) ?_
        refine mk_ti (y := nI (r % 10)) (pk_rem (by omega) (by decide) (by decide)) ?_
        refine lv_iadd hx hb d_Sn_setNumber_25 ?_
        refine mk_ti (y := nI (48 + r % 10)) (nI_add 48 (r % 10)) ?_
        refine mk_w0 (wr := []) (W.runV (As := [.int (nI (p9 + k)), .int (nI (48 + r % 10))]) (rest := []) S ((c_Sn_set l dC dI cI h a b' (p9 + k) (48 + r % 10) (by first | assumption | omega)) _) (gV 2 hts k_391 k_393 k_3 k_26 k_394 (by decide +kernel) ⟨Nat.le_of_ble_eq_true rfl, Nat.le_of_ble_eq_true rfl⟩) (mk_vM hP hD hK hT hS hA [0, 1] rfl rfl (by decide) (q0 := 0) (ci := 2) rfl rfl) rfl rfl hl.1 rfl (lv_room (Nat.le_of_ble_eq_true rfl)) d_Sn_setNumber_26 ⟨Nat.zero_le _, Nat.zero_le _⟩) hP hD hS hA [0, 1] [] rfl rfl (by decide) (by decide) (fun H locs hP hD hS => ?_)
        have hP : va_P (dC, dI) vwCl [(h, .inr (2, [.ref a])), (a, .inl (cI, 11, .inl (nf (uN b' (p9 + k) (48 + r % 10)))))] H := hP.sub [0, 1] rfl
        have hD : va_D A [(h, .inr (2, [.ref a])), (a, .inl (cI, 11, .inl (nf (uN b' (p9 + k) (48 + r % 10)))))] := hD.sub [0, 1] (by decide) rfl
        refine lv_iload hx hb d_Sn_setNumber_29 (lv_at hl 2 rfl) ?_
        refine lv_bipush (v := nI 10) hx hb d_Sn_setNumber_31 (by decide) ?_
        refine lv_idiv hx hb d_Sn_setNumber_33 (by decide) ?_
        refine mk_ti (y := nI (r / 10)) (pk_div (by omega) (by decide) (by decide)) ?_
        refine lv_istore (lv' := [(4, .int (nI (r / 10))), (0, .ref h), (1, .int (nI p9)), (5, .int (nI k))]) hx hb d_Sn_setNumber_34 hl (by decide) rfl (fun ls hl => ?_)
        refine lv_iinc (v := nI k - 1) (lv' := [(5, .int (nI k - 1)), (4, .int (nI (r / 10))), (0, .ref h), (1, .int (nI p9))]) hx hb d_Sn_setNumber_36 hl (k := 3) rfl (mk_dec (nI k)) (by decide) rfl (fun ls hl => ?_)
        refine lv_goto (tgt := 8) hx hb d_Sn_setNumber_39 (by decide) ?_
        have hl : lv_has ls 6 [(0, .ref h), (1, .int (nI p9)), (4, .int (nI (r / 10))), (5, .int (nI k - 1))] := lv_sub hl [2, 3, 1, 0] rfl
        exact ih8 (nI k - 1) (r / 10) (uN b' (p9 + k) (48 + r % 10)) _ _ _ rfl (by omega) (by omega) (hE.trans rfl) hP hD hS hl
  have hl : lv_has ls 6 [(0, .ref h), (1, .int (nI p9)), (4, .int (nI t)), (5, .int ((nI d) - (nI 1)))] := lv_sub hl [2, 3, 1, 0] rfl
  have hl9 : ([(0, .ref h), (1, .int (nI p9)), (4, .int (nI t)), (5, .int ((nI d) - (nI 1)))] : List (Nat × Value)) = [(0, .ref h), (1, .int (nI p9)), (4, .int (nI t)), (5, .int (nI d - nI 1))] := by rfl
  rw [hl9] at hl
  exact lp8 d (nI d - nI 1) t b _ _ _ rfl ht hd rfl hP hD hS hl

set_option maxHeartbeats 4000000 in
set_option maxRecDepth 100000 in
theorem c_Sn_sho (l : Launch) (dC : Nat → ClassId) (dI : Nat → Nat → Nat) (cI : ClassId) (h a : Nat) (b : Nat → Nat) (hr ar n : Nat) (v : Nat → Nat) (f t p9 mo : Nat) (hn : n ≤ 255) (hv : ∀ j, v j < 65536) (hf : f ≤ 256) (ht : t ≤ n) (hp : p9 + mo ≤ 11) : mM l y_Sn_shorten w_Sn_shorten ({ frames := 2, cells := 0, slots := 0, locals := 41 } : Room) [.ref h, .ref hr, .int (nI f), .int (nI t), .int (nI p9), .int (nI mo)] (dC, dI) vwCl [(cI, .int)] [(h, .inr (2, [.ref a])), (a, .inl (cI, 11, .inl (nf b))), (hr, .inr (1, [.ref ar, .int (nI n)])), (ar, .inl (cI, 255, .inl (nf v)))] (some (.int (nI (shC v mo (t - f) f 0)))) [(h, .inr (2, [.ref a])), (a, .inl (cI, 11, .inl (nf (shB v p9 mo (t - f) f 0 b)))), (hr, .inr (1, [.ref ar, .int (nI n)])), (ar, .inl (cI, 255, .inl (nf v)))] := by
  refine mk_Mi (cc := b_Sn_shorten) (maxL := 9) (by decide) rfl (Nat.le_of_ble_eq_true rfl) rfl ?_
  intro p e s m below meth c Q A ls S hP hK hT hS hl hD hA hret
  obtain ⟨hx, hb, hml, hown, hts⟩ := id S
  have hl : lv_has ls 9 [(0, .ref h), (1, .ref hr), (2, .int (nI f)), (3, .int (nI t)), (4, .int (nI p9)), (5, .int (nI mo))] := hl
  refine lv_iconst (v := nI 0) hx hb d_Sn_shorten_0 (by decide) ?_
  refine lv_istore (lv' := [(6, .int (nI 0)), (0, .ref h), (1, .ref hr), (2, .int (nI f)), (3, .int (nI t)), (4, .int (nI p9)), (5, .int (nI mo))]) hx hb d_Sn_shorten_1 hl (by decide) rfl (fun ls hl => ?_)
  refine lv_iload_n hx hb d_Sn_shorten_3 rfl (lv_at hl 3 rfl) ?_
  refine lv_istore (lv' := [(7, .int (nI f)), (6, .int (nI 0)), (0, .ref h), (1, .ref hr), (2, .int (nI f)), (3, .int (nI t)), (4, .int (nI p9)), (5, .int (nI mo))]) hx hb d_Sn_shorten_4 hl (by decide) rfl (fun ls hl => ?_)
  have lp6 : ∀ (k : Nat) (i c9 : Nat) (b' : Nat → Nat) (H : Heap) (locs : List Loc) (ls : Array Slot), ((i + k = t) ∨ (k = 0 ∧ t ≤ i)) → (i ≤ 256) → (c9 ≤ mo) → (shC v mo (t - f) f 0 = shC v mo k i c9 ∧ shB v p9 mo (t - f) f 0 b = shB v p9 mo k i c9 b') → va_P (dC, dI) vwCl [(h, .inr (2, [.ref a])), (a, .inl (cI, 11, .inl (nf b'))), (hr, .inr (1, [.ref ar, .int (nI n)])), (ar, .inl (cI, 255, .inl (nf v)))] H → va_D A [(h, .inr (2, [.ref a])), (a, .inl (cI, 11, .inl (nf b'))), (hr, .inr (1, [.ref ar, .int (nI n)])), (ar, .inl (cI, 255, .inl (nf v)))] → va_S A s.heap H locs → lv_has ls 9 [(0, .ref h), (1, .ref hr), (3, .int (nI t)), (4, .int (nI p9)), (5, .int (nI mo)), (6, .int (nI c9)), (7, .int (nI i))] → W p l e ({ frames := 2, cells := 0, slots := 0, locals := 41 } : Room) s m ([.ref h, .ref hr, .int (nI f), .int (nI t), .int (nI p9), .int (nI mo)] : List Value).toArray below meth c H locs 0 0 Q (F0 m 6 ls []) := by
    intro k
    induction k with
    | zero =>
      intro i c9 b' H locs ls hi hi2 hc hE hP hD hS hl
      refine lv_iload hx hb d_Sn_shorten_6 (lv_at hl 6 rfl) ?_
      refine lv_iload_n hx hb d_Sn_shorten_8 rfl (lv_at hl 2 rfl) ?_
      refine lv_icmp_ge (tgt := 64) hx hb d_Sn_shorten_9 (by decide) (fun c_1 => ?_) (fun c_1 => ?_)
      · skip
        rw [nI_leI (by omega) (by omega)] at c_1
        refine lv_iload hx hb d_Sn_shorten_64 (lv_at hl 5 rfl) ?_
        have hw9 : ([(h, .inr (2, [.ref a])), (a, .inl (cI, 11, .inl (nf b'))), (hr, .inr (1, [.ref ar, .int (nI n)])), (ar, .inl (cI, 255, .inl (nf v)))] : va_W) = [(h, .inr (2, [.ref a])), (a, .inl (cI, 11, .inl (nf (shB v p9 mo (t - f) f 0 b)))), (hr, .inr (1, [.ref ar, .int (nI n)])), (ar, .inl (cI, 255, .inl (nf v)))] := by rw [hE.2]; first | rfl | rw [shB, if_neg (by omega)]
        rw [hw9] at hP hD
        exact mk_ti (by rw [hE.1]; first | rfl | rw [shC, if_neg (by omega)]) (hret _ _ _ _ d_Sn_shorten_66 hP hD hS)
      · skip
        rw [nI_leI (by omega) (by omega)] at c_1
        first | omega | contradiction
    | succ k ih6 =>
      intro i c9 b' H locs ls hi hi2 hc hE hP hD hS hl
      refine lv_iload hx hb d_Sn_shorten_6 (lv_at hl 6 rfl) ?_
      refine lv_iload_n hx hb d_Sn_shorten_8 rfl (lv_at hl 2 rfl) ?_
      refine lv_icmp_ge (tgt := 64) hx hb d_Sn_shorten_9 (by decide) (fun c_2 => ?_) (fun c_2 => ?_)
      · skip
        rw [nI_leI (by omega) (by omega)] at c_2
        first | omega | contradiction
      · skip
        rw [nI_leI (by omega) (by omega)] at c_2
        refine lv_iload hx hb d_Sn_shorten_12 (lv_at hl 5 rfl) ?_
        refine lv_iload hx hb d_Sn_shorten_14 (lv_at hl 4 rfl) ?_
        refine lv_icmp_ge (tgt := 64) hx hb d_Sn_shorten_16 (by decide) (fun c_3 => ?_) (fun c_3 => ?_)
        · skip
          rw [nI_leI (by omega) (by omega)] at c_3
          refine lv_iload hx hb d_Sn_shorten_64 (lv_at hl 5 rfl) ?_
          have hw9 : ([(h, .inr (2, [.ref a])), (a, .inl (cI, 11, .inl (nf b'))), (hr, .inr (1, [.ref ar, .int (nI n)])), (ar, .inl (cI, 255, .inl (nf v)))] : va_W) = [(h, .inr (2, [.ref a])), (a, .inl (cI, 11, .inl (nf (shB v p9 mo (t - f) f 0 b)))), (hr, .inr (1, [.ref ar, .int (nI n)])), (ar, .inl (cI, 255, .inl (nf v)))] := by rw [hE.2]; first | rfl | rw [shB, if_neg (by omega)]
          rw [hw9] at hP hD
          exact mk_ti (by rw [hE.1]; first | rfl | rw [shC, if_neg (by omega)]) (hret _ _ _ _ d_Sn_shorten_66 hP hD hS)
        · skip
          rw [nI_leI (by omega) (by omega)] at c_3
          refine lv_aload_n hx hb d_Sn_shorten_19 rfl (lv_at hl 1 rfl) ?_
          refine lv_iload hx hb d_Sn_shorten_20 (lv_at hl 6 rfl) ?_
          refine mk_r1 (W.runV (As := [.int (nI i)]) (rest := []) S (c_Ro_get l dC dI cI hr ar n v i (by first | assumption | omega) (by first | assumption | omega) (by first | assumption | omega)) (gV 1 hts k_385 k_141 k_142 k_25 k_143 (by decide +kernel) ⟨Nat.le_of_ble_eq_true rfl, Nat.le_of_ble_eq_true rfl⟩) (mk_vR hP hK hT hS [2, 3] rfl (q0 := 2) (ci := 1) rfl rfl) rfl rfl hl.1 rfl (lv_room (Nat.le_of_ble_eq_true rfl)) d_Sn_shorten_22 ⟨Nat.zero_le _, Nat.zero_le _⟩) ?_
          have b_4 := (show ∀ j9, v j9 < 65536 by assumption) i
          refine lv_istore (lv' := [(8, .int (nI (v i))), (0, .ref h), (1, .ref hr), (3, .int (nI t)), (4, .int (nI p9)), (5, .int (nI mo)), (6, .int (nI c9)), (7, .int (nI i))]) hx hb d_Sn_shorten_25 hl (by decide) rfl (fun ls hl => ?_)
          refine lv_iload hx hb d_Sn_shorten_27 (lv_at hl 0 rfl) ?_
          refine lv_bipush (v := nI 32) hx hb d_Sn_shorten_29 (by decide) ?_
          refine lv_icmp_eq (tgt := 58) hx hb d_Sn_shorten_31 (by decide) (fun c_5 => ?_) (fun c_5 => ?_)
          · skip
            rw [nI_eq (by omega) (by omega)] at c_5
            refine lv_iinc (v := nI (i + 1)) (lv' := [(7, .int (nI (i + 1))), (8, .int (nI (v i))), (0, .ref h), (1, .ref hr), (3, .int (nI t)), (4, .int (nI p9)), (5, .int (nI mo)), (6, .int (nI c9))]) hx hb d_Sn_shorten_58 hl (k := 7) rfl (mk_i1 i) (by decide) rfl (fun ls hl => ?_)
            refine lv_goto (tgt := 6) hx hb d_Sn_shorten_61 (by decide) ?_
            have hl : lv_has ls 9 [(0, .ref h), (1, .ref hr), (3, .int (nI t)), (4, .int (nI p9)), (5, .int (nI mo)), (6, .int (nI c9)), (7, .int (nI (i + 1)))] := lv_sub hl [2, 3, 4, 5, 6, 7, 0] rfl
            exact ih6 (i + 1) c9 b' _ _ _ (by omega) (by omega) (by omega) (by rw [hE.1, hE.2, shC, shB, if_pos (show c9 < mo by omega), if_pos (show c9 < mo by omega)]; first | rw [if_pos (by omega), if_pos (by omega)]; exact ⟨rfl, rfl⟩ | rw [if_neg (by omega), if_neg (by omega)]; exact ⟨rfl, rfl⟩) hP hD hS hl
          · skip
            rw [nI_eq (by omega) (by omega)] at c_5
            refine lv_iload hx hb d_Sn_shorten_34 (lv_at hl 0 rfl) ?_
            refine lv_bipush (v := nI 46) hx hb d_Sn_shorten_36 (by decide) ?_
            refine lv_icmp_eq (tgt := 58) hx hb d_Sn_shorten_38 (by decide) (fun c_6 => ?_) (fun c_6 => ?_)
            · skip
              rw [nI_eq (by omega) (by omega)] at c_6
              refine lv_iinc (v := nI (i + 1)) (lv' := [(7, .int (nI (i + 1))), (8, .int (nI (v i))), (0, .ref h), (1, .ref hr), (3, .int (nI t)), (4, .int (nI p9)), (5, .int (nI mo)), (6, .int (nI c9))]) hx hb d_Sn_shorten_58 hl (k := 7) rfl (mk_i1 i) (by decide) rfl (fun ls hl => ?_)
              refine lv_goto (tgt := 6) hx hb d_Sn_shorten_61 (by decide) ?_
              have hl : lv_has ls 9 [(0, .ref h), (1, .ref hr), (3, .int (nI t)), (4, .int (nI p9)), (5, .int (nI mo)), (6, .int (nI c9)), (7, .int (nI (i + 1)))] := lv_sub hl [2, 3, 4, 5, 6, 7, 0] rfl
              exact ih6 (i + 1) c9 b' _ _ _ (by omega) (by omega) (by omega) (by rw [hE.1, hE.2, shC, shB, if_pos (show c9 < mo by omega), if_pos (show c9 < mo by omega)]; first | rw [if_pos (by omega), if_pos (by omega)]; exact ⟨rfl, rfl⟩ | rw [if_neg (by omega), if_neg (by omega)]; exact ⟨rfl, rfl⟩) hP hD hS hl
            · skip
              rw [nI_eq (by omega) (by omega)] at c_6
              refine lv_aload_n hx hb d_Sn_shorten_41 rfl (lv_at hl 1 rfl) ?_
              refine lv_iload hx hb d_Sn_shorten_42 (lv_at hl 4 rfl) ?_
              refine lv_iload hx hb d_Sn_shorten_44 (lv_at hl 6 rfl) ?_
              refine lv_iadd hx hb d_Sn_shorten_46 ?_
              refine mk_ti (y := nI (p9 + c9)) (nI_add p9 c9) ?_
              refine lv_iload hx hb d_Sn_shorten_47 (lv_at hl 0 rfl) ?_
              refine mk_r1 (W.runS (As := [.int (nI (v i))]) (rest := [.int (nI (p9 + c9)), .ref h]) S (c_Un_sho l dC dI cI (v i) (by first | assumption | omega)) (gS 1 hts k_386 k_387 k_30 k_388 (by decide +kernel) ⟨Nat.le_of_ble_eq_true rfl, Nat.le_of_ble_eq_true rfl⟩) (mk_sR hP hK hT hS [] rfl) rfl rfl hl.1 rfl (lv_room (Nat.le_of_ble_eq_true rfl)) d_Sn_shorten_49 ⟨Nat.zero_le _, Nat.zero_le _⟩) ?_
              have b_7 := shoN_lt (show (v i) < 65536 by omega)
              refine mk_w0 (wr := [(hr, .inr (1, [.ref ar, .int (nI n)])), (ar, .inl (cI, 255, .inl (nf v)))]) (W.runV (As := [.int (nI (p9 + c9)), .int (nI (shoN (v i)))]) (rest := []) S ((c_Sn_set l dC dI cI h a b' (p9 + c9) (shoN (v i)) (by first | assumption | omega)) _) (gV 2 hts k_391 k_393 k_3 k_26 k_394 (by decide +kernel) ⟨Nat.le_of_ble_eq_true rfl, Nat.le_of_ble_eq_true rfl⟩) (mk_vM hP hD hK hT hS hA [0, 1] rfl rfl (by decide) (q0 := 0) (ci := 2) rfl rfl) rfl rfl hl.1 rfl (lv_room (Nat.le_of_ble_eq_true rfl)) d_Sn_shorten_52 ⟨Nat.zero_le _, Nat.zero_le _⟩) hP hD hS hA [0, 1] [2, 3] rfl rfl (by decide) (by decide) (fun H locs hP hD hS => ?_)
              have hP : va_P (dC, dI) vwCl [(h, .inr (2, [.ref a])), (a, .inl (cI, 11, .inl (nf (uN b' (p9 + c9) (shoN (v i)))))), (hr, .inr (1, [.ref ar, .int (nI n)])), (ar, .inl (cI, 255, .inl (nf v)))] H := hP.sub [2, 3, 0, 1] rfl
              have hD : va_D A [(h, .inr (2, [.ref a])), (a, .inl (cI, 11, .inl (nf (uN b' (p9 + c9) (shoN (v i)))))), (hr, .inr (1, [.ref ar, .int (nI n)])), (ar, .inl (cI, 255, .inl (nf v)))] := hD.sub [2, 3, 0, 1] (by decide) rfl
              refine lv_iinc (v := nI (c9 + 1)) (lv' := [(6, .int (nI (c9 + 1))), (8, .int (nI (v i))), (0, .ref h), (1, .ref hr), (3, .int (nI t)), (4, .int (nI p9)), (5, .int (nI mo)), (7, .int (nI i))]) hx hb d_Sn_shorten_55 hl (k := 6) rfl (mk_i1 c9) (by decide) rfl (fun ls hl => ?_)
              refine lv_iinc (v := nI (i + 1)) (lv' := [(7, .int (nI (i + 1))), (6, .int (nI (c9 + 1))), (8, .int (nI (v i))), (0, .ref h), (1, .ref hr), (3, .int (nI t)), (4, .int (nI p9)), (5, .int (nI mo))]) hx hb d_Sn_shorten_58 hl (k := 7) rfl (mk_i1 i) (by decide) rfl (fun ls hl => ?_)
              refine lv_goto (tgt := 6) hx hb d_Sn_shorten_61 (by decide) ?_
              have hl : lv_has ls 9 [(0, .ref h), (1, .ref hr), (3, .int (nI t)), (4, .int (nI p9)), (5, .int (nI mo)), (6, .int (nI (c9 + 1))), (7, .int (nI (i + 1)))] := lv_sub hl [3, 4, 5, 6, 7, 1, 0] rfl
              exact ih6 (i + 1) (c9 + 1) (uN b' (p9 + c9) (shoN (v i))) _ _ _ (by omega) (by omega) (by omega) (by rw [hE.1, hE.2, shC, shB, if_pos (show c9 < mo by omega), if_pos (show c9 < mo by omega)]; first | rw [if_pos (by omega), if_pos (by omega)]; exact ⟨rfl, rfl⟩ | rw [if_neg (by omega), if_neg (by omega)]; exact ⟨rfl, rfl⟩) hP hD hS hl
  have hl : lv_has ls 9 [(0, .ref h), (1, .ref hr), (3, .int (nI t)), (4, .int (nI p9)), (5, .int (nI mo)), (6, .int (nI 0)), (7, .int (nI f))] := lv_sub hl [2, 3, 5, 6, 7, 1, 0] rfl
  exact lp6 (t - f) f 0 b _ _ _ (by omega) hf (Nat.zero_le _) ⟨rfl, rfl⟩ hP hD hS hl

set_option maxHeartbeats 4000000 in
set_option maxRecDepth 100000 in
theorem c_Sn_shown0 (l : Launch) (dC : Nat → ClassId) (dI : Nat → Nat → Nat) (cI : ClassId) (h a : Nat) (b : Nat → Nat) (hr ar n : Nat) (v : Nat → Nat) (hn : n ≤ 255) (hv : ∀ j, v j < 65536) (h0 : lpN v n = 0) : mM l y_Sn_takeShown w_Sn_takeShown ({ frames := 3, cells := 0, slots := 0, locals := 69 } : Room) [.ref h, .ref hr] (dC, dI) vwCl [(cI, .int)] [(h, .inr (2, [.ref a])), (a, .inl (cI, 11, .inl (nf b))), (hr, .inr (1, [.ref ar, .int (nI n)])), (ar, .inl (cI, 255, .inl (nf v)))] none [(h, .inr (2, [.ref a])), (a, .inl (cI, 11, .inl (nf (tsN v n b)))), (hr, .inr (1, [.ref ar, .int (nI n)])), (ar, .inl (cI, 255, .inl (nf v)))] := by
  refine mk_Mv (cc := b_Sn_takeShown) (maxL := 4) (by decide) rfl (Nat.le_of_ble_eq_true rfl) ?_
  intro p e s m below meth c Q A ls S hP hK hT hS hl hD hA hret
  obtain ⟨hx, hb, hml, hown, hts⟩ := id S
  have hl : lv_has ls 4 [(0, .ref h), (1, .ref hr)] := hl
  refine lv_aload_n hx hb d_Sn_takeShown_0 rfl (lv_at hl 0 rfl) ?_
  refine va_get (D := (dC, dI)) (ci := 2) (v := .ref a) (C := "LongNames$ShortName") (T := F_Sn) (N := 1) hx hb hts (iw_Sn _) hown hK hP 0 rfl rfl 0 (by decide) (hts _ (List.mem_cons_of_mem _ k_67)) (fun _ h9 => h9) rfl d_Sn_takeShown_1 ?_
  refine lv_bipush (v := nI 32) hx hb d_Sn_takeShown_4 (by decide) ?_
  refine mk_w0 (wr := [(h, .inr (2, [.ref a])), (hr, .inr (1, [.ref ar, .int (nI n)])), (ar, .inl (cI, 255, .inl (nf v)))]) (W.runS (As := [.ref a, .int (nI 32)]) (rest := []) S ((c_Ar_fill11 l dC dI cI a b 32) _) (gS 2 hts k_376 k_377 k_36 k_378 (by decide +kernel) ⟨Nat.le_of_ble_eq_true rfl, Nat.le_of_ble_eq_true rfl⟩) (mk_sM hP hD hK hT hS hA [1] rfl rfl (by decide)) rfl rfl hl.1 rfl (lv_room (Nat.le_of_ble_eq_true rfl)) d_Sn_takeShown_6 ⟨Nat.zero_le _, Nat.zero_le _⟩) hP hD hS hA [1] [0, 2, 3] rfl rfl (by decide) (by decide) (fun H locs hP hD hS => ?_)
  have hP : va_P (dC, dI) vwCl [(h, .inr (2, [.ref a])), (a, .inl (cI, 11, .inl (nf (fiN b 32 11)))), (hr, .inr (1, [.ref ar, .int (nI n)])), (ar, .inl (cI, 255, .inl (nf v)))] H := hP.sub [0, 3, 1, 2] rfl
  have hD : va_D A [(h, .inr (2, [.ref a])), (a, .inl (cI, 11, .inl (nf (fiN b 32 11)))), (hr, .inr (1, [.ref ar, .int (nI n)])), (ar, .inl (cI, 255, .inl (nf v)))] := hD.sub [0, 3, 1, 2] (by decide) rfl
  refine lv_aload_n hx hb d_Sn_takeShown_9 rfl (lv_at hl 1 rfl) ?_
  refine mk_r1 (W.runV (As := []) (rest := []) S (c_Ro_lp0 l dC dI cI hr ar n v (by first | assumption | omega) (by first | assumption | omega) (by first | assumption | omega)) (gV 0 hts k_379 k_155 k_156 k_25 k_157 (by decide +kernel) ⟨Nat.le_of_ble_eq_true rfl, Nat.le_of_ble_eq_true rfl⟩) (mk_vR hP hK hT hS [2, 3] rfl (q0 := 2) (ci := 1) rfl rfl) rfl rfl hl.1 rfl (lv_room (Nat.le_of_ble_eq_true rfl)) d_Sn_takeShown_10 ⟨Nat.zero_le _, Nat.zero_le _⟩) ?_
  refine lv_istore_n (lv' := [(2, .int (-1)), (0, .ref h), (1, .ref hr)]) hx hb d_Sn_takeShown_13 rfl hl (by decide) rfl (fun ls hl => ?_)
  refine lv_iload_n hx hb d_Sn_takeShown_14 rfl (lv_at hl 0 rfl) ?_
  refine lv_iconst (v := (-1)) hx hb d_Sn_takeShown_15 (by decide) ?_
  refine lv_icmp_ne (tgt := 26) hx hb d_Sn_takeShown_16 (by decide) (fun c_1 => ?_) (fun c_1 => ?_)
  · skip
    exact absurd rfl c_1
  · skip
    refine lv_aload_n hx hb d_Sn_takeShown_19 rfl (lv_at hl 2 rfl) ?_
    refine mk_r1 (W.runV (As := []) (rest := []) S (c_Ro_size l dC dI cI hr ar n v) (gV 0 hts k_380 k_125 k_126 k_25 k_127 (by decide +kernel) ⟨Nat.le_of_ble_eq_true rfl, Nat.le_of_ble_eq_true rfl⟩) (mk_vR hP hK hT hS [2, 3] rfl (q0 := 2) (ci := 1) rfl rfl) rfl rfl hl.1 rfl (lv_room (Nat.le_of_ble_eq_true rfl)) d_Sn_takeShown_20 ⟨Nat.zero_le _, Nat.zero_le _⟩) ?_
    refine lv_goto (tgt := 27) hx hb d_Sn_takeShown_23 (by decide) ?_
    refine lv_istore_n (lv' := [(3, .int (nI n)), (2, .int (-1)), (0, .ref h), (1, .ref hr)]) hx hb d_Sn_takeShown_27 rfl hl (by decide) rfl (fun ls hl => ?_)
    refine lv_aload_n hx hb d_Sn_takeShown_28 rfl (lv_at hl 2 rfl) ?_
    refine lv_aload_n hx hb d_Sn_takeShown_29 rfl (lv_at hl 3 rfl) ?_
    refine lv_iconst (v := nI 0) hx hb d_Sn_takeShown_30 (by decide) ?_
    refine lv_iload_n hx hb d_Sn_takeShown_31 rfl (lv_at hl 0 rfl) ?_
    refine lv_iconst (v := nI 0) hx hb d_Sn_takeShown_32 (by decide) ?_
    refine lv_bipush (v := nI 8) hx hb d_Sn_takeShown_33 (by decide) ?_
    refine mk_w1 (wr := []) (W.runV (As := [.ref hr, .int (nI 0), .int (nI n), .int (nI 0), .int (nI 8)]) (rest := []) S ((c_Sn_sho l dC dI cI h a (fiN b 32 11) hr ar n v 0 n 0 8 (by first | assumption | omega) (by first | assumption | omega) (by first | assumption | omega) (by first | assumption | omega) (by first | assumption | omega)) _) (gV 5 hts k_381 k_383 k_2 k_26 k_384 (by decide +kernel) ⟨Nat.le_of_ble_eq_true rfl, Nat.le_of_ble_eq_true rfl⟩) (mk_vM hP hD hK hT hS hA [0, 1, 2, 3] rfl rfl (by decide) (q0 := 0) (ci := 2) rfl rfl) rfl rfl hl.1 rfl (lv_room (Nat.le_of_ble_eq_true rfl)) d_Sn_takeShown_35 ⟨Nat.zero_le _, Nat.zero_le _⟩) hP hD hS hA [0, 1, 2, 3] [] rfl rfl (by decide) (by decide) (fun H locs hP hD hS => ?_)
    have hP : va_P (dC, dI) vwCl [(h, .inr (2, [.ref a])), (a, .inl (cI, 11, .inl (nf (shB v 0 8 (n - 0) 0 0 (fiN b 32 11))))), (hr, .inr (1, [.ref ar, .int (nI n)])), (ar, .inl (cI, 255, .inl (nf v)))] H := hP.sub [0, 1, 2, 3] rfl
    have hD : va_D A [(h, .inr (2, [.ref a])), (a, .inl (cI, 11, .inl (nf (shB v 0 8 (n - 0) 0 0 (fiN b 32 11))))), (hr, .inr (1, [.ref ar, .int (nI n)])), (ar, .inl (cI, 255, .inl (nf v)))] := hD.sub [0, 1, 2, 3] (by decide) rfl
    have b_2 := shC_le v 8 (n - 0) 0 0 (Nat.zero_le _)
    refine lv_pop hx hb d_Sn_takeShown_38 rfl ?_
    refine lv_aload_n hx hb d_Sn_takeShown_39 rfl (lv_at hl 2 rfl) ?_
    refine lv_aload_n hx hb d_Sn_takeShown_40 rfl (lv_at hl 3 rfl) ?_
    refine lv_iload_n hx hb d_Sn_takeShown_41 rfl (lv_at hl 0 rfl) ?_
    refine lv_iconst (v := nI 1) hx hb d_Sn_takeShown_42 (by decide) ?_
    refine lv_iadd hx hb d_Sn_takeShown_43 ?_
    refine mk_ti (y := nI (n + 1)) (nI_add n 1) ?_
    refine lv_aload_n hx hb d_Sn_takeShown_44 rfl (lv_at hl 3 rfl) ?_
    refine mk_r1 (W.runV (As := []) (rest := [.int (nI (n + 1)), .ref hr, .ref h]) S (c_Ro_size l dC dI cI hr ar n v) (gV 0 hts k_380 k_125 k_126 k_25 k_127 (by decide +kernel) ⟨Nat.le_of_ble_eq_true rfl, Nat.le_of_ble_eq_true rfl⟩) (mk_vR hP hK hT hS [2, 3] rfl (q0 := 2) (ci := 1) rfl rfl) rfl rfl hl.1 rfl (lv_room (Nat.le_of_ble_eq_true rfl)) d_Sn_takeShown_45 ⟨Nat.zero_le _, Nat.zero_le _⟩) ?_
    refine lv_bipush (v := nI 8) hx hb d_Sn_takeShown_48 (by decide) ?_
    refine lv_iconst (v := nI 3) hx hb d_Sn_takeShown_50 (by decide) ?_
    refine mk_w1 (wr := []) (W.runV (As := [.ref hr, .int (nI (n + 1)), .int (nI n), .int (nI 8), .int (nI 3)]) (rest := []) S ((c_Sn_sho l dC dI cI h a (shB v 0 8 (n - 0) 0 0 (fiN b 32 11)) hr ar n v (n + 1) n 8 3 (by first | assumption | omega) (by first | assumption | omega) (by first | assumption | omega) (by first | assumption | omega) (by first | assumption | omega)) _) (gV 5 hts k_381 k_383 k_2 k_26 k_384 (by decide +kernel) ⟨Nat.le_of_ble_eq_true rfl, Nat.le_of_ble_eq_true rfl⟩) (mk_vM hP hD hK hT hS hA [0, 1, 2, 3] rfl rfl (by decide) (q0 := 0) (ci := 2) rfl rfl) rfl rfl hl.1 rfl (lv_room (Nat.le_of_ble_eq_true rfl)) d_Sn_takeShown_51 ⟨Nat.zero_le _, Nat.zero_le _⟩) hP hD hS hA [0, 1, 2, 3] [] rfl rfl (by decide) (by decide) (fun H locs hP hD hS => ?_)
    have hP : va_P (dC, dI) vwCl [(h, .inr (2, [.ref a])), (a, .inl (cI, 11, .inl (nf (shB v 8 3 (n - (n + 1)) (n + 1) 0 (shB v 0 8 (n - 0) 0 0 (fiN b 32 11)))))), (hr, .inr (1, [.ref ar, .int (nI n)])), (ar, .inl (cI, 255, .inl (nf v)))] H := hP.sub [0, 1, 2, 3] rfl
    have hD : va_D A [(h, .inr (2, [.ref a])), (a, .inl (cI, 11, .inl (nf (shB v 8 3 (n - (n + 1)) (n + 1) 0 (shB v 0 8 (n - 0) 0 0 (fiN b 32 11)))))), (hr, .inr (1, [.ref ar, .int (nI n)])), (ar, .inl (cI, 255, .inl (nf v)))] := hD.sub [0, 1, 2, 3] (by decide) rfl
    have b_3 := shC_le v 3 (n - (n + 1)) (n + 1) 0 (Nat.zero_le _)
    refine lv_pop hx hb d_Sn_takeShown_54 rfl ?_
    have hw9 : ([(h, .inr (2, [.ref a])), (a, .inl (cI, 11, .inl (nf (shB v 8 3 (n - (n + 1)) (n + 1) 0 (shB v 0 8 (n - 0) 0 0 (fiN b 32 11)))))), (hr, .inr (1, [.ref ar, .int (nI n)])), (ar, .inl (cI, 255, .inl (nf v)))] : va_W) = [(h, .inr (2, [.ref a])), (a, .inl (cI, 11, .inl (nf (tsN v n b)))), (hr, .inr (1, [.ref ar, .int (nI n)])), (ar, .inl (cI, 255, .inl (nf v)))] := by simp only [tsN, h0, if_pos, Nat.sub_zero]
    rw [hw9] at hP hD
    exact hret _ _ _ _ d_Sn_takeShown_55 hP hD hS

set_option maxHeartbeats 4000000 in
set_option maxRecDepth 100000 in
theorem c_Sn_shownS (l : Launch) (dC : Nat → ClassId) (dI : Nat → Nat → Nat) (cI : ClassId) (h a : Nat) (b : Nat → Nat) (hr ar n : Nat) (v : Nat → Nat) (m9 : Nat) (hn : n ≤ 255) (hv : ∀ j, v j < 65536) (h0 : lpN v n = m9 + 1) : mM l y_Sn_takeShown w_Sn_takeShown ({ frames := 3, cells := 0, slots := 0, locals := 69 } : Room) [.ref h, .ref hr] (dC, dI) vwCl [(cI, .int)] [(h, .inr (2, [.ref a])), (a, .inl (cI, 11, .inl (nf b))), (hr, .inr (1, [.ref ar, .int (nI n)])), (ar, .inl (cI, 255, .inl (nf v)))] none [(h, .inr (2, [.ref a])), (a, .inl (cI, 11, .inl (nf (tsN v n b)))), (hr, .inr (1, [.ref ar, .int (nI n)])), (ar, .inl (cI, 255, .inl (nf v)))] := by
  have hm9 := lpN_le v n
  refine mk_Mv (cc := b_Sn_takeShown) (maxL := 4) (by decide) rfl (Nat.le_of_ble_eq_true rfl) ?_
  intro p e s m below meth c Q A ls S hP hK hT hS hl hD hA hret
  obtain ⟨hx, hb, hml, hown, hts⟩ := id S
  have hl : lv_has ls 4 [(0, .ref h), (1, .ref hr)] := hl
  refine lv_aload_n hx hb d_Sn_takeShown_0 rfl (lv_at hl 0 rfl) ?_
  refine va_get (D := (dC, dI)) (ci := 2) (v := .ref a) (C := "LongNames$ShortName") (T := F_Sn) (N := 1) hx hb hts (iw_Sn _) hown hK hP 0 rfl rfl 0 (by decide) (hts _ (List.mem_cons_of_mem _ k_67)) (fun _ h9 => h9) rfl d_Sn_takeShown_1 ?_
  refine lv_bipush (v := nI 32) hx hb d_Sn_takeShown_4 (by decide) ?_
  refine mk_w0 (wr := [(h, .inr (2, [.ref a])), (hr, .inr (1, [.ref ar, .int (nI n)])), (ar, .inl (cI, 255, .inl (nf v)))]) (W.runS (As := [.ref a, .int (nI 32)]) (rest := []) S ((c_Ar_fill11 l dC dI cI a b 32) _) (gS 2 hts k_376 k_377 k_36 k_378 (by decide +kernel) ⟨Nat.le_of_ble_eq_true rfl, Nat.le_of_ble_eq_true rfl⟩) (mk_sM hP hD hK hT hS hA [1] rfl rfl (by decide)) rfl rfl hl.1 rfl (lv_room (Nat.le_of_ble_eq_true rfl)) d_Sn_takeShown_6 ⟨Nat.zero_le _, Nat.zero_le _⟩) hP hD hS hA [1] [0, 2, 3] rfl rfl (by decide) (by decide) (fun H locs hP hD hS => ?_)
  have hP : va_P (dC, dI) vwCl [(h, .inr (2, [.ref a])), (a, .inl (cI, 11, .inl (nf (fiN b 32 11)))), (hr, .inr (1, [.ref ar, .int (nI n)])), (ar, .inl (cI, 255, .inl (nf v)))] H := hP.sub [0, 3, 1, 2] rfl
  have hD : va_D A [(h, .inr (2, [.ref a])), (a, .inl (cI, 11, .inl (nf (fiN b 32 11)))), (hr, .inr (1, [.ref ar, .int (nI n)])), (ar, .inl (cI, 255, .inl (nf v)))] := hD.sub [0, 3, 1, 2] (by decide) rfl
  refine lv_aload_n hx hb d_Sn_takeShown_9 rfl (lv_at hl 1 rfl) ?_
  refine mk_r1 (W.runV (As := []) (rest := []) S (c_Ro_lpS l dC dI cI hr ar n v m9 (by first | assumption | omega) (by first | assumption | omega) (by first | assumption | omega)) (gV 0 hts k_379 k_155 k_156 k_25 k_157 (by decide +kernel) ⟨Nat.le_of_ble_eq_true rfl, Nat.le_of_ble_eq_true rfl⟩) (mk_vR hP hK hT hS [2, 3] rfl (q0 := 2) (ci := 1) rfl rfl) rfl rfl hl.1 rfl (lv_room (Nat.le_of_ble_eq_true rfl)) d_Sn_takeShown_10 ⟨Nat.zero_le _, Nat.zero_le _⟩) ?_
  refine lv_istore_n (lv' := [(2, .int (nI m9)), (0, .ref h), (1, .ref hr)]) hx hb d_Sn_takeShown_13 rfl hl (by decide) rfl (fun ls hl => ?_)
  refine lv_iload_n hx hb d_Sn_takeShown_14 rfl (lv_at hl 0 rfl) ?_
  refine lv_iconst (v := (-1)) hx hb d_Sn_takeShown_15 (by decide) ?_
  refine lv_icmp_ne (tgt := 26) hx hb d_Sn_takeShown_16 (by decide) (fun c_1 => ?_) (fun c_1 => ?_)
  · skip
    refine lv_iload_n hx hb d_Sn_takeShown_26 rfl (lv_at hl 0 rfl) ?_
    refine lv_istore_n (lv' := [(3, .int (nI m9)), (2, .int (nI m9)), (0, .ref h), (1, .ref hr)]) hx hb d_Sn_takeShown_27 rfl hl (by decide) rfl (fun ls hl => ?_)
    refine lv_aload_n hx hb d_Sn_takeShown_28 rfl (lv_at hl 2 rfl) ?_
    refine lv_aload_n hx hb d_Sn_takeShown_29 rfl (lv_at hl 3 rfl) ?_
    refine lv_iconst (v := nI 0) hx hb d_Sn_takeShown_30 (by decide) ?_
    refine lv_iload_n hx hb d_Sn_takeShown_31 rfl (lv_at hl 0 rfl) ?_
    refine lv_iconst (v := nI 0) hx hb d_Sn_takeShown_32 (by decide) ?_
    refine lv_bipush (v := nI 8) hx hb d_Sn_takeShown_33 (by decide) ?_
    refine mk_w1 (wr := []) (W.runV (As := [.ref hr, .int (nI 0), .int (nI m9), .int (nI 0), .int (nI 8)]) (rest := []) S ((c_Sn_sho l dC dI cI h a (fiN b 32 11) hr ar n v 0 m9 0 8 (by first | assumption | omega) (by first | assumption | omega) (by first | assumption | omega) (by first | assumption | omega) (by first | assumption | omega)) _) (gV 5 hts k_381 k_383 k_2 k_26 k_384 (by decide +kernel) ⟨Nat.le_of_ble_eq_true rfl, Nat.le_of_ble_eq_true rfl⟩) (mk_vM hP hD hK hT hS hA [0, 1, 2, 3] rfl rfl (by decide) (q0 := 0) (ci := 2) rfl rfl) rfl rfl hl.1 rfl (lv_room (Nat.le_of_ble_eq_true rfl)) d_Sn_takeShown_35 ⟨Nat.zero_le _, Nat.zero_le _⟩) hP hD hS hA [0, 1, 2, 3] [] rfl rfl (by decide) (by decide) (fun H locs hP hD hS => ?_)
    have hP : va_P (dC, dI) vwCl [(h, .inr (2, [.ref a])), (a, .inl (cI, 11, .inl (nf (shB v 0 8 (m9 - 0) 0 0 (fiN b 32 11))))), (hr, .inr (1, [.ref ar, .int (nI n)])), (ar, .inl (cI, 255, .inl (nf v)))] H := hP.sub [0, 1, 2, 3] rfl
    have hD : va_D A [(h, .inr (2, [.ref a])), (a, .inl (cI, 11, .inl (nf (shB v 0 8 (m9 - 0) 0 0 (fiN b 32 11))))), (hr, .inr (1, [.ref ar, .int (nI n)])), (ar, .inl (cI, 255, .inl (nf v)))] := hD.sub [0, 1, 2, 3] (by decide) rfl
    have b_2 := shC_le v 8 (m9 - 0) 0 0 (Nat.zero_le _)
    refine lv_pop hx hb d_Sn_takeShown_38 rfl ?_
    refine lv_aload_n hx hb d_Sn_takeShown_39 rfl (lv_at hl 2 rfl) ?_
    refine lv_aload_n hx hb d_Sn_takeShown_40 rfl (lv_at hl 3 rfl) ?_
    refine lv_iload_n hx hb d_Sn_takeShown_41 rfl (lv_at hl 0 rfl) ?_
    refine lv_iconst (v := nI 1) hx hb d_Sn_takeShown_42 (by decide) ?_
    refine lv_iadd hx hb d_Sn_takeShown_43 ?_
    refine mk_ti (y := nI (m9 + 1)) (nI_add m9 1) ?_
    refine lv_aload_n hx hb d_Sn_takeShown_44 rfl (lv_at hl 3 rfl) ?_
    refine mk_r1 (W.runV (As := []) (rest := [.int (nI (m9 + 1)), .ref hr, .ref h]) S (c_Ro_size l dC dI cI hr ar n v) (gV 0 hts k_380 k_125 k_126 k_25 k_127 (by decide +kernel) ⟨Nat.le_of_ble_eq_true rfl, Nat.le_of_ble_eq_true rfl⟩) (mk_vR hP hK hT hS [2, 3] rfl (q0 := 2) (ci := 1) rfl rfl) rfl rfl hl.1 rfl (lv_room (Nat.le_of_ble_eq_true rfl)) d_Sn_takeShown_45 ⟨Nat.zero_le _, Nat.zero_le _⟩) ?_
    refine lv_bipush (v := nI 8) hx hb d_Sn_takeShown_48 (by decide) ?_
    refine lv_iconst (v := nI 3) hx hb d_Sn_takeShown_50 (by decide) ?_
    refine mk_w1 (wr := []) (W.runV (As := [.ref hr, .int (nI (m9 + 1)), .int (nI n), .int (nI 8), .int (nI 3)]) (rest := []) S ((c_Sn_sho l dC dI cI h a (shB v 0 8 (m9 - 0) 0 0 (fiN b 32 11)) hr ar n v (m9 + 1) n 8 3 (by first | assumption | omega) (by first | assumption | omega) (by first | assumption | omega) (by first | assumption | omega) (by first | assumption | omega)) _) (gV 5 hts k_381 k_383 k_2 k_26 k_384 (by decide +kernel) ⟨Nat.le_of_ble_eq_true rfl, Nat.le_of_ble_eq_true rfl⟩) (mk_vM hP hD hK hT hS hA [0, 1, 2, 3] rfl rfl (by decide) (q0 := 0) (ci := 2) rfl rfl) rfl rfl hl.1 rfl (lv_room (Nat.le_of_ble_eq_true rfl)) d_Sn_takeShown_51 ⟨Nat.zero_le _, Nat.zero_le _⟩) hP hD hS hA [0, 1, 2, 3] [] rfl rfl (by decide) (by decide) (fun H locs hP hD hS => ?_)
    have hP : va_P (dC, dI) vwCl [(h, .inr (2, [.ref a])), (a, .inl (cI, 11, .inl (nf (shB v 8 3 (n - (m9 + 1)) (m9 + 1) 0 (shB v 0 8 (m9 - 0) 0 0 (fiN b 32 11)))))), (hr, .inr (1, [.ref ar, .int (nI n)])), (ar, .inl (cI, 255, .inl (nf v)))] H := hP.sub [0, 1, 2, 3] rfl
    have hD : va_D A [(h, .inr (2, [.ref a])), (a, .inl (cI, 11, .inl (nf (shB v 8 3 (n - (m9 + 1)) (m9 + 1) 0 (shB v 0 8 (m9 - 0) 0 0 (fiN b 32 11)))))), (hr, .inr (1, [.ref ar, .int (nI n)])), (ar, .inl (cI, 255, .inl (nf v)))] := hD.sub [0, 1, 2, 3] (by decide) rfl
    have b_3 := shC_le v 3 (n - (m9 + 1)) (m9 + 1) 0 (Nat.zero_le _)
    refine lv_pop hx hb d_Sn_takeShown_54 rfl ?_
    have hw9 : ([(h, .inr (2, [.ref a])), (a, .inl (cI, 11, .inl (nf (shB v 8 3 (n - (m9 + 1)) (m9 + 1) 0 (shB v 0 8 (m9 - 0) 0 0 (fiN b 32 11)))))), (hr, .inr (1, [.ref ar, .int (nI n)])), (ar, .inl (cI, 255, .inl (nf v)))] : va_W) = [(h, .inr (2, [.ref a])), (a, .inl (cI, 11, .inl (nf (tsN v n b)))), (hr, .inr (1, [.ref ar, .int (nI n)])), (ar, .inl (cI, 255, .inl (nf v)))] := by simp only [tsN, h0, Nat.sub_zero]; rfl
    rw [hw9] at hP hD
    exact hret _ _ _ _ d_Sn_takeShown_55 hP hD hS
  · skip
    exact absurd c_1 (mk_nm1 (by omega))

theorem c_Sn_shown (l : Launch) (dC : Nat → ClassId) (dI : Nat → Nat → Nat) (cI : ClassId) (h a : Nat) (b : Nat → Nat) (hr ar n : Nat) (v : Nat → Nat) (hn : n ≤ 255) (hv : ∀ j, v j < 65536) : mM l y_Sn_takeShown w_Sn_takeShown ({ frames := 3, cells := 0, slots := 0, locals := 69 } : Room) [.ref h, .ref hr] (dC, dI) vwCl [(cI, .int)] [(h, .inr (2, [.ref a])), (a, .inl (cI, 11, .inl (nf b))), (hr, .inr (1, [.ref ar, .int (nI n)])), (ar, .inl (cI, 255, .inl (nf v)))] none [(h, .inr (2, [.ref a])), (a, .inl (cI, 11, .inl (nf (tsN v n b)))), (hr, .inr (1, [.ref ar, .int (nI n)])), (ar, .inl (cI, 255, .inl (nf v)))] := by
  cases h0 : lpN v n with
  | zero => exact c_Sn_shown0 l dC dI cI h a b hr ar n v hn hv h0
  | succ m => exact c_Sn_shownS l dC dI cI h a b hr ar n v m hn hv h0

set_option maxHeartbeats 4000000 in
set_option maxRecDepth 100000 in
theorem c_Sn_tail0 (l : Launch) (dC : Nat → ClassId) (dI : Nat → Nat → Nat) (cI : ClassId) (h a : Nat) (b : Nat → Nat) (hr ar n : Nat) (v : Nat → Nat) (t : Nat) (hn : n ≤ 255) (hv : ∀ j, v j < 65536) (ht : t < 10000) (h0 : lpN v n = 0) : mM l y_Sn_takeTailed w_Sn_takeTailed ({ frames := 3, cells := 0, slots := 0, locals := 69 } : Room) [.ref h, .ref hr, .int (nI t)] (dC, dI) vwCl [(cI, .int)] [(h, .inr (2, [.ref a])), (a, .inl (cI, 11, .inl (nf b))), (hr, .inr (1, [.ref ar, .int (nI n)])), (ar, .inl (cI, 255, .inl (nf v)))] none [(h, .inr (2, [.ref a])), (a, .inl (cI, 11, .inl (nf (ttN v n t b)))), (hr, .inr (1, [.ref ar, .int (nI n)])), (ar, .inl (cI, 255, .inl (nf v)))] := by
  refine mk_Mv (cc := b_Sn_takeTailed) (maxL := 7) (by decide) rfl (Nat.le_of_ble_eq_true rfl) ?_
  intro p e s m below meth c Q A ls S hP hK hT hS hl hD hA hret
  obtain ⟨hx, hb, hml, hown, hts⟩ := id S
  have hl : lv_has ls 7 [(0, .ref h), (1, .ref hr), (2, .int (nI t))] := hl
  refine lv_aload_n hx hb d_Sn_takeTailed_0 rfl (lv_at hl 0 rfl) ?_
  refine va_get (D := (dC, dI)) (ci := 2) (v := .ref a) (C := "LongNames$ShortName") (T := F_Sn) (N := 1) hx hb hts (iw_Sn _) hown hK hP 0 rfl rfl 0 (by decide) (hts _ (List.mem_cons_of_mem _ k_67)) (fun _ h9 => h9) rfl d_Sn_takeTailed_1 ?_
  refine lv_bipush (v := nI 32) hx hb d_Sn_takeTailed_4 (by decide) ?_
  refine mk_w0 (wr := [(h, .inr (2, [.ref a])), (hr, .inr (1, [.ref ar, .int (nI n)])), (ar, .inl (cI, 255, .inl (nf v)))]) (W.runS (As := [.ref a, .int (nI 32)]) (rest := []) S ((c_Ar_fill11 l dC dI cI a b 32) _) (gS 2 hts k_376 k_377 k_36 k_378 (by decide +kernel) ⟨Nat.le_of_ble_eq_true rfl, Nat.le_of_ble_eq_true rfl⟩) (mk_sM hP hD hK hT hS hA [1] rfl rfl (by decide)) rfl rfl hl.1 rfl (lv_room (Nat.le_of_ble_eq_true rfl)) d_Sn_takeTailed_6 ⟨Nat.zero_le _, Nat.zero_le _⟩) hP hD hS hA [1] [0, 2, 3] rfl rfl (by decide) (by decide) (fun H locs hP hD hS => ?_)
  have hP : va_P (dC, dI) vwCl [(h, .inr (2, [.ref a])), (a, .inl (cI, 11, .inl (nf (fiN b 32 11)))), (hr, .inr (1, [.ref ar, .int (nI n)])), (ar, .inl (cI, 255, .inl (nf v)))] H := hP.sub [0, 3, 1, 2] rfl
  have hD : va_D A [(h, .inr (2, [.ref a])), (a, .inl (cI, 11, .inl (nf (fiN b 32 11)))), (hr, .inr (1, [.ref ar, .int (nI n)])), (ar, .inl (cI, 255, .inl (nf v)))] := hD.sub [0, 3, 1, 2] (by decide) rfl
  refine lv_aload_n hx hb d_Sn_takeTailed_9 rfl (lv_at hl 1 rfl) ?_
  refine mk_r1 (W.runV (As := []) (rest := []) S (c_Ro_lp0 l dC dI cI hr ar n v (by first | assumption | omega) (by first | assumption | omega) (by first | assumption | omega)) (gV 0 hts k_379 k_155 k_156 k_25 k_157 (by decide +kernel) ⟨Nat.le_of_ble_eq_true rfl, Nat.le_of_ble_eq_true rfl⟩) (mk_vR hP hK hT hS [2, 3] rfl (q0 := 2) (ci := 1) rfl rfl) rfl rfl hl.1 rfl (lv_room (Nat.le_of_ble_eq_true rfl)) d_Sn_takeTailed_10 ⟨Nat.zero_le _, Nat.zero_le _⟩) ?_
  refine lv_istore_n (lv' := [(3, .int (-1)), (0, .ref h), (1, .ref hr), (2, .int (nI t))]) hx hb d_Sn_takeTailed_13 rfl hl (by decide) rfl (fun ls hl => ?_)
  refine lv_iload_n hx hb d_Sn_takeTailed_14 rfl (lv_at hl 0 rfl) ?_
  refine lv_if_le (tgt := 22) hx hb d_Sn_takeTailed_15 (by decide) (fun c_1 => ?_) (fun c_1 => ?_)
  · skip
    refine lv_aload_n hx hb d_Sn_takeTailed_22 rfl (lv_at hl 2 rfl) ?_
    refine mk_r1 (W.runV (As := []) (rest := []) S (c_Ro_size l dC dI cI hr ar n v) (gV 0 hts k_380 k_125 k_126 k_25 k_127 (by decide +kernel) ⟨Nat.le_of_ble_eq_true rfl, Nat.le_of_ble_eq_true rfl⟩) (mk_vR hP hK hT hS [2, 3] rfl (q0 := 2) (ci := 1) rfl rfl) rfl rfl hl.1 rfl (lv_room (Nat.le_of_ble_eq_true rfl)) d_Sn_takeTailed_23 ⟨Nat.zero_le _, Nat.zero_le _⟩) ?_
    refine lv_istore (lv' := [(4, .int (nI n)), (3, .int (-1)), (0, .ref h), (1, .ref hr), (2, .int (nI t))]) hx hb d_Sn_takeTailed_26 hl (by decide) rfl (fun ls hl => ?_)
    refine lv_iload_n hx hb d_Sn_takeTailed_28 rfl (lv_at hl 4 rfl) ?_
    refine mk_r1 (W.runS (As := [.int (nI t)]) (rest := []) S (c_Sn_dig l dC dI cI t (by first | assumption | omega)) (gS 1 hts k_399 k_400 k_26 k_401 (by decide +kernel) ⟨Nat.le_of_ble_eq_true rfl, Nat.le_of_ble_eq_true rfl⟩) (mk_sR hP hK hT hS [] rfl) rfl rfl hl.1 rfl (lv_room (Nat.le_of_ble_eq_true rfl)) d_Sn_takeTailed_29 ⟨Nat.zero_le _, Nat.zero_le _⟩) ?_
    have b_2 := dgN_in t
    refine lv_istore (lv' := [(5, .int (nI (dgN t))), (4, .int (nI n)), (3, .int (-1)), (0, .ref h), (1, .ref hr), (2, .int (nI t))]) hx hb d_Sn_takeTailed_32 hl (by decide) rfl (fun ls hl => ?_)
    refine lv_aload_n hx hb d_Sn_takeTailed_34 rfl (lv_at hl 3 rfl) ?_
    refine lv_aload_n hx hb d_Sn_takeTailed_35 rfl (lv_at hl 4 rfl) ?_
    refine lv_iconst (v := nI 0) hx hb d_Sn_takeTailed_36 (by decide) ?_
    refine lv_iload hx hb d_Sn_takeTailed_37 (lv_at hl 1 rfl) ?_
    refine lv_iconst (v := nI 0) hx hb d_Sn_takeTailed_39 (by decide) ?_
    refine lv_bipush (v := nI 7) hx hb d_Sn_takeTailed_40 (by decide) ?_
    refine lv_iload hx hb d_Sn_takeTailed_42 (lv_at hl 0 rfl) ?_
    refine lv_isub hx hb d_Sn_takeTailed_44 ?_
    refine mk_ti (y := nI (7 - (dgN t))) (pk_sub (by omega)) ?_
    refine mk_w1 (wr := []) (W.runV (As := [.ref hr, .int (nI 0), .int (nI n), .int (nI 0), .int (nI (7 - (dgN t)))]) (rest := []) S ((c_Sn_sho l dC dI cI h a (fiN b 32 11) hr ar n v 0 n 0 (7 - (dgN t)) (by first | assumption | omega) (by first | assumption | omega) (by first | assumption | omega) (by first | assumption | omega) (by first | assumption | omega)) _) (gV 5 hts k_381 k_383 k_2 k_26 k_384 (by decide +kernel) ⟨Nat.le_of_ble_eq_true rfl, Nat.le_of_ble_eq_true rfl⟩) (mk_vM hP hD hK hT hS hA [0, 1, 2, 3] rfl rfl (by decide) (q0 := 0) (ci := 2) rfl rfl) rfl rfl hl.1 rfl (lv_room (Nat.le_of_ble_eq_true rfl)) d_Sn_takeTailed_45 ⟨Nat.zero_le _, Nat.zero_le _⟩) hP hD hS hA [0, 1, 2, 3] [] rfl rfl (by decide) (by decide) (fun H locs hP hD hS => ?_)
    have hP : va_P (dC, dI) vwCl [(h, .inr (2, [.ref a])), (a, .inl (cI, 11, .inl (nf (shB v 0 (7 - (dgN t)) (n - 0) 0 0 (fiN b 32 11))))), (hr, .inr (1, [.ref ar, .int (nI n)])), (ar, .inl (cI, 255, .inl (nf v)))] H := hP.sub [0, 1, 2, 3] rfl
    have hD : va_D A [(h, .inr (2, [.ref a])), (a, .inl (cI, 11, .inl (nf (shB v 0 (7 - (dgN t)) (n - 0) 0 0 (fiN b 32 11))))), (hr, .inr (1, [.ref ar, .int (nI n)])), (ar, .inl (cI, 255, .inl (nf v)))] := hD.sub [0, 1, 2, 3] (by decide) rfl
    have b_3 := shC_le v (7 - (dgN t)) (n - 0) 0 0 (Nat.zero_le _)
    refine lv_istore (lv' := [(6, .int (nI (shC v (7 - (dgN t)) (n - 0) 0 0))), (5, .int (nI (dgN t))), (4, .int (nI n)), (3, .int (-1)), (0, .ref h), (1, .ref hr), (2, .int (nI t))]) hx hb d_Sn_takeTailed_48 hl (by decide) rfl (fun ls hl => ?_)
    refine lv_aload_n hx hb d_Sn_takeTailed_50 rfl (lv_at hl 4 rfl) ?_
    refine lv_iload hx hb d_Sn_takeTailed_51 (lv_at hl 0 rfl) ?_
    refine lv_bipush (v := nI 126) hx hb d_Sn_takeTailed_53 (by decide) ?_
    refine mk_w0 (wr := [(hr, .inr (1, [.ref ar, .int (nI n)])), (ar, .inl (cI, 255, .inl (nf v)))]) (W.runV (As := [.int (nI (shC v (7 - (dgN t)) (n - 0) 0 0)), .int (nI 126)]) (rest := []) S ((c_Sn_set l dC dI cI h a (shB v 0 (7 - (dgN t)) (n - 0) 0 0 (fiN b 32 11)) (shC v (7 - (dgN t)) (n - 0) 0 0) 126 (by first | assumption | omega)) _) (gV 2 hts k_391 k_393 k_3 k_26 k_394 (by decide +kernel) ⟨Nat.le_of_ble_eq_true rfl, Nat.le_of_ble_eq_true rfl⟩) (mk_vM hP hD hK hT hS hA [0, 1] rfl rfl (by decide) (q0 := 0) (ci := 2) rfl rfl) rfl rfl hl.1 rfl (lv_room (Nat.le_of_ble_eq_true rfl)) d_Sn_takeTailed_55 ⟨Nat.zero_le _, Nat.zero_le _⟩) hP hD hS hA [0, 1] [2, 3] rfl rfl (by decide) (by decide) (fun H locs hP hD hS => ?_)
    have hP : va_P (dC, dI) vwCl [(h, .inr (2, [.ref a])), (a, .inl (cI, 11, .inl (nf (uN (shB v 0 (7 - (dgN t)) (n - 0) 0 0 (fiN b 32 11)) (shC v (7 - (dgN t)) (n - 0) 0 0) 126)))), (hr, .inr (1, [.ref ar, .int (nI n)])), (ar, .inl (cI, 255, .inl (nf v)))] H := hP.sub [2, 3, 0, 1] rfl
    have hD : va_D A [(h, .inr (2, [.ref a])), (a, .inl (cI, 11, .inl (nf (uN (shB v 0 (7 - (dgN t)) (n - 0) 0 0 (fiN b 32 11)) (shC v (7 - (dgN t)) (n - 0) 0 0) 126)))), (hr, .inr (1, [.ref ar, .int (nI n)])), (ar, .inl (cI, 255, .inl (nf v)))] := hD.sub [2, 3, 0, 1] (by decide) rfl
    refine lv_aload_n hx hb d_Sn_takeTailed_58 rfl (lv_at hl 4 rfl) ?_
    refine lv_iload hx hb d_Sn_takeTailed_59 (lv_at hl 0 rfl) ?_
    refine lv_iconst (v := nI 1) hx hb d_Sn_takeTailed_61 (by decide) ?_
    refine lv_iadd hx hb d_Sn_takeTailed_62 ?_
    refine mk_ti (y := nI (shC v (7 - (dgN t)) (n - 0) 0 0 + 1)) (nI_add (shC v (7 - (dgN t)) (n - 0) 0 0) 1) ?_
    refine lv_iload hx hb d_Sn_takeTailed_63 (lv_at hl 1 rfl) ?_
    refine lv_iload_n hx hb d_Sn_takeTailed_65 rfl (lv_at hl 6 rfl) ?_
    refine mk_w0 (wr := [(hr, .inr (1, [.ref ar, .int (nI n)])), (ar, .inl (cI, 255, .inl (nf v)))]) (W.runV (As := [.int (nI (shC v (7 - (dgN t)) (n - 0) 0 0 + 1)), .int (nI (dgN t)), .int (nI t)]) (rest := []) S ((c_Sn_num l dC dI cI h a (uN (shB v 0 (7 - (dgN t)) (n - 0) 0 0 (fiN b 32 11)) (shC v (7 - (dgN t)) (n - 0) 0 0) 126) (shC v (7 - (dgN t)) (n - 0) 0 0 + 1) (dgN t) t (by first | assumption | omega) (by first | assumption | omega)) _) (gV 3 hts k_402 k_404 k_4 k_26 k_405 (by decide +kernel) ⟨Nat.le_of_ble_eq_true rfl, Nat.le_of_ble_eq_true rfl⟩) (mk_vM hP hD hK hT hS hA [0, 1] rfl rfl (by decide) (q0 := 0) (ci := 2) rfl rfl) rfl rfl hl.1 rfl (lv_room (Nat.le_of_ble_eq_true rfl)) d_Sn_takeTailed_66 ⟨Nat.zero_le _, Nat.zero_le _⟩) hP hD hS hA [0, 1] [2, 3] rfl rfl (by decide) (by decide) (fun H locs hP hD hS => ?_)
    have hP : va_P (dC, dI) vwCl [(h, .inr (2, [.ref a])), (a, .inl (cI, 11, .inl (nf (nuN (shC v (7 - (dgN t)) (n - 0) 0 0 + 1) (dgN t) t (uN (shB v 0 (7 - (dgN t)) (n - 0) 0 0 (fiN b 32 11)) (shC v (7 - (dgN t)) (n - 0) 0 0) 126))))), (hr, .inr (1, [.ref ar, .int (nI n)])), (ar, .inl (cI, 255, .inl (nf v)))] H := hP.sub [2, 3, 0, 1] rfl
    have hD : va_D A [(h, .inr (2, [.ref a])), (a, .inl (cI, 11, .inl (nf (nuN (shC v (7 - (dgN t)) (n - 0) 0 0 + 1) (dgN t) t (uN (shB v 0 (7 - (dgN t)) (n - 0) 0 0 (fiN b 32 11)) (shC v (7 - (dgN t)) (n - 0) 0 0) 126))))), (hr, .inr (1, [.ref ar, .int (nI n)])), (ar, .inl (cI, 255, .inl (nf v)))] := hD.sub [2, 3, 0, 1] (by decide) rfl
    refine lv_aload_n hx hb d_Sn_takeTailed_69 rfl (lv_at hl 4 rfl) ?_
    refine lv_aload_n hx hb d_Sn_takeTailed_70 rfl (lv_at hl 5 rfl) ?_
    refine lv_iload hx hb d_Sn_takeTailed_71 (lv_at hl 2 rfl) ?_
    refine lv_iconst (v := nI 1) hx hb d_Sn_takeTailed_73 (by decide) ?_
    refine lv_iadd hx hb d_Sn_takeTailed_74 ?_
    refine mk_ti (y := nI (n + 1)) (nI_add n 1) ?_
    refine lv_aload_n hx hb d_Sn_takeTailed_75 rfl (lv_at hl 5 rfl) ?_
    refine mk_r1 (W.runV (As := []) (rest := [.int (nI (n + 1)), .ref hr, .ref h]) S (c_Ro_size l dC dI cI hr ar n v) (gV 0 hts k_380 k_125 k_126 k_25 k_127 (by decide +kernel) ⟨Nat.le_of_ble_eq_true rfl, Nat.le_of_ble_eq_true rfl⟩) (mk_vR hP hK hT hS [2, 3] rfl (q0 := 2) (ci := 1) rfl rfl) rfl rfl hl.1 rfl (lv_room (Nat.le_of_ble_eq_true rfl)) d_Sn_takeTailed_76 ⟨Nat.zero_le _, Nat.zero_le _⟩) ?_
    refine lv_bipush (v := nI 8) hx hb d_Sn_takeTailed_79 (by decide) ?_
    refine lv_iconst (v := nI 3) hx hb d_Sn_takeTailed_81 (by decide) ?_
    refine mk_w1 (wr := []) (W.runV (As := [.ref hr, .int (nI (n + 1)), .int (nI n), .int (nI 8), .int (nI 3)]) (rest := []) S ((c_Sn_sho l dC dI cI h a (nuN (shC v (7 - (dgN t)) (n - 0) 0 0 + 1) (dgN t) t (uN (shB v 0 (7 - (dgN t)) (n - 0) 0 0 (fiN b 32 11)) (shC v (7 - (dgN t)) (n - 0) 0 0) 126)) hr ar n v (n + 1) n 8 3 (by first | assumption | omega) (by first | assumption | omega) (by first | assumption | omega) (by first | assumption | omega) (by first | assumption | omega)) _) (gV 5 hts k_381 k_383 k_2 k_26 k_384 (by decide +kernel) ⟨Nat.le_of_ble_eq_true rfl, Nat.le_of_ble_eq_true rfl⟩) (mk_vM hP hD hK hT hS hA [0, 1, 2, 3] rfl rfl (by decide) (q0 := 0) (ci := 2) rfl rfl) rfl rfl hl.1 rfl (lv_room (Nat.le_of_ble_eq_true rfl)) d_Sn_takeTailed_82 ⟨Nat.zero_le _, Nat.zero_le _⟩) hP hD hS hA [0, 1, 2, 3] [] rfl rfl (by decide) (by decide) (fun H locs hP hD hS => ?_)
    have hP : va_P (dC, dI) vwCl [(h, .inr (2, [.ref a])), (a, .inl (cI, 11, .inl (nf (shB v 8 3 (n - (n + 1)) (n + 1) 0 (nuN (shC v (7 - (dgN t)) (n - 0) 0 0 + 1) (dgN t) t (uN (shB v 0 (7 - (dgN t)) (n - 0) 0 0 (fiN b 32 11)) (shC v (7 - (dgN t)) (n - 0) 0 0) 126)))))), (hr, .inr (1, [.ref ar, .int (nI n)])), (ar, .inl (cI, 255, .inl (nf v)))] H := hP.sub [0, 1, 2, 3] rfl
    have hD : va_D A [(h, .inr (2, [.ref a])), (a, .inl (cI, 11, .inl (nf (shB v 8 3 (n - (n + 1)) (n + 1) 0 (nuN (shC v (7 - (dgN t)) (n - 0) 0 0 + 1) (dgN t) t (uN (shB v 0 (7 - (dgN t)) (n - 0) 0 0 (fiN b 32 11)) (shC v (7 - (dgN t)) (n - 0) 0 0) 126)))))), (hr, .inr (1, [.ref ar, .int (nI n)])), (ar, .inl (cI, 255, .inl (nf v)))] := hD.sub [0, 1, 2, 3] (by decide) rfl
    have b_4 := shC_le v 3 (n - (n + 1)) (n + 1) 0 (Nat.zero_le _)
    refine lv_pop hx hb d_Sn_takeTailed_85 rfl ?_
    have hw9 : ([(h, .inr (2, [.ref a])), (a, .inl (cI, 11, .inl (nf (shB v 8 3 (n - (n + 1)) (n + 1) 0 (nuN (shC v (7 - (dgN t)) (n - 0) 0 0 + 1) (dgN t) t (uN (shB v 0 (7 - (dgN t)) (n - 0) 0 0 (fiN b 32 11)) (shC v (7 - (dgN t)) (n - 0) 0 0) 126)))))), (hr, .inr (1, [.ref ar, .int (nI n)])), (ar, .inl (cI, 255, .inl (nf v)))] : va_W) = [(h, .inr (2, [.ref a])), (a, .inl (cI, 11, .inl (nf (ttN v n t b)))), (hr, .inr (1, [.ref ar, .int (nI n)])), (ar, .inl (cI, 255, .inl (nf v)))] := by simp only [ttN, show (if lpN v n ≤ 1 then n else lpN v n - 1) = n from (by rw [h0]; split <;> omega), Nat.sub_zero]
    rw [hw9] at hP hD
    exact hret _ _ _ _ d_Sn_takeTailed_86 hP hD hS
  · skip
    exact absurd (by decide) c_1

set_option maxHeartbeats 4000000 in
set_option maxRecDepth 100000 in
theorem c_Sn_tailS (l : Launch) (dC : Nat → ClassId) (dI : Nat → Nat → Nat) (cI : ClassId) (h a : Nat) (b : Nat → Nat) (hr ar n : Nat) (v : Nat → Nat) (t m9 : Nat) (hn : n ≤ 255) (hv : ∀ j, v j < 65536) (ht : t < 10000) (h0 : lpN v n = m9 + 1) : mM l y_Sn_takeTailed w_Sn_takeTailed ({ frames := 3, cells := 0, slots := 0, locals := 69 } : Room) [.ref h, .ref hr, .int (nI t)] (dC, dI) vwCl [(cI, .int)] [(h, .inr (2, [.ref a])), (a, .inl (cI, 11, .inl (nf b))), (hr, .inr (1, [.ref ar, .int (nI n)])), (ar, .inl (cI, 255, .inl (nf v)))] none [(h, .inr (2, [.ref a])), (a, .inl (cI, 11, .inl (nf (ttN v n t b)))), (hr, .inr (1, [.ref ar, .int (nI n)])), (ar, .inl (cI, 255, .inl (nf v)))] := by
  have hm9 := lpN_le v n
  refine mk_Mv (cc := b_Sn_takeTailed) (maxL := 7) (by decide) rfl (Nat.le_of_ble_eq_true rfl) ?_
  intro p e s m below meth c Q A ls S hP hK hT hS hl hD hA hret
  obtain ⟨hx, hb, hml, hown, hts⟩ := id S
  have hl : lv_has ls 7 [(0, .ref h), (1, .ref hr), (2, .int (nI t))] := hl
  refine lv_aload_n hx hb d_Sn_takeTailed_0 rfl (lv_at hl 0 rfl) ?_
  refine va_get (D := (dC, dI)) (ci := 2) (v := .ref a) (C := "LongNames$ShortName") (T := F_Sn) (N := 1) hx hb hts (iw_Sn _) hown hK hP 0 rfl rfl 0 (by decide) (hts _ (List.mem_cons_of_mem _ k_67)) (fun _ h9 => h9) rfl d_Sn_takeTailed_1 ?_
  refine lv_bipush (v := nI 32) hx hb d_Sn_takeTailed_4 (by decide) ?_
  refine mk_w0 (wr := [(h, .inr (2, [.ref a])), (hr, .inr (1, [.ref ar, .int (nI n)])), (ar, .inl (cI, 255, .inl (nf v)))]) (W.runS (As := [.ref a, .int (nI 32)]) (rest := []) S ((c_Ar_fill11 l dC dI cI a b 32) _) (gS 2 hts k_376 k_377 k_36 k_378 (by decide +kernel) ⟨Nat.le_of_ble_eq_true rfl, Nat.le_of_ble_eq_true rfl⟩) (mk_sM hP hD hK hT hS hA [1] rfl rfl (by decide)) rfl rfl hl.1 rfl (lv_room (Nat.le_of_ble_eq_true rfl)) d_Sn_takeTailed_6 ⟨Nat.zero_le _, Nat.zero_le _⟩) hP hD hS hA [1] [0, 2, 3] rfl rfl (by decide) (by decide) (fun H locs hP hD hS => ?_)
  have hP : va_P (dC, dI) vwCl [(h, .inr (2, [.ref a])), (a, .inl (cI, 11, .inl (nf (fiN b 32 11)))), (hr, .inr (1, [.ref ar, .int (nI n)])), (ar, .inl (cI, 255, .inl (nf v)))] H := hP.sub [0, 3, 1, 2] rfl
  have hD : va_D A [(h, .inr (2, [.ref a])), (a, .inl (cI, 11, .inl (nf (fiN b 32 11)))), (hr, .inr (1, [.ref ar, .int (nI n)])), (ar, .inl (cI, 255, .inl (nf v)))] := hD.sub [0, 3, 1, 2] (by decide) rfl
  refine lv_aload_n hx hb d_Sn_takeTailed_9 rfl (lv_at hl 1 rfl) ?_
  refine mk_r1 (W.runV (As := []) (rest := []) S (c_Ro_lpS l dC dI cI hr ar n v m9 (by first | assumption | omega) (by first | assumption | omega) (by first | assumption | omega)) (gV 0 hts k_379 k_155 k_156 k_25 k_157 (by decide +kernel) ⟨Nat.le_of_ble_eq_true rfl, Nat.le_of_ble_eq_true rfl⟩) (mk_vR hP hK hT hS [2, 3] rfl (q0 := 2) (ci := 1) rfl rfl) rfl rfl hl.1 rfl (lv_room (Nat.le_of_ble_eq_true rfl)) d_Sn_takeTailed_10 ⟨Nat.zero_le _, Nat.zero_le _⟩) ?_
  refine lv_istore_n (lv' := [(3, .int (nI m9)), (0, .ref h), (1, .ref hr), (2, .int (nI t))]) hx hb d_Sn_takeTailed_13 rfl hl (by decide) rfl (fun ls hl => ?_)
  refine lv_iload_n hx hb d_Sn_takeTailed_14 rfl (lv_at hl 0 rfl) ?_
  refine lv_if_le (tgt := 22) hx hb d_Sn_takeTailed_15 (by decide) (fun c_1 => ?_) (fun c_1 => ?_)
  · skip
    rw [mk_cle (by omega)] at c_1
    refine lv_aload_n hx hb d_Sn_takeTailed_22 rfl (lv_at hl 2 rfl) ?_
    refine mk_r1 (W.runV (As := []) (rest := []) S (c_Ro_size l dC dI cI hr ar n v) (gV 0 hts k_380 k_125 k_126 k_25 k_127 (by decide +kernel) ⟨Nat.le_of_ble_eq_true rfl, Nat.le_of_ble_eq_true rfl⟩) (mk_vR hP hK hT hS [2, 3] rfl (q0 := 2) (ci := 1) rfl rfl) rfl rfl hl.1 rfl (lv_room (Nat.le_of_ble_eq_true rfl)) d_Sn_takeTailed_23 ⟨Nat.zero_le _, Nat.zero_le _⟩) ?_
    refine lv_istore (lv' := [(4, .int (nI n)), (3, .int (nI m9)), (0, .ref h), (1, .ref hr), (2, .int (nI t))]) hx hb d_Sn_takeTailed_26 hl (by decide) rfl (fun ls hl => ?_)
    refine lv_iload_n hx hb d_Sn_takeTailed_28 rfl (lv_at hl 4 rfl) ?_
    refine mk_r1 (W.runS (As := [.int (nI t)]) (rest := []) S (c_Sn_dig l dC dI cI t (by first | assumption | omega)) (gS 1 hts k_399 k_400 k_26 k_401 (by decide +kernel) ⟨Nat.le_of_ble_eq_true rfl, Nat.le_of_ble_eq_true rfl⟩) (mk_sR hP hK hT hS [] rfl) rfl rfl hl.1 rfl (lv_room (Nat.le_of_ble_eq_true rfl)) d_Sn_takeTailed_29 ⟨Nat.zero_le _, Nat.zero_le _⟩) ?_
    have b_2 := dgN_in t
    refine lv_istore (lv' := [(5, .int (nI (dgN t))), (4, .int (nI n)), (3, .int (nI m9)), (0, .ref h), (1, .ref hr), (2, .int (nI t))]) hx hb d_Sn_takeTailed_32 hl (by decide) rfl (fun ls hl => ?_)
    refine lv_aload_n hx hb d_Sn_takeTailed_34 rfl (lv_at hl 3 rfl) ?_
    refine lv_aload_n hx hb d_Sn_takeTailed_35 rfl (lv_at hl 4 rfl) ?_
    refine lv_iconst (v := nI 0) hx hb d_Sn_takeTailed_36 (by decide) ?_
    refine lv_iload hx hb d_Sn_takeTailed_37 (lv_at hl 1 rfl) ?_
    refine lv_iconst (v := nI 0) hx hb d_Sn_takeTailed_39 (by decide) ?_
    refine lv_bipush (v := nI 7) hx hb d_Sn_takeTailed_40 (by decide) ?_
    refine lv_iload hx hb d_Sn_takeTailed_42 (lv_at hl 0 rfl) ?_
    refine lv_isub hx hb d_Sn_takeTailed_44 ?_
    refine mk_ti (y := nI (7 - (dgN t))) (pk_sub (by omega)) ?_
    refine mk_w1 (wr := []) (W.runV (As := [.ref hr, .int (nI 0), .int (nI n), .int (nI 0), .int (nI (7 - (dgN t)))]) (rest := []) S ((c_Sn_sho l dC dI cI h a (fiN b 32 11) hr ar n v 0 n 0 (7 - (dgN t)) (by first | assumption | omega) (by first | assumption | omega) (by first | assumption | omega) (by first | assumption | omega) (by first | assumption | omega)) _) (gV 5 hts k_381 k_383 k_2 k_26 k_384 (by decide +kernel) ⟨Nat.le_of_ble_eq_true rfl, Nat.le_of_ble_eq_true rfl⟩) (mk_vM hP hD hK hT hS hA [0, 1, 2, 3] rfl rfl (by decide) (q0 := 0) (ci := 2) rfl rfl) rfl rfl hl.1 rfl (lv_room (Nat.le_of_ble_eq_true rfl)) d_Sn_takeTailed_45 ⟨Nat.zero_le _, Nat.zero_le _⟩) hP hD hS hA [0, 1, 2, 3] [] rfl rfl (by decide) (by decide) (fun H locs hP hD hS => ?_)
    have hP : va_P (dC, dI) vwCl [(h, .inr (2, [.ref a])), (a, .inl (cI, 11, .inl (nf (shB v 0 (7 - (dgN t)) (n - 0) 0 0 (fiN b 32 11))))), (hr, .inr (1, [.ref ar, .int (nI n)])), (ar, .inl (cI, 255, .inl (nf v)))] H := hP.sub [0, 1, 2, 3] rfl
    have hD : va_D A [(h, .inr (2, [.ref a])), (a, .inl (cI, 11, .inl (nf (shB v 0 (7 - (dgN t)) (n - 0) 0 0 (fiN b 32 11))))), (hr, .inr (1, [.ref ar, .int (nI n)])), (ar, .inl (cI, 255, .inl (nf v)))] := hD.sub [0, 1, 2, 3] (by decide) rfl
    have b_3 := shC_le v (7 - (dgN t)) (n - 0) 0 0 (Nat.zero_le _)
    refine lv_istore (lv' := [(6, .int (nI (shC v (7 - (dgN t)) (n - 0) 0 0))), (5, .int (nI (dgN t))), (4, .int (nI n)), (3, .int (nI m9)), (0, .ref h), (1, .ref hr), (2, .int (nI t))]) hx hb d_Sn_takeTailed_48 hl (by decide) rfl (fun ls hl => ?_)
    refine lv_aload_n hx hb d_Sn_takeTailed_50 rfl (lv_at hl 4 rfl) ?_
    refine lv_iload hx hb d_Sn_takeTailed_51 (lv_at hl 0 rfl) ?_
    refine lv_bipush (v := nI 126) hx hb d_Sn_takeTailed_53 (by decide) ?_
    refine mk_w0 (wr := [(hr, .inr (1, [.ref ar, .int (nI n)])), (ar, .inl (cI, 255, .inl (nf v)))]) (W.runV (As := [.int (nI (shC v (7 - (dgN t)) (n - 0) 0 0)), .int (nI 126)]) (rest := []) S ((c_Sn_set l dC dI cI h a (shB v 0 (7 - (dgN t)) (n - 0) 0 0 (fiN b 32 11)) (shC v (7 - (dgN t)) (n - 0) 0 0) 126 (by first | assumption | omega)) _) (gV 2 hts k_391 k_393 k_3 k_26 k_394 (by decide +kernel) ⟨Nat.le_of_ble_eq_true rfl, Nat.le_of_ble_eq_true rfl⟩) (mk_vM hP hD hK hT hS hA [0, 1] rfl rfl (by decide) (q0 := 0) (ci := 2) rfl rfl) rfl rfl hl.1 rfl (lv_room (Nat.le_of_ble_eq_true rfl)) d_Sn_takeTailed_55 ⟨Nat.zero_le _, Nat.zero_le _⟩) hP hD hS hA [0, 1] [2, 3] rfl rfl (by decide) (by decide) (fun H locs hP hD hS => ?_)
    have hP : va_P (dC, dI) vwCl [(h, .inr (2, [.ref a])), (a, .inl (cI, 11, .inl (nf (uN (shB v 0 (7 - (dgN t)) (n - 0) 0 0 (fiN b 32 11)) (shC v (7 - (dgN t)) (n - 0) 0 0) 126)))), (hr, .inr (1, [.ref ar, .int (nI n)])), (ar, .inl (cI, 255, .inl (nf v)))] H := hP.sub [2, 3, 0, 1] rfl
    have hD : va_D A [(h, .inr (2, [.ref a])), (a, .inl (cI, 11, .inl (nf (uN (shB v 0 (7 - (dgN t)) (n - 0) 0 0 (fiN b 32 11)) (shC v (7 - (dgN t)) (n - 0) 0 0) 126)))), (hr, .inr (1, [.ref ar, .int (nI n)])), (ar, .inl (cI, 255, .inl (nf v)))] := hD.sub [2, 3, 0, 1] (by decide) rfl
    refine lv_aload_n hx hb d_Sn_takeTailed_58 rfl (lv_at hl 4 rfl) ?_
    refine lv_iload hx hb d_Sn_takeTailed_59 (lv_at hl 0 rfl) ?_
    refine lv_iconst (v := nI 1) hx hb d_Sn_takeTailed_61 (by decide) ?_
    refine lv_iadd hx hb d_Sn_takeTailed_62 ?_
    refine mk_ti (y := nI (shC v (7 - (dgN t)) (n - 0) 0 0 + 1)) (nI_add (shC v (7 - (dgN t)) (n - 0) 0 0) 1) ?_
    refine lv_iload hx hb d_Sn_takeTailed_63 (lv_at hl 1 rfl) ?_
    refine lv_iload_n hx hb d_Sn_takeTailed_65 rfl (lv_at hl 6 rfl) ?_
    refine mk_w0 (wr := [(hr, .inr (1, [.ref ar, .int (nI n)])), (ar, .inl (cI, 255, .inl (nf v)))]) (W.runV (As := [.int (nI (shC v (7 - (dgN t)) (n - 0) 0 0 + 1)), .int (nI (dgN t)), .int (nI t)]) (rest := []) S ((c_Sn_num l dC dI cI h a (uN (shB v 0 (7 - (dgN t)) (n - 0) 0 0 (fiN b 32 11)) (shC v (7 - (dgN t)) (n - 0) 0 0) 126) (shC v (7 - (dgN t)) (n - 0) 0 0 + 1) (dgN t) t (by first | assumption | omega) (by first | assumption | omega)) _) (gV 3 hts k_402 k_404 k_4 k_26 k_405 (by decide +kernel) ⟨Nat.le_of_ble_eq_true rfl, Nat.le_of_ble_eq_true rfl⟩) (mk_vM hP hD hK hT hS hA [0, 1] rfl rfl (by decide) (q0 := 0) (ci := 2) rfl rfl) rfl rfl hl.1 rfl (lv_room (Nat.le_of_ble_eq_true rfl)) d_Sn_takeTailed_66 ⟨Nat.zero_le _, Nat.zero_le _⟩) hP hD hS hA [0, 1] [2, 3] rfl rfl (by decide) (by decide) (fun H locs hP hD hS => ?_)
    have hP : va_P (dC, dI) vwCl [(h, .inr (2, [.ref a])), (a, .inl (cI, 11, .inl (nf (nuN (shC v (7 - (dgN t)) (n - 0) 0 0 + 1) (dgN t) t (uN (shB v 0 (7 - (dgN t)) (n - 0) 0 0 (fiN b 32 11)) (shC v (7 - (dgN t)) (n - 0) 0 0) 126))))), (hr, .inr (1, [.ref ar, .int (nI n)])), (ar, .inl (cI, 255, .inl (nf v)))] H := hP.sub [2, 3, 0, 1] rfl
    have hD : va_D A [(h, .inr (2, [.ref a])), (a, .inl (cI, 11, .inl (nf (nuN (shC v (7 - (dgN t)) (n - 0) 0 0 + 1) (dgN t) t (uN (shB v 0 (7 - (dgN t)) (n - 0) 0 0 (fiN b 32 11)) (shC v (7 - (dgN t)) (n - 0) 0 0) 126))))), (hr, .inr (1, [.ref ar, .int (nI n)])), (ar, .inl (cI, 255, .inl (nf v)))] := hD.sub [2, 3, 0, 1] (by decide) rfl
    refine lv_aload_n hx hb d_Sn_takeTailed_69 rfl (lv_at hl 4 rfl) ?_
    refine lv_aload_n hx hb d_Sn_takeTailed_70 rfl (lv_at hl 5 rfl) ?_
    refine lv_iload hx hb d_Sn_takeTailed_71 (lv_at hl 2 rfl) ?_
    refine lv_iconst (v := nI 1) hx hb d_Sn_takeTailed_73 (by decide) ?_
    refine lv_iadd hx hb d_Sn_takeTailed_74 ?_
    refine mk_ti (y := nI (n + 1)) (nI_add n 1) ?_
    refine lv_aload_n hx hb d_Sn_takeTailed_75 rfl (lv_at hl 5 rfl) ?_
    refine mk_r1 (W.runV (As := []) (rest := [.int (nI (n + 1)), .ref hr, .ref h]) S (c_Ro_size l dC dI cI hr ar n v) (gV 0 hts k_380 k_125 k_126 k_25 k_127 (by decide +kernel) ⟨Nat.le_of_ble_eq_true rfl, Nat.le_of_ble_eq_true rfl⟩) (mk_vR hP hK hT hS [2, 3] rfl (q0 := 2) (ci := 1) rfl rfl) rfl rfl hl.1 rfl (lv_room (Nat.le_of_ble_eq_true rfl)) d_Sn_takeTailed_76 ⟨Nat.zero_le _, Nat.zero_le _⟩) ?_
    refine lv_bipush (v := nI 8) hx hb d_Sn_takeTailed_79 (by decide) ?_
    refine lv_iconst (v := nI 3) hx hb d_Sn_takeTailed_81 (by decide) ?_
    refine mk_w1 (wr := []) (W.runV (As := [.ref hr, .int (nI (n + 1)), .int (nI n), .int (nI 8), .int (nI 3)]) (rest := []) S ((c_Sn_sho l dC dI cI h a (nuN (shC v (7 - (dgN t)) (n - 0) 0 0 + 1) (dgN t) t (uN (shB v 0 (7 - (dgN t)) (n - 0) 0 0 (fiN b 32 11)) (shC v (7 - (dgN t)) (n - 0) 0 0) 126)) hr ar n v (n + 1) n 8 3 (by first | assumption | omega) (by first | assumption | omega) (by first | assumption | omega) (by first | assumption | omega) (by first | assumption | omega)) _) (gV 5 hts k_381 k_383 k_2 k_26 k_384 (by decide +kernel) ⟨Nat.le_of_ble_eq_true rfl, Nat.le_of_ble_eq_true rfl⟩) (mk_vM hP hD hK hT hS hA [0, 1, 2, 3] rfl rfl (by decide) (q0 := 0) (ci := 2) rfl rfl) rfl rfl hl.1 rfl (lv_room (Nat.le_of_ble_eq_true rfl)) d_Sn_takeTailed_82 ⟨Nat.zero_le _, Nat.zero_le _⟩) hP hD hS hA [0, 1, 2, 3] [] rfl rfl (by decide) (by decide) (fun H locs hP hD hS => ?_)
    have hP : va_P (dC, dI) vwCl [(h, .inr (2, [.ref a])), (a, .inl (cI, 11, .inl (nf (shB v 8 3 (n - (n + 1)) (n + 1) 0 (nuN (shC v (7 - (dgN t)) (n - 0) 0 0 + 1) (dgN t) t (uN (shB v 0 (7 - (dgN t)) (n - 0) 0 0 (fiN b 32 11)) (shC v (7 - (dgN t)) (n - 0) 0 0) 126)))))), (hr, .inr (1, [.ref ar, .int (nI n)])), (ar, .inl (cI, 255, .inl (nf v)))] H := hP.sub [0, 1, 2, 3] rfl
    have hD : va_D A [(h, .inr (2, [.ref a])), (a, .inl (cI, 11, .inl (nf (shB v 8 3 (n - (n + 1)) (n + 1) 0 (nuN (shC v (7 - (dgN t)) (n - 0) 0 0 + 1) (dgN t) t (uN (shB v 0 (7 - (dgN t)) (n - 0) 0 0 (fiN b 32 11)) (shC v (7 - (dgN t)) (n - 0) 0 0) 126)))))), (hr, .inr (1, [.ref ar, .int (nI n)])), (ar, .inl (cI, 255, .inl (nf v)))] := hD.sub [0, 1, 2, 3] (by decide) rfl
    have b_4 := shC_le v 3 (n - (n + 1)) (n + 1) 0 (Nat.zero_le _)
    refine lv_pop hx hb d_Sn_takeTailed_85 rfl ?_
    have hw9 : ([(h, .inr (2, [.ref a])), (a, .inl (cI, 11, .inl (nf (shB v 8 3 (n - (n + 1)) (n + 1) 0 (nuN (shC v (7 - (dgN t)) (n - 0) 0 0 + 1) (dgN t) t (uN (shB v 0 (7 - (dgN t)) (n - 0) 0 0 (fiN b 32 11)) (shC v (7 - (dgN t)) (n - 0) 0 0) 126)))))), (hr, .inr (1, [.ref ar, .int (nI n)])), (ar, .inl (cI, 255, .inl (nf v)))] : va_W) = [(h, .inr (2, [.ref a])), (a, .inl (cI, 11, .inl (nf (ttN v n t b)))), (hr, .inr (1, [.ref ar, .int (nI n)])), (ar, .inl (cI, 255, .inl (nf v)))] := by simp only [ttN, show (if lpN v n ≤ 1 then n else lpN v n - 1) = n from (by rw [h0]; split <;> omega), Nat.sub_zero]
    rw [hw9] at hP hD
    exact hret _ _ _ _ d_Sn_takeTailed_86 hP hD hS
  · skip
    rw [mk_cle (by omega)] at c_1
    refine lv_iload_n hx hb d_Sn_takeTailed_18 rfl (lv_at hl 0 rfl) ?_
    refine lv_goto (tgt := 26) hx hb d_Sn_takeTailed_19 (by decide) ?_
    refine lv_istore (lv' := [(4, .int (nI m9)), (3, .int (nI m9)), (0, .ref h), (1, .ref hr), (2, .int (nI t))]) hx hb d_Sn_takeTailed_26 hl (by decide) rfl (fun ls hl => ?_)
    refine lv_iload_n hx hb d_Sn_takeTailed_28 rfl (lv_at hl 4 rfl) ?_
    refine mk_r1 (W.runS (As := [.int (nI t)]) (rest := []) S (c_Sn_dig l dC dI cI t (by first | assumption | omega)) (gS 1 hts k_399 k_400 k_26 k_401 (by decide +kernel) ⟨Nat.le_of_ble_eq_true rfl, Nat.le_of_ble_eq_true rfl⟩) (mk_sR hP hK hT hS [] rfl) rfl rfl hl.1 rfl (lv_room (Nat.le_of_ble_eq_true rfl)) d_Sn_takeTailed_29 ⟨Nat.zero_le _, Nat.zero_le _⟩) ?_
    have b_5 := dgN_in t
    refine lv_istore (lv' := [(5, .int (nI (dgN t))), (4, .int (nI m9)), (3, .int (nI m9)), (0, .ref h), (1, .ref hr), (2, .int (nI t))]) hx hb d_Sn_takeTailed_32 hl (by decide) rfl (fun ls hl => ?_)
    refine lv_aload_n hx hb d_Sn_takeTailed_34 rfl (lv_at hl 3 rfl) ?_
    refine lv_aload_n hx hb d_Sn_takeTailed_35 rfl (lv_at hl 4 rfl) ?_
    refine lv_iconst (v := nI 0) hx hb d_Sn_takeTailed_36 (by decide) ?_
    refine lv_iload hx hb d_Sn_takeTailed_37 (lv_at hl 1 rfl) ?_
    refine lv_iconst (v := nI 0) hx hb d_Sn_takeTailed_39 (by decide) ?_
    refine lv_bipush (v := nI 7) hx hb d_Sn_takeTailed_40 (by decide) ?_
    refine lv_iload hx hb d_Sn_takeTailed_42 (lv_at hl 0 rfl) ?_
    refine lv_isub hx hb d_Sn_takeTailed_44 ?_
    refine mk_ti (y := nI (7 - (dgN t))) (pk_sub (by omega)) ?_
    refine mk_w1 (wr := []) (W.runV (As := [.ref hr, .int (nI 0), .int (nI m9), .int (nI 0), .int (nI (7 - (dgN t)))]) (rest := []) S ((c_Sn_sho l dC dI cI h a (fiN b 32 11) hr ar n v 0 m9 0 (7 - (dgN t)) (by first | assumption | omega) (by first | assumption | omega) (by first | assumption | omega) (by first | assumption | omega) (by first | assumption | omega)) _) (gV 5 hts k_381 k_383 k_2 k_26 k_384 (by decide +kernel) ⟨Nat.le_of_ble_eq_true rfl, Nat.le_of_ble_eq_true rfl⟩) (mk_vM hP hD hK hT hS hA [0, 1, 2, 3] rfl rfl (by decide) (q0 := 0) (ci := 2) rfl rfl) rfl rfl hl.1 rfl (lv_room (Nat.le_of_ble_eq_true rfl)) d_Sn_takeTailed_45 ⟨Nat.zero_le _, Nat.zero_le _⟩) hP hD hS hA [0, 1, 2, 3] [] rfl rfl (by decide) (by decide) (fun H locs hP hD hS => ?_)
    have hP : va_P (dC, dI) vwCl [(h, .inr (2, [.ref a])), (a, .inl (cI, 11, .inl (nf (shB v 0 (7 - (dgN t)) (m9 - 0) 0 0 (fiN b 32 11))))), (hr, .inr (1, [.ref ar, .int (nI n)])), (ar, .inl (cI, 255, .inl (nf v)))] H := hP.sub [0, 1, 2, 3] rfl
    have hD : va_D A [(h, .inr (2, [.ref a])), (a, .inl (cI, 11, .inl (nf (shB v 0 (7 - (dgN t)) (m9 - 0) 0 0 (fiN b 32 11))))), (hr, .inr (1, [.ref ar, .int (nI n)])), (ar, .inl (cI, 255, .inl (nf v)))] := hD.sub [0, 1, 2, 3] (by decide) rfl
    have b_6 := shC_le v (7 - (dgN t)) (m9 - 0) 0 0 (Nat.zero_le _)
    refine lv_istore (lv' := [(6, .int (nI (shC v (7 - (dgN t)) (m9 - 0) 0 0))), (5, .int (nI (dgN t))), (4, .int (nI m9)), (3, .int (nI m9)), (0, .ref h), (1, .ref hr), (2, .int (nI t))]) hx hb d_Sn_takeTailed_48 hl (by decide) rfl (fun ls hl => ?_)
    refine lv_aload_n hx hb d_Sn_takeTailed_50 rfl (lv_at hl 4 rfl) ?_
    refine lv_iload hx hb d_Sn_takeTailed_51 (lv_at hl 0 rfl) ?_
    refine lv_bipush (v := nI 126) hx hb d_Sn_takeTailed_53 (by decide) ?_
    refine mk_w0 (wr := [(hr, .inr (1, [.ref ar, .int (nI n)])), (ar, .inl (cI, 255, .inl (nf v)))]) (W.runV (As := [.int (nI (shC v (7 - (dgN t)) (m9 - 0) 0 0)), .int (nI 126)]) (rest := []) S ((c_Sn_set l dC dI cI h a (shB v 0 (7 - (dgN t)) (m9 - 0) 0 0 (fiN b 32 11)) (shC v (7 - (dgN t)) (m9 - 0) 0 0) 126 (by first | assumption | omega)) _) (gV 2 hts k_391 k_393 k_3 k_26 k_394 (by decide +kernel) ⟨Nat.le_of_ble_eq_true rfl, Nat.le_of_ble_eq_true rfl⟩) (mk_vM hP hD hK hT hS hA [0, 1] rfl rfl (by decide) (q0 := 0) (ci := 2) rfl rfl) rfl rfl hl.1 rfl (lv_room (Nat.le_of_ble_eq_true rfl)) d_Sn_takeTailed_55 ⟨Nat.zero_le _, Nat.zero_le _⟩) hP hD hS hA [0, 1] [2, 3] rfl rfl (by decide) (by decide) (fun H locs hP hD hS => ?_)
    have hP : va_P (dC, dI) vwCl [(h, .inr (2, [.ref a])), (a, .inl (cI, 11, .inl (nf (uN (shB v 0 (7 - (dgN t)) (m9 - 0) 0 0 (fiN b 32 11)) (shC v (7 - (dgN t)) (m9 - 0) 0 0) 126)))), (hr, .inr (1, [.ref ar, .int (nI n)])), (ar, .inl (cI, 255, .inl (nf v)))] H := hP.sub [2, 3, 0, 1] rfl
    have hD : va_D A [(h, .inr (2, [.ref a])), (a, .inl (cI, 11, .inl (nf (uN (shB v 0 (7 - (dgN t)) (m9 - 0) 0 0 (fiN b 32 11)) (shC v (7 - (dgN t)) (m9 - 0) 0 0) 126)))), (hr, .inr (1, [.ref ar, .int (nI n)])), (ar, .inl (cI, 255, .inl (nf v)))] := hD.sub [2, 3, 0, 1] (by decide) rfl
    refine lv_aload_n hx hb d_Sn_takeTailed_58 rfl (lv_at hl 4 rfl) ?_
    refine lv_iload hx hb d_Sn_takeTailed_59 (lv_at hl 0 rfl) ?_
    refine lv_iconst (v := nI 1) hx hb d_Sn_takeTailed_61 (by decide) ?_
    refine lv_iadd hx hb d_Sn_takeTailed_62 ?_
    refine mk_ti (y := nI (shC v (7 - (dgN t)) (m9 - 0) 0 0 + 1)) (nI_add (shC v (7 - (dgN t)) (m9 - 0) 0 0) 1) ?_
    refine lv_iload hx hb d_Sn_takeTailed_63 (lv_at hl 1 rfl) ?_
    refine lv_iload_n hx hb d_Sn_takeTailed_65 rfl (lv_at hl 6 rfl) ?_
    refine mk_w0 (wr := [(hr, .inr (1, [.ref ar, .int (nI n)])), (ar, .inl (cI, 255, .inl (nf v)))]) (W.runV (As := [.int (nI (shC v (7 - (dgN t)) (m9 - 0) 0 0 + 1)), .int (nI (dgN t)), .int (nI t)]) (rest := []) S ((c_Sn_num l dC dI cI h a (uN (shB v 0 (7 - (dgN t)) (m9 - 0) 0 0 (fiN b 32 11)) (shC v (7 - (dgN t)) (m9 - 0) 0 0) 126) (shC v (7 - (dgN t)) (m9 - 0) 0 0 + 1) (dgN t) t (by first | assumption | omega) (by first | assumption | omega)) _) (gV 3 hts k_402 k_404 k_4 k_26 k_405 (by decide +kernel) ⟨Nat.le_of_ble_eq_true rfl, Nat.le_of_ble_eq_true rfl⟩) (mk_vM hP hD hK hT hS hA [0, 1] rfl rfl (by decide) (q0 := 0) (ci := 2) rfl rfl) rfl rfl hl.1 rfl (lv_room (Nat.le_of_ble_eq_true rfl)) d_Sn_takeTailed_66 ⟨Nat.zero_le _, Nat.zero_le _⟩) hP hD hS hA [0, 1] [2, 3] rfl rfl (by decide) (by decide) (fun H locs hP hD hS => ?_)
    have hP : va_P (dC, dI) vwCl [(h, .inr (2, [.ref a])), (a, .inl (cI, 11, .inl (nf (nuN (shC v (7 - (dgN t)) (m9 - 0) 0 0 + 1) (dgN t) t (uN (shB v 0 (7 - (dgN t)) (m9 - 0) 0 0 (fiN b 32 11)) (shC v (7 - (dgN t)) (m9 - 0) 0 0) 126))))), (hr, .inr (1, [.ref ar, .int (nI n)])), (ar, .inl (cI, 255, .inl (nf v)))] H := hP.sub [2, 3, 0, 1] rfl
    have hD : va_D A [(h, .inr (2, [.ref a])), (a, .inl (cI, 11, .inl (nf (nuN (shC v (7 - (dgN t)) (m9 - 0) 0 0 + 1) (dgN t) t (uN (shB v 0 (7 - (dgN t)) (m9 - 0) 0 0 (fiN b 32 11)) (shC v (7 - (dgN t)) (m9 - 0) 0 0) 126))))), (hr, .inr (1, [.ref ar, .int (nI n)])), (ar, .inl (cI, 255, .inl (nf v)))] := hD.sub [2, 3, 0, 1] (by decide) rfl
    refine lv_aload_n hx hb d_Sn_takeTailed_69 rfl (lv_at hl 4 rfl) ?_
    refine lv_aload_n hx hb d_Sn_takeTailed_70 rfl (lv_at hl 5 rfl) ?_
    refine lv_iload hx hb d_Sn_takeTailed_71 (lv_at hl 2 rfl) ?_
    refine lv_iconst (v := nI 1) hx hb d_Sn_takeTailed_73 (by decide) ?_
    refine lv_iadd hx hb d_Sn_takeTailed_74 ?_
    refine mk_ti (y := nI (m9 + 1)) (nI_add m9 1) ?_
    refine lv_aload_n hx hb d_Sn_takeTailed_75 rfl (lv_at hl 5 rfl) ?_
    refine mk_r1 (W.runV (As := []) (rest := [.int (nI (m9 + 1)), .ref hr, .ref h]) S (c_Ro_size l dC dI cI hr ar n v) (gV 0 hts k_380 k_125 k_126 k_25 k_127 (by decide +kernel) ⟨Nat.le_of_ble_eq_true rfl, Nat.le_of_ble_eq_true rfl⟩) (mk_vR hP hK hT hS [2, 3] rfl (q0 := 2) (ci := 1) rfl rfl) rfl rfl hl.1 rfl (lv_room (Nat.le_of_ble_eq_true rfl)) d_Sn_takeTailed_76 ⟨Nat.zero_le _, Nat.zero_le _⟩) ?_
    refine lv_bipush (v := nI 8) hx hb d_Sn_takeTailed_79 (by decide) ?_
    refine lv_iconst (v := nI 3) hx hb d_Sn_takeTailed_81 (by decide) ?_
    refine mk_w1 (wr := []) (W.runV (As := [.ref hr, .int (nI (m9 + 1)), .int (nI n), .int (nI 8), .int (nI 3)]) (rest := []) S ((c_Sn_sho l dC dI cI h a (nuN (shC v (7 - (dgN t)) (m9 - 0) 0 0 + 1) (dgN t) t (uN (shB v 0 (7 - (dgN t)) (m9 - 0) 0 0 (fiN b 32 11)) (shC v (7 - (dgN t)) (m9 - 0) 0 0) 126)) hr ar n v (m9 + 1) n 8 3 (by first | assumption | omega) (by first | assumption | omega) (by first | assumption | omega) (by first | assumption | omega) (by first | assumption | omega)) _) (gV 5 hts k_381 k_383 k_2 k_26 k_384 (by decide +kernel) ⟨Nat.le_of_ble_eq_true rfl, Nat.le_of_ble_eq_true rfl⟩) (mk_vM hP hD hK hT hS hA [0, 1, 2, 3] rfl rfl (by decide) (q0 := 0) (ci := 2) rfl rfl) rfl rfl hl.1 rfl (lv_room (Nat.le_of_ble_eq_true rfl)) d_Sn_takeTailed_82 ⟨Nat.zero_le _, Nat.zero_le _⟩) hP hD hS hA [0, 1, 2, 3] [] rfl rfl (by decide) (by decide) (fun H locs hP hD hS => ?_)
    have hP : va_P (dC, dI) vwCl [(h, .inr (2, [.ref a])), (a, .inl (cI, 11, .inl (nf (shB v 8 3 (n - (m9 + 1)) (m9 + 1) 0 (nuN (shC v (7 - (dgN t)) (m9 - 0) 0 0 + 1) (dgN t) t (uN (shB v 0 (7 - (dgN t)) (m9 - 0) 0 0 (fiN b 32 11)) (shC v (7 - (dgN t)) (m9 - 0) 0 0) 126)))))), (hr, .inr (1, [.ref ar, .int (nI n)])), (ar, .inl (cI, 255, .inl (nf v)))] H := hP.sub [0, 1, 2, 3] rfl
    have hD : va_D A [(h, .inr (2, [.ref a])), (a, .inl (cI, 11, .inl (nf (shB v 8 3 (n - (m9 + 1)) (m9 + 1) 0 (nuN (shC v (7 - (dgN t)) (m9 - 0) 0 0 + 1) (dgN t) t (uN (shB v 0 (7 - (dgN t)) (m9 - 0) 0 0 (fiN b 32 11)) (shC v (7 - (dgN t)) (m9 - 0) 0 0) 126)))))), (hr, .inr (1, [.ref ar, .int (nI n)])), (ar, .inl (cI, 255, .inl (nf v)))] := hD.sub [0, 1, 2, 3] (by decide) rfl
    have b_7 := shC_le v 3 (n - (m9 + 1)) (m9 + 1) 0 (Nat.zero_le _)
    refine lv_pop hx hb d_Sn_takeTailed_85 rfl ?_
    have hw9 : ([(h, .inr (2, [.ref a])), (a, .inl (cI, 11, .inl (nf (shB v 8 3 (n - (m9 + 1)) (m9 + 1) 0 (nuN (shC v (7 - (dgN t)) (m9 - 0) 0 0 + 1) (dgN t) t (uN (shB v 0 (7 - (dgN t)) (m9 - 0) 0 0 (fiN b 32 11)) (shC v (7 - (dgN t)) (m9 - 0) 0 0) 126)))))), (hr, .inr (1, [.ref ar, .int (nI n)])), (ar, .inl (cI, 255, .inl (nf v)))] : va_W) = [(h, .inr (2, [.ref a])), (a, .inl (cI, 11, .inl (nf (ttN v n t b)))), (hr, .inr (1, [.ref ar, .int (nI n)])), (ar, .inl (cI, 255, .inl (nf v)))] := by simp only [ttN, show (if lpN v n ≤ 1 then n else lpN v n - 1) = m9 from (by rw [h0]; split <;> omega), Nat.sub_zero]
    rw [hw9] at hP hD
    exact hret _ _ _ _ d_Sn_takeTailed_86 hP hD hS

theorem c_Sn_tail (l : Launch) (dC : Nat → ClassId) (dI : Nat → Nat → Nat) (cI : ClassId) (h a : Nat) (b : Nat → Nat) (hr ar n : Nat) (v : Nat → Nat) (t : Nat) (hn : n ≤ 255) (hv : ∀ j, v j < 65536) (ht : t < 10000) : mM l y_Sn_takeTailed w_Sn_takeTailed ({ frames := 3, cells := 0, slots := 0, locals := 69 } : Room) [.ref h, .ref hr, .int (nI t)] (dC, dI) vwCl [(cI, .int)] [(h, .inr (2, [.ref a])), (a, .inl (cI, 11, .inl (nf b))), (hr, .inr (1, [.ref ar, .int (nI n)])), (ar, .inl (cI, 255, .inl (nf v)))] none [(h, .inr (2, [.ref a])), (a, .inl (cI, 11, .inl (nf (ttN v n t b)))), (hr, .inr (1, [.ref ar, .int (nI n)])), (ar, .inl (cI, 255, .inl (nf v)))] := by
  cases h0 : lpN v n with
  | zero => exact c_Sn_tail0 l dC dI cI h a b hr ar n v t hn hv ht h0
  | succ m => exact c_Sn_tailS l dC dI cI h a b hr ar n v t m hn hv ht h0

set_option maxHeartbeats 4000000 in
set_option maxRecDepth 100000 in
theorem c_Sn_take (l : Launch) (dC : Nat → ClassId) (dI : Nat → Nat → Nat) (cI : ClassId) (h a : Nat) (b : Nat → Nat) (hs as : Nat) (B : Nat → Nat) (q : Nat) (hB : ∀ j, B j < 256) (hq : q < 32) : mM l y_Sn_takeEntry w_Sn_takeEntry ({ frames := 3, cells := 0, slots := 0, locals := 63 } : Room) [.ref h, .ref hs, .int (nI q)] (dC, dI) vwCl [(cI, .int)] [(h, .inr (2, [.ref a])), (a, .inl (cI, 11, .inl (nf b))), (hs, .inr (4, [.ref as])), (as, .inl (cI, 1024, .inl (nf B)))] none [(h, .inr (2, [.ref a])), (a, .inl (cI, 11, .inl (nf (cpN b B (q * 32) 11)))), (hs, .inr (4, [.ref as])), (as, .inl (cI, 1024, .inl (nf B)))] := by
  refine mk_Mv (cc := b_Sn_takeEntry) (maxL := 4) (by decide) rfl (Nat.le_of_ble_eq_true rfl) ?_
  intro p e s m below meth c Q A ls S hP hK hT hS hl hD hA hret
  obtain ⟨hx, hb, hml, hown, hts⟩ := id S
  have hl : lv_has ls 4 [(0, .ref h), (1, .ref hs), (2, .int (nI q))] := hl
  refine lv_iconst (v := nI 0) hx hb d_Sn_takeEntry_0 (by decide) ?_
  refine lv_istore_n (lv' := [(3, .int (nI 0)), (0, .ref h), (1, .ref hs), (2, .int (nI q))]) hx hb d_Sn_takeEntry_1 rfl hl (by decide) rfl (fun ls hl => ?_)
  have lp2 : ∀ (k : Nat) (i : Nat) (H : Heap) (locs : List Loc) (ls : Array Slot), (i + k = 11) → va_P (dC, dI) vwCl [(h, .inr (2, [.ref a])), (a, .inl (cI, 11, .inl (nf (cpN b B (q * 32) i)))), (hs, .inr (4, [.ref as])), (as, .inl (cI, 1024, .inl (nf B)))] H → va_D A [(h, .inr (2, [.ref a])), (a, .inl (cI, 11, .inl (nf (cpN b B (q * 32) i)))), (hs, .inr (4, [.ref as])), (as, .inl (cI, 1024, .inl (nf B)))] → va_S A s.heap H locs → lv_has ls 4 [(0, .ref h), (1, .ref hs), (2, .int (nI q)), (3, .int (nI i))] → W p l e ({ frames := 3, cells := 0, slots := 0, locals := 63 } : Room) s m ([.ref h, .ref hs, .int (nI q)] : List Value).toArray below meth c H locs 0 0 Q (F0 m 2 ls []) := by
    intro k
    induction k with
    | zero =>
      intro i H locs ls hi hP hD hS hl
      refine lv_iload_n hx hb d_Sn_takeEntry_2 rfl (lv_at hl 3 rfl) ?_
      refine lv_bipush (v := nI 11) hx hb d_Sn_takeEntry_3 (by decide) ?_
      refine lv_icmp_ge (tgt := 25) hx hb d_Sn_takeEntry_5 (by decide) (fun c_1 => ?_) (fun c_1 => ?_)
      · skip
        rw [nI_leI (by omega) (by omega)] at c_1
        have hw9 : ([(h, .inr (2, [.ref a])), (a, .inl (cI, 11, .inl (nf (cpN b B (q * 32) i)))), (hs, .inr (4, [.ref as])), (as, .inl (cI, 1024, .inl (nf B)))] : va_W) = [(h, .inr (2, [.ref a])), (a, .inl (cI, 11, .inl (nf (cpN b B (q * 32) 11)))), (hs, .inr (4, [.ref as])), (as, .inl (cI, 1024, .inl (nf B)))] := by rw [show i = 11 by omega]
        rw [hw9] at hP hD
        exact hret _ _ _ _ d_Sn_takeEntry_25 hP hD hS
      · skip
        rw [nI_leI (by omega) (by omega)] at c_1
        first | omega | contradiction
    | succ k ih2 =>
      intro i H locs ls hi hP hD hS hl
      refine lv_iload_n hx hb d_Sn_takeEntry_2 rfl (lv_at hl 3 rfl) ?_
      refine lv_bipush (v := nI 11) hx hb d_Sn_takeEntry_3 (by decide) ?_
      refine lv_icmp_ge (tgt := 25) hx hb d_Sn_takeEntry_5 (by decide) (fun c_2 => ?_) (fun c_2 => ?_)
      · skip
        rw [nI_leI (by omega) (by omega)] at c_2
        first | omega | contradiction
      · skip
        rw [nI_leI (by omega) (by omega)] at c_2
        refine lv_aload_n hx hb d_Sn_takeEntry_8 rfl (lv_at hl 0 rfl) ?_
        refine lv_iload_n hx hb d_Sn_takeEntry_9 rfl (lv_at hl 3 rfl) ?_
        refine lv_aload_n hx hb d_Sn_takeEntry_10 rfl (lv_at hl 1 rfl) ?_
        refine lv_iload_n hx hb d_Sn_takeEntry_11 rfl (lv_at hl 2 rfl) ?_
        refine lv_iload_n hx hb d_Sn_takeEntry_12 rfl (lv_at hl 3 rfl) ?_
        refine mk_r1 (W.runV (As := [.int (nI q), .int (nI i)]) (rest := [.int (nI i), .ref h]) S (c_Sl_getN l dC dI cI hs as B q i (by first | assumption | omega) (by first | assumption | omega) (by first | assumption | omega)) (gV 2 hts k_464 k_214 k_215 k_28 k_216 (by decide +kernel) ⟨Nat.le_of_ble_eq_true rfl, Nat.le_of_ble_eq_true rfl⟩) (mk_vR hP hK hT hS [2, 3] rfl (q0 := 2) (ci := 4) rfl rfl) rfl rfl hl.1 rfl (lv_room (Nat.le_of_ble_eq_true rfl)) d_Sn_takeEntry_13 ⟨Nat.zero_le _, Nat.zero_le _⟩) ?_
        have b_3 := (show ∀ j9, B j9 < 256 by assumption) (q * 32 + i)
        refine mk_w0 (wr := [(hs, .inr (4, [.ref as])), (as, .inl (cI, 1024, .inl (nf B)))]) (W.runV (As := [.int (nI i), .int (nI (B (q * 32 + i)))]) (rest := []) S ((c_Sn_set l dC dI cI h a (cpN b B (q * 32) i) i (B (q * 32 + i)) (by first | assumption | omega)) _) (gV 2 hts k_391 k_393 k_3 k_26 k_394 (by decide +kernel) ⟨Nat.le_of_ble_eq_true rfl, Nat.le_of_ble_eq_true rfl⟩) (mk_vM hP hD hK hT hS hA [0, 1] rfl rfl (by decide) (q0 := 0) (ci := 2) rfl rfl) rfl rfl hl.1 rfl (lv_room (Nat.le_of_ble_eq_true rfl)) d_Sn_takeEntry_16 ⟨Nat.zero_le _, Nat.zero_le _⟩) hP hD hS hA [0, 1] [2, 3] rfl rfl (by decide) (by decide) (fun H locs hP hD hS => ?_)
        have hP : va_P (dC, dI) vwCl [(h, .inr (2, [.ref a])), (a, .inl (cI, 11, .inl (nf (uN (cpN b B (q * 32) i) i (B (q * 32 + i)))))), (hs, .inr (4, [.ref as])), (as, .inl (cI, 1024, .inl (nf B)))] H := hP.sub [2, 3, 0, 1] rfl
        have hD : va_D A [(h, .inr (2, [.ref a])), (a, .inl (cI, 11, .inl (nf (uN (cpN b B (q * 32) i) i (B (q * 32 + i)))))), (hs, .inr (4, [.ref as])), (as, .inl (cI, 1024, .inl (nf B)))] := hD.sub [2, 3, 0, 1] (by decide) rfl
        refine lv_iinc (v := nI (i + 1)) (lv' := [(3, .int (nI (i + 1))), (0, .ref h), (1, .ref hs), (2, .int (nI q))]) hx hb d_Sn_takeEntry_19 hl (k := 3) rfl (mk_i1 i) (by decide) rfl (fun ls hl => ?_)
        refine lv_goto (tgt := 2) hx hb d_Sn_takeEntry_22 (by decide) ?_
        have hl : lv_has ls 4 [(0, .ref h), (1, .ref hs), (2, .int (nI q)), (3, .int (nI (i + 1)))] := lv_sub hl [1, 2, 3, 0] rfl
        have hw9 : ([(h, .inr (2, [.ref a])), (a, .inl (cI, 11, .inl (nf (uN (cpN b B (q * 32) i) i (B (q * 32 + i)))))), (hs, .inr (4, [.ref as])), (as, .inl (cI, 1024, .inl (nf B)))] : va_W) = [(h, .inr (2, [.ref a])), (a, .inl (cI, 11, .inl (nf (cpN b B (q * 32) (i + 1))))), (hs, .inr (4, [.ref as])), (as, .inl (cI, 1024, .inl (nf B)))] := by rw [cpN_s]
        rw [hw9] at hP hD
        exact ih2 (i + 1) _ _ _ (by omega) hP hD hS hl
  have hl : lv_has ls 4 [(0, .ref h), (1, .ref hs), (2, .int (nI q)), (3, .int (nI 0))] := lv_sub hl [1, 2, 3, 0] rfl
  have hw9 : ([(h, .inr (2, [.ref a])), (a, .inl (cI, 11, .inl (nf b))), (hs, .inr (4, [.ref as])), (as, .inl (cI, 1024, .inl (nf B)))] : va_W) = [(h, .inr (2, [.ref a])), (a, .inl (cI, 11, .inl (nf (cpN b B (q * 32) 0)))), (hs, .inr (4, [.ref as])), (as, .inl (cI, 1024, .inl (nf B)))] := by rw [cpN_0]
  rw [hw9] at hP hD
  exact lp2 11 0 _ _ _ rfl hP hD hS hl

set_option maxHeartbeats 4000000 in
set_option maxRecDepth 100000 in
theorem c_Sn_store (l : Launch) (dC : Nat → ClassId) (dI : Nat → Nat → Nat) (cI : ClassId) (h a : Nat) (b : Nat → Nat) (hs as : Nat) (B : Nat → Nat) (q : Nat) (hb9 : ∀ j, b j < 65536) (hq : q < 32) : mM l y_Sn_storeEntry w_Sn_storeEntry ({ frames := 3, cells := 0, slots := 0, locals := 64 } : Room) [.ref h, .ref hs, .int (nI q)] (dC, dI) vwCl [(cI, .int)] [(h, .inr (2, [.ref a])), (a, .inl (cI, 11, .inl (nf b))), (hs, .inr (4, [.ref as])), (as, .inl (cI, 1024, .inl (nf B)))] none [(h, .inr (2, [.ref a])), (a, .inl (cI, 11, .inl (nf b))), (hs, .inr (4, [.ref as])), (as, .inl (cI, 1024, .inl (nf (stN B (enN b) (q * 32) 32))))] := by
  refine mk_Mv (cc := b_Sn_storeEntry) (maxL := 4) (by decide) rfl (Nat.le_of_ble_eq_true rfl) ?_
  intro p e s m below meth c Q A ls S hP hK hT hS hl hD hA hret
  obtain ⟨hx, hb, hml, hown, hts⟩ := id S
  have hl : lv_has ls 4 [(0, .ref h), (1, .ref hs), (2, .int (nI q))] := hl
  refine lv_iconst (v := nI 0) hx hb d_Sn_storeEntry_0 (by decide) ?_
  refine lv_istore_n (lv' := [(3, .int (nI 0)), (0, .ref h), (1, .ref hs), (2, .int (nI q))]) hx hb d_Sn_storeEntry_1 rfl hl (by decide) rfl (fun ls hl => ?_)
  have lp2 : ∀ (k : Nat) (i : Nat) (H : Heap) (locs : List Loc) (ls : Array Slot), (i + k = 32) → va_P (dC, dI) vwCl [(h, .inr (2, [.ref a])), (a, .inl (cI, 11, .inl (nf b))), (hs, .inr (4, [.ref as])), (as, .inl (cI, 1024, .inl (nf (stN B (enN b) (q * 32) i))))] H → va_D A [(h, .inr (2, [.ref a])), (a, .inl (cI, 11, .inl (nf b))), (hs, .inr (4, [.ref as])), (as, .inl (cI, 1024, .inl (nf (stN B (enN b) (q * 32) i))))] → va_S A s.heap H locs → lv_has ls 4 [(0, .ref h), (1, .ref hs), (2, .int (nI q)), (3, .int (nI i))] → W p l e ({ frames := 3, cells := 0, slots := 0, locals := 64 } : Room) s m ([.ref h, .ref hs, .int (nI q)] : List Value).toArray below meth c H locs 0 0 Q (F0 m 2 ls []) := by
    intro k
    induction k with
    | zero =>
      intro i H locs ls hi hP hD hS hl
      refine lv_iload_n hx hb d_Sn_storeEntry_2 rfl (lv_at hl 3 rfl) ?_
      refine lv_bipush (v := nI 32) hx hb d_Sn_storeEntry_3 (by decide) ?_
      refine lv_icmp_ge (tgt := 36) hx hb d_Sn_storeEntry_5 (by decide) (fun c_1 => ?_) (fun c_1 => ?_)
      · skip
        rw [nI_leI (by omega) (by omega)] at c_1
        have hw9 : ([(h, .inr (2, [.ref a])), (a, .inl (cI, 11, .inl (nf b))), (hs, .inr (4, [.ref as])), (as, .inl (cI, 1024, .inl (nf (stN B (enN b) (q * 32) i))))] : va_W) = [(h, .inr (2, [.ref a])), (a, .inl (cI, 11, .inl (nf b))), (hs, .inr (4, [.ref as])), (as, .inl (cI, 1024, .inl (nf (stN B (enN b) (q * 32) 32))))] := by rw [show i = 32 by omega]
        rw [hw9] at hP hD
        exact hret _ _ _ _ d_Sn_storeEntry_36 hP hD hS
      · skip
        rw [nI_leI (by omega) (by omega)] at c_1
        first | omega | contradiction
    | succ k ih2 =>
      intro i H locs ls hi hP hD hS hl
      refine lv_iload_n hx hb d_Sn_storeEntry_2 rfl (lv_at hl 3 rfl) ?_
      refine lv_bipush (v := nI 32) hx hb d_Sn_storeEntry_3 (by decide) ?_
      refine lv_icmp_ge (tgt := 36) hx hb d_Sn_storeEntry_5 (by decide) (fun c_2 => ?_) (fun c_2 => ?_)
      · skip
        rw [nI_leI (by omega) (by omega)] at c_2
        first | omega | contradiction
      · skip
        rw [nI_leI (by omega) (by omega)] at c_2
        refine lv_aload_n hx hb d_Sn_storeEntry_8 rfl (lv_at hl 1 rfl) ?_
        refine lv_iload_n hx hb d_Sn_storeEntry_9 rfl (lv_at hl 2 rfl) ?_
        refine lv_iload_n hx hb d_Sn_storeEntry_10 rfl (lv_at hl 3 rfl) ?_
        refine lv_iload_n hx hb d_Sn_storeEntry_11 rfl (lv_at hl 3 rfl) ?_
        refine lv_bipush (v := nI 11) hx hb d_Sn_storeEntry_12 (by decide) ?_
        refine lv_icmp_ge (tgt := 25) hx hb d_Sn_storeEntry_14 (by decide) (fun c_3 => ?_) (fun c_3 => ?_)
        · skip
          rw [nI_leI (by omega) (by omega)] at c_3
          refine lv_iconst (v := nI 0) hx hb d_Sn_storeEntry_25 (by decide) ?_
          refine mk_w1 (wr := [(h, .inr (2, [.ref a])), (a, .inl (cI, 11, .inl (nf b)))]) (W.runV (As := [.int (nI q), .int (nI i), .int (nI 0)]) (rest := []) S ((c_Sl_putN l dC dI cI hs as (stN B (enN b) (q * 32) i) q i 0 (by first | assumption | omega) (by first | assumption | omega) (by first | assumption | omega)) _) (gV 3 hts k_418 k_200 k_201 k_28 k_202 (by decide +kernel) ⟨Nat.le_of_ble_eq_true rfl, Nat.le_of_ble_eq_true rfl⟩) (mk_vM hP hD hK hT hS hA [2, 3] rfl rfl (by decide) (q0 := 2) (ci := 4) rfl rfl) rfl rfl hl.1 rfl (lv_room (Nat.le_of_ble_eq_true rfl)) d_Sn_storeEntry_26 ⟨Nat.zero_le _, Nat.zero_le _⟩) hP hD hS hA [2, 3] [0, 1] rfl rfl (by decide) (by decide) (fun H locs hP hD hS => ?_)
          have hP : va_P (dC, dI) vwCl [(h, .inr (2, [.ref a])), (a, .inl (cI, 11, .inl (nf b))), (hs, .inr (4, [.ref as])), (as, .inl (cI, 1024, .inl (nf (uN (stN B (enN b) (q * 32) i) (q * 32 + i) (0 % 2 ^ 8)))))] H := hP.sub [0, 1, 2, 3] rfl
          have hD : va_D A [(h, .inr (2, [.ref a])), (a, .inl (cI, 11, .inl (nf b))), (hs, .inr (4, [.ref as])), (as, .inl (cI, 1024, .inl (nf (uN (stN B (enN b) (q * 32) i) (q * 32 + i) (0 % 2 ^ 8)))))] := hD.sub [0, 1, 2, 3] (by decide) rfl
          refine lv_pop hx hb d_Sn_storeEntry_29 rfl ?_
          refine lv_iinc (v := nI (i + 1)) (lv' := [(3, .int (nI (i + 1))), (0, .ref h), (1, .ref hs), (2, .int (nI q))]) hx hb d_Sn_storeEntry_30 hl (k := 3) rfl (mk_i1 i) (by decide) rfl (fun ls hl => ?_)
          refine lv_goto (tgt := 2) hx hb d_Sn_storeEntry_33 (by decide) ?_
          have hl : lv_has ls 4 [(0, .ref h), (1, .ref hs), (2, .int (nI q)), (3, .int (nI (i + 1)))] := lv_sub hl [1, 2, 3, 0] rfl
          have hw9 : ([(h, .inr (2, [.ref a])), (a, .inl (cI, 11, .inl (nf b))), (hs, .inr (4, [.ref as])), (as, .inl (cI, 1024, .inl (nf (uN (stN B (enN b) (q * 32) i) (q * 32 + i) (0 % 2 ^ 8)))))] : va_W) = [(h, .inr (2, [.ref a])), (a, .inl (cI, 11, .inl (nf b))), (hs, .inr (4, [.ref as])), (as, .inl (cI, 1024, .inl (nf (stN B (enN b) (q * 32) (i + 1)))))] := by rw [stN_s (by unfold enN; first | rw [if_pos (by omega)] | rw [if_neg (by omega)])]
          rw [hw9] at hP hD
          exact ih2 (i + 1) _ _ _ (by omega) hP hD hS hl
        · skip
          rw [nI_leI (by omega) (by omega)] at c_3
          refine lv_aload_n hx hb d_Sn_storeEntry_17 rfl (lv_at hl 0 rfl) ?_
          refine lv_iload_n hx hb d_Sn_storeEntry_18 rfl (lv_at hl 3 rfl) ?_
          refine mk_r1 (W.runV (As := [.int (nI i)]) (rest := [.int (nI i), .int (nI q), .ref hs]) S (c_Sn_get l dC dI cI h a b i (by first | assumption | omega) (by first | assumption | omega)) (gV 1 hts k_414 k_416 k_6 k_26 k_417 (by decide +kernel) ⟨Nat.le_of_ble_eq_true rfl, Nat.le_of_ble_eq_true rfl⟩) (mk_vR hP hK hT hS [0, 1] rfl (q0 := 0) (ci := 2) rfl rfl) rfl rfl hl.1 rfl (lv_room (Nat.le_of_ble_eq_true rfl)) d_Sn_storeEntry_19 ⟨Nat.zero_le _, Nat.zero_le _⟩) ?_
          have b_4 := (show ∀ j9, b j9 < 65536 by assumption) i
          refine lv_goto (tgt := 26) hx hb d_Sn_storeEntry_22 (by decide) ?_
          refine mk_w1 (wr := [(h, .inr (2, [.ref a])), (a, .inl (cI, 11, .inl (nf b)))]) (W.runV (As := [.int (nI q), .int (nI i), .int (nI (b i))]) (rest := []) S ((c_Sl_putN l dC dI cI hs as (stN B (enN b) (q * 32) i) q i (b i) (by first | assumption | omega) (by first | assumption | omega) (by first | assumption | omega)) _) (gV 3 hts k_418 k_200 k_201 k_28 k_202 (by decide +kernel) ⟨Nat.le_of_ble_eq_true rfl, Nat.le_of_ble_eq_true rfl⟩) (mk_vM hP hD hK hT hS hA [2, 3] rfl rfl (by decide) (q0 := 2) (ci := 4) rfl rfl) rfl rfl hl.1 rfl (lv_room (Nat.le_of_ble_eq_true rfl)) d_Sn_storeEntry_26 ⟨Nat.zero_le _, Nat.zero_le _⟩) hP hD hS hA [2, 3] [0, 1] rfl rfl (by decide) (by decide) (fun H locs hP hD hS => ?_)
          have hP : va_P (dC, dI) vwCl [(h, .inr (2, [.ref a])), (a, .inl (cI, 11, .inl (nf b))), (hs, .inr (4, [.ref as])), (as, .inl (cI, 1024, .inl (nf (uN (stN B (enN b) (q * 32) i) (q * 32 + i) ((b i) % 2 ^ 8)))))] H := hP.sub [0, 1, 2, 3] rfl
          have hD : va_D A [(h, .inr (2, [.ref a])), (a, .inl (cI, 11, .inl (nf b))), (hs, .inr (4, [.ref as])), (as, .inl (cI, 1024, .inl (nf (uN (stN B (enN b) (q * 32) i) (q * 32 + i) ((b i) % 2 ^ 8)))))] := hD.sub [0, 1, 2, 3] (by decide) rfl
          refine lv_pop hx hb d_Sn_storeEntry_29 rfl ?_
          refine lv_iinc (v := nI (i + 1)) (lv' := [(3, .int (nI (i + 1))), (0, .ref h), (1, .ref hs), (2, .int (nI q))]) hx hb d_Sn_storeEntry_30 hl (k := 3) rfl (mk_i1 i) (by decide) rfl (fun ls hl => ?_)
          refine lv_goto (tgt := 2) hx hb d_Sn_storeEntry_33 (by decide) ?_
          have hl : lv_has ls 4 [(0, .ref h), (1, .ref hs), (2, .int (nI q)), (3, .int (nI (i + 1)))] := lv_sub hl [1, 2, 3, 0] rfl
          have hw9 : ([(h, .inr (2, [.ref a])), (a, .inl (cI, 11, .inl (nf b))), (hs, .inr (4, [.ref as])), (as, .inl (cI, 1024, .inl (nf (uN (stN B (enN b) (q * 32) i) (q * 32 + i) ((b i) % 2 ^ 8)))))] : va_W) = [(h, .inr (2, [.ref a])), (a, .inl (cI, 11, .inl (nf b))), (hs, .inr (4, [.ref as])), (as, .inl (cI, 1024, .inl (nf (stN B (enN b) (q * 32) (i + 1)))))] := by rw [stN_s (by unfold enN; first | rw [if_pos (by omega)] | rw [if_neg (by omega)])]
          rw [hw9] at hP hD
          exact ih2 (i + 1) _ _ _ (by omega) hP hD hS hl
  have hl : lv_has ls 4 [(0, .ref h), (1, .ref hs), (2, .int (nI q)), (3, .int (nI 0))] := lv_sub hl [1, 2, 3, 0] rfl
  have hw9 : ([(h, .inr (2, [.ref a])), (a, .inl (cI, 11, .inl (nf b))), (hs, .inr (4, [.ref as])), (as, .inl (cI, 1024, .inl (nf B)))] : va_W) = [(h, .inr (2, [.ref a])), (a, .inl (cI, 11, .inl (nf b))), (hs, .inr (4, [.ref as])), (as, .inl (cI, 1024, .inl (nf (stN B (enN b) (q * 32) 0))))] := by rw [stN_0]
  rw [hw9] at hP hD
  exact lp2 32 0 _ _ _ rfl hP hD hS hl

set_option maxHeartbeats 4000000 in
set_option maxRecDepth 100000 in
theorem c_Sn_bo (l : Launch) (dC : Nat → ClassId) (dI : Nat → Nat → Nat) (cI : ClassId) (h a : Nat) (b : Nat → Nat) (f t : Nat) (hb9 : ∀ j, b j < 65536) (hf : f ≤ t) (ht : t ≤ 11) : mR l y_Sn_blanksOnlyEnd w_Sn_blanksOnlyEnd ({ frames := 1, cells := 0, slots := 0, locals := 21 } : Room) [.ref h, .int (nI f), .int (nI t)] (dC, dI) vwCl [(cI, .int)] [(h, .inr (2, [.ref a])), (a, .inl (cI, 11, .inl (nf b)))] (some (.int (bI (boN b (t - f) f 0)))) := by
  refine mk_Ri (cc := b_Sn_blanksOnlyEnd) (maxL := 5) (by decide) rfl (Nat.le_of_ble_eq_true rfl) (mk_nz _) ?_
  intro p e s m below meth c Q A ls S hP hK hT hS hl hret
  obtain ⟨hx, hb, hml, hown, hts⟩ := id S
  have hl : lv_has ls 5 [(0, .ref h), (1, .int (nI f)), (2, .int (nI t))] := hl
  refine lv_iconst (v := nI 0) hx hb d_Sn_blanksOnlyEnd_0 (by decide) ?_
  refine lv_istore_n (lv' := [(3, .int (nI 0)), (0, .ref h), (1, .int (nI f)), (2, .int (nI t))]) hx hb d_Sn_blanksOnlyEnd_1 rfl hl (by decide) rfl (fun ls hl => ?_)
  refine lv_iload_n hx hb d_Sn_blanksOnlyEnd_2 rfl (lv_at hl 2 rfl) ?_
  refine lv_istore (lv' := [(4, .int (nI f)), (3, .int (nI 0)), (0, .ref h), (1, .int (nI f)), (2, .int (nI t))]) hx hb d_Sn_blanksOnlyEnd_3 hl (by decide) rfl (fun ls hl => ?_)
  have lp5 : ∀ (k : Nat) (i d : Nat) (ls : Array Slot), (i + k = t) → (d ≤ 1) → (boN b (t - f) f 0 = boN b k i d) → lv_has ls 5 [(0, .ref h), (2, .int (nI t)), (3, .int (nI d)), (4, .int (nI i))] → W p l e ({ frames := 1, cells := 0, slots := 0, locals := 21 } : Room) s m ([.ref h, .int (nI f), .int (nI t)] : List Value).toArray below meth c s.heap [] 0 0 Q (F0 m 5 ls []) := by
    intro k
    induction k with
    | zero =>
      intro i d ls hi hd hE hl
      refine lv_iload hx hb d_Sn_blanksOnlyEnd_5 (lv_at hl 3 rfl) ?_
      refine lv_iload_n hx hb d_Sn_blanksOnlyEnd_7 rfl (lv_at hl 1 rfl) ?_
      refine lv_icmp_ge (tgt := 51) hx hb d_Sn_blanksOnlyEnd_8 (by decide) (fun c_1 => ?_) (fun c_1 => ?_)
      · skip
        rw [nI_leI (by omega) (by omega)] at c_1
        refine lv_iconst (v := nI 1) hx hb d_Sn_blanksOnlyEnd_51 (by decide) ?_
        exact mk_ti (by exact mk_bt (by rw [hE]; rfl)) (hret _ _ d_Sn_blanksOnlyEnd_52)
      · skip
        rw [nI_leI (by omega) (by omega)] at c_1
        first | omega | contradiction
    | succ k ih5 =>
      intro i d ls hi hd hE hl
      refine lv_iload hx hb d_Sn_blanksOnlyEnd_5 (lv_at hl 3 rfl) ?_
      refine lv_iload_n hx hb d_Sn_blanksOnlyEnd_7 rfl (lv_at hl 1 rfl) ?_
      refine lv_icmp_ge (tgt := 51) hx hb d_Sn_blanksOnlyEnd_8 (by decide) (fun c_2 => ?_) (fun c_2 => ?_)
      · skip
        rw [nI_leI (by omega) (by omega)] at c_2
        first | omega | contradiction
      · skip
        rw [nI_leI (by omega) (by omega)] at c_2
        refine lv_aload_n hx hb d_Sn_blanksOnlyEnd_11 rfl (lv_at hl 0 rfl) ?_
        refine lv_iload hx hb d_Sn_blanksOnlyEnd_12 (lv_at hl 3 rfl) ?_
        refine mk_r1 (W.runV (As := [.int (nI i)]) (rest := []) S (c_Sn_get l dC dI cI h a b i (by first | assumption | omega) (by first | assumption | omega)) (gV 1 hts k_414 k_416 k_6 k_26 k_417 (by decide +kernel) ⟨Nat.le_of_ble_eq_true rfl, Nat.le_of_ble_eq_true rfl⟩) (mk_vR hP hK hT hS [0, 1] rfl (q0 := 0) (ci := 2) rfl rfl) rfl rfl hl.1 rfl (lv_room (Nat.le_of_ble_eq_true rfl)) d_Sn_blanksOnlyEnd_14 ⟨Nat.zero_le _, Nat.zero_le _⟩) ?_
        have b_3 := (show ∀ j9, b j9 < 65536 by assumption) i
        refine lv_bipush (v := nI 32) hx hb d_Sn_blanksOnlyEnd_17 (by decide) ?_
        refine lv_icmp_ne (tgt := 27) hx hb d_Sn_blanksOnlyEnd_19 (by decide) (fun c_4 => ?_) (fun c_4 => ?_)
        · skip
          rw [nI_eq (by omega) (by omega)] at c_4
          refine lv_iload_n hx hb d_Sn_blanksOnlyEnd_27 rfl (lv_at hl 2 rfl) ?_
          refine lv_if_ne (tgt := 43) hx hb d_Sn_blanksOnlyEnd_28 (by decide) (fun c_5 => ?_) (fun c_5 => ?_)
          · skip
            rw [mk_ceq (by omega)] at c_5
            refine lv_iconst (v := nI 0) hx hb d_Sn_blanksOnlyEnd_43 (by decide) ?_
            exact mk_ti (by exact mk_bf (by rw [hE, boN, if_neg (by omega), if_neg (by first | (intro h9; omega) | (intro h9; rw [c_5] at h9; exact absurd h9.2 (by decide)))])) (hret _ _ d_Sn_blanksOnlyEnd_44)
          · skip
            rw [mk_ceq (by omega)] at c_5
            refine lv_aload_n hx hb d_Sn_blanksOnlyEnd_31 rfl (lv_at hl 0 rfl) ?_
            refine lv_iload hx hb d_Sn_blanksOnlyEnd_32 (lv_at hl 3 rfl) ?_
            refine mk_r1 (W.runV (As := [.int (nI i)]) (rest := []) S (c_Sn_get l dC dI cI h a b i (by first | assumption | omega) (by first | assumption | omega)) (gV 1 hts k_414 k_416 k_6 k_26 k_417 (by decide +kernel) ⟨Nat.le_of_ble_eq_true rfl, Nat.le_of_ble_eq_true rfl⟩) (mk_vR hP hK hT hS [0, 1] rfl (q0 := 0) (ci := 2) rfl rfl) rfl rfl hl.1 rfl (lv_room (Nat.le_of_ble_eq_true rfl)) d_Sn_blanksOnlyEnd_34 ⟨Nat.zero_le _, Nat.zero_le _⟩) ?_
            have b_6 := (show ∀ j9, b j9 < 65536 by assumption) i
            refine mk_r1 (W.runS (As := [.int (nI (b i))]) (rest := []) S (c_Un_short l dC dI cI (b i) (by first | assumption | omega)) (gS 1 hts k_473 k_159 k_30 k_160 (by decide +kernel) ⟨Nat.le_of_ble_eq_true rfl, Nat.le_of_ble_eq_true rfl⟩) (mk_sR hP hK hT hS [] rfl) rfl rfl hl.1 rfl (lv_room (Nat.le_of_ble_eq_true rfl)) d_Sn_blanksOnlyEnd_37 ⟨Nat.zero_le _, Nat.zero_le _⟩) ?_
            refine lv_if_ne (tgt := 45) hx hb d_Sn_blanksOnlyEnd_40 (by decide) (fun c_7 => ?_) (fun c_7 => ?_)
            · skip
              have c_7 := bI_1 c_7
              refine lv_iinc (v := nI (i + 1)) (lv' := [(4, .int (nI (i + 1))), (0, .ref h), (2, .int (nI t)), (3, .int (nI d))]) hx hb d_Sn_blanksOnlyEnd_45 hl (k := 3) rfl (mk_i1 i) (by decide) rfl (fun ls hl => ?_)
              refine lv_goto (tgt := 5) hx hb d_Sn_blanksOnlyEnd_48 (by decide) ?_
              have hl : lv_has ls 5 [(0, .ref h), (2, .int (nI t)), (3, .int (nI d)), (4, .int (nI (i + 1)))] := lv_sub hl [1, 2, 3, 0] rfl
              exact ih5 (i + 1) d _ (by omega) (by omega) (by rw [hE, boN]; first | rw [if_pos (by omega)] | rw [if_neg (by omega), if_pos ⟨by omega, by assumption⟩]) hl
            · skip
              have c_7 := bI_0 c_7
              refine lv_iconst (v := nI 0) hx hb d_Sn_blanksOnlyEnd_43 (by decide) ?_
              exact mk_ti (by exact mk_bf (by rw [hE, boN, if_neg (by omega), if_neg (by first | (intro h9; omega) | (intro h9; rw [c_7] at h9; exact absurd h9.2 (by decide)))])) (hret _ _ d_Sn_blanksOnlyEnd_44)
        · skip
          rw [nI_eq (by omega) (by omega)] at c_4
          refine lv_iconst (v := nI 1) hx hb d_Sn_blanksOnlyEnd_22 (by decide) ?_
          refine lv_istore_n (lv' := [(3, .int (nI 1)), (0, .ref h), (2, .int (nI t)), (4, .int (nI i))]) hx hb d_Sn_blanksOnlyEnd_23 rfl hl (by decide) rfl (fun ls hl => ?_)
          refine lv_goto (tgt := 45) hx hb d_Sn_blanksOnlyEnd_24 (by decide) ?_
          refine lv_iinc (v := nI (i + 1)) (lv' := [(4, .int (nI (i + 1))), (3, .int (nI 1)), (0, .ref h), (2, .int (nI t))]) hx hb d_Sn_blanksOnlyEnd_45 hl (k := 3) rfl (mk_i1 i) (by decide) rfl (fun ls hl => ?_)
          refine lv_goto (tgt := 5) hx hb d_Sn_blanksOnlyEnd_48 (by decide) ?_
          have hl : lv_has ls 5 [(0, .ref h), (2, .int (nI t)), (3, .int (nI 1)), (4, .int (nI (i + 1)))] := lv_sub hl [2, 3, 1, 0] rfl
          exact ih5 (i + 1) 1 _ (by omega) (by omega) (by rw [hE, boN]; first | rw [if_pos (by omega)] | rw [if_neg (by omega), if_pos ⟨by omega, by assumption⟩]) hl
  have hl : lv_has ls 5 [(0, .ref h), (2, .int (nI t)), (3, .int (nI 0)), (4, .int (nI f))] := lv_sub hl [2, 4, 1, 0] rfl
  exact lp5 (t - f) f 0 _ (by omega) (by omega) rfl hl

set_option maxHeartbeats 4000000 in
set_option maxRecDepth 100000 in
theorem c_Sn_valid (l : Launch) (dC : Nat → ClassId) (dI : Nat → Nat → Nat) (cI : ClassId) (h a : Nat) (b : Nat → Nat) (hb9 : ∀ j, b j < 65536) : mR l y_Sn_isValid w_Sn_isValid ({ frames := 2, cells := 0, slots := 0, locals := 45 } : Room) [.ref h] (dC, dI) vwCl [(cI, .int)] [(h, .inr (2, [.ref a])), (a, .inl (cI, 11, .inl (nf b)))] (some (.int (bI (valN b)))) := by
  refine mk_Ri (cc := b_Sn_isValid) (maxL := 1) (by decide) rfl (Nat.le_of_ble_eq_true rfl) (mk_nz _) ?_
  intro p e s m below meth c Q A ls S hP hK hT hS hl hret
  obtain ⟨hx, hb, hml, hown, hts⟩ := id S
  have hl : lv_has ls 1 [(0, .ref h)] := hl
  refine lv_aload_n hx hb d_Sn_isValid_0 rfl (lv_at hl 0 rfl) ?_
  refine lv_iconst (v := nI 0) hx hb d_Sn_isValid_1 (by decide) ?_
  refine mk_r1 (W.runV (As := [.int (nI 0)]) (rest := []) S (c_Sn_get l dC dI cI h a b 0 (by first | assumption | omega) (by first | assumption | omega)) (gV 1 hts k_414 k_416 k_6 k_26 k_417 (by decide +kernel) ⟨Nat.le_of_ble_eq_true rfl, Nat.le_of_ble_eq_true rfl⟩) (mk_vR hP hK hT hS [0, 1] rfl (q0 := 0) (ci := 2) rfl rfl) rfl rfl hl.1 rfl (lv_room (Nat.le_of_ble_eq_true rfl)) d_Sn_isValid_2 ⟨Nat.zero_le _, Nat.zero_le _⟩) ?_
  have b_1 := (show ∀ j9, b j9 < 65536 by assumption) 0
  refine lv_bipush (v := nI 32) hx hb d_Sn_isValid_5 (by decide) ?_
  refine lv_icmp_eq (tgt := 35) hx hb d_Sn_isValid_7 (by decide) (fun c_2 => ?_) (fun c_2 => ?_)
  · skip
    rw [nI_eq (by omega) (by omega)] at c_2
    refine lv_iconst (v := nI 0) hx hb d_Sn_isValid_35 (by decide) ?_
    exact mk_ti (by exact mk_bf (by simp only [valN, decide_eq_false_iff_not]; intro h9; first | omega | (have h8 := h9.2.1; rw [c_2] at h8; exact absurd h8 (by decide)) | (have h8 := h9.2.2; rw [c_2] at h8; exact absurd h8 (by decide)))) (hret _ _ d_Sn_isValid_36)
  · skip
    rw [nI_eq (by omega) (by omega)] at c_2
    refine lv_aload_n hx hb d_Sn_isValid_10 rfl (lv_at hl 0 rfl) ?_
    refine lv_iconst (v := nI 0) hx hb d_Sn_isValid_11 (by decide) ?_
    refine lv_bipush (v := nI 8) hx hb d_Sn_isValid_12 (by decide) ?_
    refine mk_r1 (W.runV (As := [.int (nI 0), .int (nI 8)]) (rest := []) S (c_Sn_bo l dC dI cI h a b 0 8 (by first | assumption | omega) (by first | assumption | omega) (by first | assumption | omega)) (gV 2 hts k_469 k_471 k_9 k_26 k_472 (by decide +kernel) ⟨Nat.le_of_ble_eq_true rfl, Nat.le_of_ble_eq_true rfl⟩) (mk_vR hP hK hT hS [0, 1] rfl (q0 := 0) (ci := 2) rfl rfl) rfl rfl hl.1 rfl (lv_room (Nat.le_of_ble_eq_true rfl)) d_Sn_isValid_14 ⟨Nat.zero_le _, Nat.zero_le _⟩) ?_
    refine mk_ti (y := bI (boN b 8 0 0)) rfl ?_
    refine lv_if_eq (tgt := 35) hx hb d_Sn_isValid_17 (by decide) (fun c_3 => ?_) (fun c_3 => ?_)
    · skip
      have c_3 := bI_0 c_3
      refine lv_iconst (v := nI 0) hx hb d_Sn_isValid_35 (by decide) ?_
      exact mk_ti (by exact mk_bf (by simp only [valN, decide_eq_false_iff_not]; intro h9; first | omega | (have h8 := h9.2.1; rw [c_3] at h8; exact absurd h8 (by decide)) | (have h8 := h9.2.2; rw [c_3] at h8; exact absurd h8 (by decide)))) (hret _ _ d_Sn_isValid_36)
    · skip
      have c_3 := bI_1 c_3
      refine lv_aload_n hx hb d_Sn_isValid_20 rfl (lv_at hl 0 rfl) ?_
      refine lv_bipush (v := nI 8) hx hb d_Sn_isValid_21 (by decide) ?_
      refine lv_bipush (v := nI 11) hx hb d_Sn_isValid_23 (by decide) ?_
      refine mk_r1 (W.runV (As := [.int (nI 8), .int (nI 11)]) (rest := []) S (c_Sn_bo l dC dI cI h a b 8 11 (by first | assumption | omega) (by first | assumption | omega) (by first | assumption | omega)) (gV 2 hts k_469 k_471 k_9 k_26 k_472 (by decide +kernel) ⟨Nat.le_of_ble_eq_true rfl, Nat.le_of_ble_eq_true rfl⟩) (mk_vR hP hK hT hS [0, 1] rfl (q0 := 0) (ci := 2) rfl rfl) rfl rfl hl.1 rfl (lv_room (Nat.le_of_ble_eq_true rfl)) d_Sn_isValid_25 ⟨Nat.zero_le _, Nat.zero_le _⟩) ?_
      refine mk_ti (y := bI (boN b 3 8 0)) rfl ?_
      refine lv_if_eq (tgt := 35) hx hb d_Sn_isValid_28 (by decide) (fun c_4 => ?_) (fun c_4 => ?_)
      · skip
        have c_4 := bI_0 c_4
        refine lv_iconst (v := nI 0) hx hb d_Sn_isValid_35 (by decide) ?_
        exact mk_ti (by exact mk_bf (by simp only [valN, decide_eq_false_iff_not]; intro h9; first | omega | (have h8 := h9.2.1; rw [c_4] at h8; exact absurd h8 (by decide)) | (have h8 := h9.2.2; rw [c_4] at h8; exact absurd h8 (by decide)))) (hret _ _ d_Sn_isValid_36)
      · skip
        have c_4 := bI_1 c_4
        refine lv_iconst (v := nI 1) hx hb d_Sn_isValid_31 (by decide) ?_
        refine lv_goto (tgt := 36) hx hb d_Sn_isValid_32 (by decide) ?_
        exact mk_ti (by exact mk_bt (by simp only [valN, decide_eq_true_eq]; exact ⟨by omega, by assumption, by assumption⟩)) (hret _ _ d_Sn_isValid_36)

set_option maxHeartbeats 4000000 in
set_option maxRecDepth 100000 in
theorem c_Sn_showB (l : Launch) (dC : Nat → ClassId) (dI : Nat → Nat → Nat) (cI : ClassId) (h a : Nat) (b : Nat → Nat) (hr ar n : Nat) (v : Nat → Nat) (f t : Nat) (hb9 : ∀ j, b j < 65536) (hn : n ≤ 20) (hf : f ≤ t) (ht : t ≤ 11) : mM l y_Sn_showBytes w_Sn_showBytes ({ frames := 1, cells := 0, slots := 0, locals := 21 } : Room) [.ref h, .ref hr, .int (nI f), .int (nI t)] (dC, dI) vwCl [(cI, .int)] [(h, .inr (2, [.ref a])), (a, .inl (cI, 11, .inl (nf b))), (hr, .inr (1, [.ref ar, .int (nI n)])), (ar, .inl (cI, 255, .inl (nf v)))] none [(h, .inr (2, [.ref a])), (a, .inl (cI, 11, .inl (nf b))), (hr, .inr (1, [.ref ar, .int (nI (n + cnN b (t - f) f))])), (ar, .inl (cI, 255, .inl (nf (apN v b n f (cnN b (t - f) f)))))] := by
  have hcn := cnN_le b (t - f) f
  refine mk_Mv (cc := b_Sn_showBytes) (maxL := 5) (by decide) rfl (Nat.le_of_ble_eq_true rfl) ?_
  intro p e s m below meth c Q A ls S hP hK hT hS hl hD hA hret
  obtain ⟨hx, hb, hml, hown, hts⟩ := id S
  have hl : lv_has ls 5 [(0, .ref h), (1, .ref hr), (2, .int (nI f)), (3, .int (nI t))] := hl
  refine lv_iload_n hx hb d_Sn_showBytes_0 rfl (lv_at hl 2 rfl) ?_
  refine lv_istore (lv' := [(4, .int (nI f)), (0, .ref h), (1, .ref hr), (2, .int (nI f)), (3, .int (nI t))]) hx hb d_Sn_showBytes_1 hl (by decide) rfl (fun ls hl => ?_)
  have lp3 : ∀ (k : Nat) (i c9 : Nat) (H : Heap) (locs : List Loc) (ls : Array Slot), (i + k = t) → (i = f + c9) → (cnN b (t - f) f = c9 + cnN b k i) → va_P (dC, dI) vwCl [(h, .inr (2, [.ref a])), (a, .inl (cI, 11, .inl (nf b))), (hr, .inr (1, [.ref ar, .int (nI (n + c9))])), (ar, .inl (cI, 255, .inl (nf (apN v b n f c9))))] H → va_D A [(h, .inr (2, [.ref a])), (a, .inl (cI, 11, .inl (nf b))), (hr, .inr (1, [.ref ar, .int (nI (n + c9))])), (ar, .inl (cI, 255, .inl (nf (apN v b n f c9))))] → va_S A s.heap H locs → lv_has ls 5 [(0, .ref h), (1, .ref hr), (3, .int (nI t)), (4, .int (nI i))] → W p l e ({ frames := 1, cells := 0, slots := 0, locals := 21 } : Room) s m ([.ref h, .ref hr, .int (nI f), .int (nI t)] : List Value).toArray below meth c H locs 0 0 Q (F0 m 3 ls []) := by
    intro k
    induction k with
    | zero =>
      intro i c9 H locs ls hi hc hE hP hD hS hl
      refine lv_iload hx hb d_Sn_showBytes_3 (lv_at hl 3 rfl) ?_
      refine lv_iload_n hx hb d_Sn_showBytes_5 rfl (lv_at hl 2 rfl) ?_
      refine lv_icmp_ge (tgt := 37) hx hb d_Sn_showBytes_6 (by decide) (fun c_1 => ?_) (fun c_1 => ?_)
      · skip
        rw [nI_leI (by omega) (by omega)] at c_1
        have hw9 : ([(h, .inr (2, [.ref a])), (a, .inl (cI, 11, .inl (nf b))), (hr, .inr (1, [.ref ar, .int (nI (n + c9))])), (ar, .inl (cI, 255, .inl (nf (apN v b n f c9))))] : va_W) = [(h, .inr (2, [.ref a])), (a, .inl (cI, 11, .inl (nf b))), (hr, .inr (1, [.ref ar, .int (nI (n + cnN b (t - f) f))])), (ar, .inl (cI, 255, .inl (nf (apN v b n f (cnN b (t - f) f)))))] := by rw [show cnN b (t - f) f = c9 from (by rw [hE]; first | rfl | (rw [cnN, if_pos (by omega)]; rfl))]
        rw [hw9] at hP hD
        exact hret _ _ _ _ d_Sn_showBytes_37 hP hD hS
      · skip
        rw [nI_leI (by omega) (by omega)] at c_1
        first | omega | contradiction
    | succ k ih3 =>
      intro i c9 H locs ls hi hc hE hP hD hS hl
      refine lv_iload hx hb d_Sn_showBytes_3 (lv_at hl 3 rfl) ?_
      refine lv_iload_n hx hb d_Sn_showBytes_5 rfl (lv_at hl 2 rfl) ?_
      refine lv_icmp_ge (tgt := 37) hx hb d_Sn_showBytes_6 (by decide) (fun c_2 => ?_) (fun c_2 => ?_)
      · skip
        rw [nI_leI (by omega) (by omega)] at c_2
        first | omega | contradiction
      · skip
        rw [nI_leI (by omega) (by omega)] at c_2
        refine lv_aload_n hx hb d_Sn_showBytes_9 rfl (lv_at hl 0 rfl) ?_
        refine lv_iload hx hb d_Sn_showBytes_10 (lv_at hl 3 rfl) ?_
        refine mk_r1 (W.runV (As := [.int (nI i)]) (rest := []) S (c_Sn_get l dC dI cI h a b i (by first | assumption | omega) (by first | assumption | omega)) (gV 1 hts k_414 k_416 k_6 k_26 k_417 (by decide +kernel) ⟨Nat.le_of_ble_eq_true rfl, Nat.le_of_ble_eq_true rfl⟩) (mk_vR hP hK hT hS [0, 1] rfl (q0 := 0) (ci := 2) rfl rfl) rfl rfl hl.1 rfl (lv_room (Nat.le_of_ble_eq_true rfl)) d_Sn_showBytes_12 ⟨Nat.zero_le _, Nat.zero_le _⟩) ?_
        have b_3 := (show ∀ j9, b j9 < 65536 by assumption) i
        refine lv_bipush (v := nI 32) hx hb d_Sn_showBytes_15 (by decide) ?_
        refine lv_icmp_eq (tgt := 37) hx hb d_Sn_showBytes_17 (by decide) (fun c_4 => ?_) (fun c_4 => ?_)
        · skip
          rw [nI_eq (by omega) (by omega)] at c_4
          have hw9 : ([(h, .inr (2, [.ref a])), (a, .inl (cI, 11, .inl (nf b))), (hr, .inr (1, [.ref ar, .int (nI (n + c9))])), (ar, .inl (cI, 255, .inl (nf (apN v b n f c9))))] : va_W) = [(h, .inr (2, [.ref a])), (a, .inl (cI, 11, .inl (nf b))), (hr, .inr (1, [.ref ar, .int (nI (n + cnN b (t - f) f))])), (ar, .inl (cI, 255, .inl (nf (apN v b n f (cnN b (t - f) f)))))] := by rw [show cnN b (t - f) f = c9 from (by rw [hE]; first | rfl | (rw [cnN, if_pos (by omega)]; rfl))]
          rw [hw9] at hP hD
          exact hret _ _ _ _ d_Sn_showBytes_37 hP hD hS
        · skip
          rw [nI_eq (by omega) (by omega)] at c_4
          refine lv_aload_n hx hb d_Sn_showBytes_20 rfl (lv_at hl 1 rfl) ?_
          refine lv_aload_n hx hb d_Sn_showBytes_21 rfl (lv_at hl 0 rfl) ?_
          refine lv_iload hx hb d_Sn_showBytes_22 (lv_at hl 3 rfl) ?_
          refine mk_r1 (W.runV (As := [.int (nI i)]) (rest := [.ref hr]) S (c_Sn_get l dC dI cI h a b i (by first | assumption | omega) (by first | assumption | omega)) (gV 1 hts k_414 k_416 k_6 k_26 k_417 (by decide +kernel) ⟨Nat.le_of_ble_eq_true rfl, Nat.le_of_ble_eq_true rfl⟩) (mk_vR hP hK hT hS [0, 1] rfl (q0 := 0) (ci := 2) rfl rfl) rfl rfl hl.1 rfl (lv_room (Nat.le_of_ble_eq_true rfl)) d_Sn_showBytes_24 ⟨Nat.zero_le _, Nat.zero_le _⟩) ?_
          have b_5 := (show ∀ j9, b j9 < 65536 by assumption) i
          refine mk_w1 (wr := [(h, .inr (2, [.ref a])), (a, .inl (cI, 11, .inl (nf b)))]) (W.runV (As := [.int (nI (b i))]) (rest := []) S ((c_Ro_app l dC dI cI hr ar (n + c9) (apN v b n f c9) (b i) (by first | assumption | omega)) _) (gV 1 hts k_498 k_117 k_118 k_25 k_119 (by decide +kernel) ⟨Nat.le_of_ble_eq_true rfl, Nat.le_of_ble_eq_true rfl⟩) (mk_vM hP hD hK hT hS hA [2, 3] rfl rfl (by decide) (q0 := 2) (ci := 1) rfl rfl) rfl rfl hl.1 rfl (lv_room (Nat.le_of_ble_eq_true rfl)) d_Sn_showBytes_27 ⟨Nat.zero_le _, Nat.zero_le _⟩) hP hD hS hA [2, 3] [0, 1] rfl rfl (by decide) (by decide) (fun H locs hP hD hS => ?_)
          have hP : va_P (dC, dI) vwCl [(h, .inr (2, [.ref a])), (a, .inl (cI, 11, .inl (nf b))), (hr, .inr (1, [.ref ar, .int (nI ((n + c9) + 1))])), (ar, .inl (cI, 255, .inl (nf (uN (apN v b n f c9) (n + c9) (b i)))))] H := hP.sub [0, 1, 2, 3] rfl
          have hD : va_D A [(h, .inr (2, [.ref a])), (a, .inl (cI, 11, .inl (nf b))), (hr, .inr (1, [.ref ar, .int (nI ((n + c9) + 1))])), (ar, .inl (cI, 255, .inl (nf (uN (apN v b n f c9) (n + c9) (b i)))))] := hD.sub [0, 1, 2, 3] (by decide) rfl
          refine lv_pop hx hb d_Sn_showBytes_30 rfl ?_
          refine lv_iinc (v := nI (i + 1)) (lv' := [(4, .int (nI (i + 1))), (0, .ref h), (1, .ref hr), (3, .int (nI t))]) hx hb d_Sn_showBytes_31 hl (k := 3) rfl (mk_i1 i) (by decide) rfl (fun ls hl => ?_)
          refine lv_goto (tgt := 3) hx hb d_Sn_showBytes_34 (by decide) ?_
          have hl : lv_has ls 5 [(0, .ref h), (1, .ref hr), (3, .int (nI t)), (4, .int (nI (i + 1)))] := lv_sub hl [1, 2, 3, 0] rfl
          have hw9 : ([(h, .inr (2, [.ref a])), (a, .inl (cI, 11, .inl (nf b))), (hr, .inr (1, [.ref ar, .int (nI ((n + c9) + 1))])), (ar, .inl (cI, 255, .inl (nf (uN (apN v b n f c9) (n + c9) (b i)))))] : va_W) = [(h, .inr (2, [.ref a])), (a, .inl (cI, 11, .inl (nf b))), (hr, .inr (1, [.ref ar, .int (nI (n + (c9 + 1)))])), (ar, .inl (cI, 255, .inl (nf (apN v b n f (c9 + 1)))))] := by rw [hc, apN_s]; rfl
          rw [hw9] at hP hD
          exact ih3 (i + 1) (c9 + 1) _ _ _ (by omega) (by omega) (by rw [hE, cnN, if_neg (by omega)]; omega) hP hD hS hl
  have hl : lv_has ls 5 [(0, .ref h), (1, .ref hr), (3, .int (nI t)), (4, .int (nI f))] := lv_sub hl [1, 2, 4, 0] rfl
  have hw9 : ([(h, .inr (2, [.ref a])), (a, .inl (cI, 11, .inl (nf b))), (hr, .inr (1, [.ref ar, .int (nI n)])), (ar, .inl (cI, 255, .inl (nf v)))] : va_W) = [(h, .inr (2, [.ref a])), (a, .inl (cI, 11, .inl (nf b))), (hr, .inr (1, [.ref ar, .int (nI (n + 0))])), (ar, .inl (cI, 255, .inl (nf (apN v b n f 0))))] := by rw [apN_0]; rfl
  rw [hw9] at hP hD
  exact lp3 (t - f) f 0 _ _ _ (by omega) rfl (Nat.zero_add _).symm hP hD hS hl

