set_option maxHeartbeats 4000000 in
set_option maxRecDepth 100000 in
theorem c_Ar_fill11 (l : Launch) (dC : Nat → ClassId) (dI : Nat → Nat → Nat) (cI : ClassId) (a : Nat) (b : Nat → Nat) (x : Nat) : mM l y_Ar_fill w_Ar_fill ({ frames := 0, cells := 0, slots := 0, locals := 0 } : Room) [.ref a, .int (nI x)] (dC, dI) vwCl [(cI, .int)] [(a, .inl (cI, 11, .inl (nf b)))] none [(a, .inl (cI, 11, .inl (nf (fiN b x 11))))] := by
  refine mk_Mv (cc := b_Ar_fill) (maxL := 4) (by decide) rfl (Nat.le_of_ble_eq_true rfl) ?_
  intro p e s m below meth c Q A ls S hP hK hT hS hl hD hA hret
  obtain ⟨hx, hb, hml, hown, hts⟩ := id S
  have hl : lv_has ls 4 [(0, .ref a), (1, .int (nI x))] := hl
  refine lv_iconst (v := nI 0) hx hb d_Ar_fill_0 (by decide) ?_
  refine lv_istore_n (lv' := [(2, .int (nI 0)), (0, .ref a), (1, .int (nI x))]) hx hb d_Ar_fill_1 rfl hl (by decide) rfl (fun ls hl => ?_)
  refine lv_aload_n hx hb d_Ar_fill_2 rfl (lv_at hl 1 rfl) ?_
  refine va_alen hx hb hK hP 0 0 rfl rfl (v := nI 11) rfl d_Ar_fill_3 ?_
  refine lv_istore_n (lv' := [(3, .int (nI 11)), (2, .int (nI 0)), (0, .ref a), (1, .int (nI x))]) hx hb d_Ar_fill_4 rfl hl (by decide) rfl (fun ls hl => ?_)
  have lp5 : ∀ (k : Nat) (i : Nat) (H : Heap) (locs : List Loc) (ls : Array Slot), (i + k = 11) → va_P (dC, dI) vwCl [(a, .inl (cI, 11, .inl (nf (fiN b x i))))] H → va_D A [(a, .inl (cI, 11, .inl (nf (fiN b x i))))] → va_S A s.heap H locs → lv_has ls 4 [(0, .ref a), (1, .int (nI x)), (2, .int (nI i)), (3, .int (nI 11))] → W p l e ({ frames := 0, cells := 0, slots := 0, locals := 0 } : Room) s m ([.ref a, .int (nI x)] : List Value).toArray below meth c H locs 0 0 Q (F0 m 5 ls []) := by
    intro k
    induction k with
    | zero =>
      intro i H locs ls hi hP hD hS hl
      refine lv_iload_n hx hb d_Ar_fill_5 rfl (lv_at hl 2 rfl) ?_
      refine lv_iload_n hx hb d_Ar_fill_6 rfl (lv_at hl 3 rfl) ?_
      refine lv_icmp_ge (tgt := 20) hx hb d_Ar_fill_7 (by decide) (fun c_1 => ?_) (fun c_1 => ?_)
      · skip
        rw [nI_leI (by omega) (by omega)] at c_1
        have hw9 : ([(a, .inl (cI, 11, .inl (nf (fiN b x i))))] : va_W) = [(a, .inl (cI, 11, .inl (nf (fiN b x 11))))] := by rw [show i = 11 by omega]
        rw [hw9] at hP hD
        exact hret _ _ _ _ d_Ar_fill_20 hP hD hS
      · skip
        rw [nI_leI (by omega) (by omega)] at c_1
        first | omega | contradiction
    | succ k ih5 =>
      intro i H locs ls hi hP hD hS hl
      refine lv_iload_n hx hb d_Ar_fill_5 rfl (lv_at hl 2 rfl) ?_
      refine lv_iload_n hx hb d_Ar_fill_6 rfl (lv_at hl 3 rfl) ?_
      refine lv_icmp_ge (tgt := 20) hx hb d_Ar_fill_7 (by decide) (fun c_2 => ?_) (fun c_2 => ?_)
      · skip
        rw [nI_leI (by omega) (by omega)] at c_2
        first | omega | contradiction
      · skip
        rw [nI_leI (by omega) (by omega)] at c_2
        refine lv_aload_n hx hb d_Ar_fill_10 rfl (lv_at hl 0 rfl) ?_
        refine lv_iload_n hx hb d_Ar_fill_11 rfl (lv_at hl 2 rfl) ?_
        refine lv_iload_n hx hb d_Ar_fill_12 rfl (lv_at hl 1 rfl) ?_
        refine va_iast hx hb hK hP hD hS 0 0 rfl rfl (vp_in_nI (N := 11) (show i < 11 by omega) (by decide)) d_Ar_fill_13 (fun H locs hP hD hS => ?_)
        rw [nI_clamp (by omega), nf_up] at hP hD
        have hP : va_P (dC, dI) vwCl [(a, .inl (cI, 11, .inl (nf (uN (fiN b x i) i x))))] H := hP
        have hD : va_D A [(a, .inl (cI, 11, .inl (nf (uN (fiN b x i) i x))))] := hD
        refine lv_iinc (v := nI (i + 1)) (lv' := [(2, .int (nI (i + 1))), (0, .ref a), (1, .int (nI x)), (3, .int (nI 11))]) hx hb d_Ar_fill_14 hl (k := 2) rfl (mk_i1 i) (by decide) rfl (fun ls hl => ?_)
        refine lv_goto (tgt := 5) hx hb d_Ar_fill_17 (by decide) ?_
        have hl : lv_has ls 4 [(0, .ref a), (1, .int (nI x)), (2, .int (nI (i + 1))), (3, .int (nI 11))] := lv_sub hl [1, 2, 0, 3] rfl
        have hw9 : ([(a, .inl (cI, 11, .inl (nf (uN (fiN b x i) i x))))] : va_W) = [(a, .inl (cI, 11, .inl (nf (fiN b x (i + 1)))))] := by rw [fiN_s]
        rw [hw9] at hP hD
        exact ih5 (i + 1) _ _ _ (by omega) hP hD hS hl
  have hl : lv_has ls 4 [(0, .ref a), (1, .int (nI x)), (2, .int (nI 0)), (3, .int (nI 11))] := lv_sub hl [2, 3, 1, 0] rfl
  have hw9 : ([(a, .inl (cI, 11, .inl (nf b)))] : va_W) = [(a, .inl (cI, 11, .inl (nf (fiN b x 0))))] := by rw [fiN_0]
  rw [hw9] at hP hD
  exact lp5 11 0 _ _ _ rfl hP hD hS hl

set_option maxHeartbeats 4000000 in
set_option maxRecDepth 100000 in
theorem c_Ar_fill32 (l : Launch) (dC : Nat → ClassId) (dI : Nat → Nat → Nat) (cI : ClassId) (a : Nat) (b : Nat → Nat) (x : Nat) : mM l y_Ar_fill w_Ar_fill ({ frames := 0, cells := 0, slots := 0, locals := 0 } : Room) [.ref a, .int (nI x)] (dC, dI) vwCl [(cI, .int)] [(a, .inl (cI, 32, .inl (nf b)))] none [(a, .inl (cI, 32, .inl (nf (fiN b x 32))))] := by
  refine mk_Mv (cc := b_Ar_fill) (maxL := 4) (by decide) rfl (Nat.le_of_ble_eq_true rfl) ?_
  intro p e s m below meth c Q A ls S hP hK hT hS hl hD hA hret
  obtain ⟨hx, hb, hml, hown, hts⟩ := id S
  have hl : lv_has ls 4 [(0, .ref a), (1, .int (nI x))] := hl
  refine lv_iconst (v := nI 0) hx hb d_Ar_fill_0 (by decide) ?_
  refine lv_istore_n (lv' := [(2, .int (nI 0)), (0, .ref a), (1, .int (nI x))]) hx hb d_Ar_fill_1 rfl hl (by decide) rfl (fun ls hl => ?_)
  refine lv_aload_n hx hb d_Ar_fill_2 rfl (lv_at hl 1 rfl) ?_
  refine va_alen hx hb hK hP 0 0 rfl rfl (v := nI 32) rfl d_Ar_fill_3 ?_
  refine lv_istore_n (lv' := [(3, .int (nI 32)), (2, .int (nI 0)), (0, .ref a), (1, .int (nI x))]) hx hb d_Ar_fill_4 rfl hl (by decide) rfl (fun ls hl => ?_)
  have lp5 : ∀ (k : Nat) (i : Nat) (H : Heap) (locs : List Loc) (ls : Array Slot), (i + k = 32) → va_P (dC, dI) vwCl [(a, .inl (cI, 32, .inl (nf (fiN b x i))))] H → va_D A [(a, .inl (cI, 32, .inl (nf (fiN b x i))))] → va_S A s.heap H locs → lv_has ls 4 [(0, .ref a), (1, .int (nI x)), (2, .int (nI i)), (3, .int (nI 32))] → W p l e ({ frames := 0, cells := 0, slots := 0, locals := 0 } : Room) s m ([.ref a, .int (nI x)] : List Value).toArray below meth c H locs 0 0 Q (F0 m 5 ls []) := by
    intro k
    induction k with
    | zero =>
      intro i H locs ls hi hP hD hS hl
      refine lv_iload_n hx hb d_Ar_fill_5 rfl (lv_at hl 2 rfl) ?_
      refine lv_iload_n hx hb d_Ar_fill_6 rfl (lv_at hl 3 rfl) ?_
      refine lv_icmp_ge (tgt := 20) hx hb d_Ar_fill_7 (by decide) (fun c_1 => ?_) (fun c_1 => ?_)
      · skip
        rw [nI_leI (by omega) (by omega)] at c_1
        have hw9 : ([(a, .inl (cI, 32, .inl (nf (fiN b x i))))] : va_W) = [(a, .inl (cI, 32, .inl (nf (fiN b x 32))))] := by rw [show i = 32 by omega]
        rw [hw9] at hP hD
        exact hret _ _ _ _ d_Ar_fill_20 hP hD hS
      · skip
        rw [nI_leI (by omega) (by omega)] at c_1
        first | omega | contradiction
    | succ k ih5 =>
      intro i H locs ls hi hP hD hS hl
      refine lv_iload_n hx hb d_Ar_fill_5 rfl (lv_at hl 2 rfl) ?_
      refine lv_iload_n hx hb d_Ar_fill_6 rfl (lv_at hl 3 rfl) ?_
      refine lv_icmp_ge (tgt := 20) hx hb d_Ar_fill_7 (by decide) (fun c_2 => ?_) (fun c_2 => ?_)
      · skip
        rw [nI_leI (by omega) (by omega)] at c_2
        first | omega | contradiction
      · skip
        rw [nI_leI (by omega) (by omega)] at c_2
        refine lv_aload_n hx hb d_Ar_fill_10 rfl (lv_at hl 0 rfl) ?_
        refine lv_iload_n hx hb d_Ar_fill_11 rfl (lv_at hl 2 rfl) ?_
        refine lv_iload_n hx hb d_Ar_fill_12 rfl (lv_at hl 1 rfl) ?_
        refine va_iast hx hb hK hP hD hS 0 0 rfl rfl (vp_in_nI (N := 32) (show i < 32 by omega) (by decide)) d_Ar_fill_13 (fun H locs hP hD hS => ?_)
        rw [nI_clamp (by omega), nf_up] at hP hD
        have hP : va_P (dC, dI) vwCl [(a, .inl (cI, 32, .inl (nf (uN (fiN b x i) i x))))] H := hP
        have hD : va_D A [(a, .inl (cI, 32, .inl (nf (uN (fiN b x i) i x))))] := hD
        refine lv_iinc (v := nI (i + 1)) (lv' := [(2, .int (nI (i + 1))), (0, .ref a), (1, .int (nI x)), (3, .int (nI 32))]) hx hb d_Ar_fill_14 hl (k := 2) rfl (mk_i1 i) (by decide) rfl (fun ls hl => ?_)
        refine lv_goto (tgt := 5) hx hb d_Ar_fill_17 (by decide) ?_
        have hl : lv_has ls 4 [(0, .ref a), (1, .int (nI x)), (2, .int (nI (i + 1))), (3, .int (nI 32))] := lv_sub hl [1, 2, 0, 3] rfl
        have hw9 : ([(a, .inl (cI, 32, .inl (nf (uN (fiN b x i) i x))))] : va_W) = [(a, .inl (cI, 32, .inl (nf (fiN b x (i + 1)))))] := by rw [fiN_s]
        rw [hw9] at hP hD
        exact ih5 (i + 1) _ _ _ (by omega) hP hD hS hl
  have hl : lv_has ls 4 [(0, .ref a), (1, .int (nI x)), (2, .int (nI 0)), (3, .int (nI 32))] := lv_sub hl [2, 3, 1, 0] rfl
  have hw9 : ([(a, .inl (cI, 32, .inl (nf b)))] : va_W) = [(a, .inl (cI, 32, .inl (nf (fiN b x 0))))] := by rw [fiN_0]
  rw [hw9] at hP hD
  exact lp5 32 0 _ _ _ rfl hP hD hS hl

