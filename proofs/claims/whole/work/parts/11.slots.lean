set_option maxHeartbeats 4000000 in
set_option maxRecDepth 100000 in
theorem c_Sl_isN (l : Launch) (dC : Nat → ClassId) (dI : Nat → Nat → Nat) (cI : ClassId) (k : Nat) (hk : k < 32) : mR l y_Sl_isSlot w_Sl_isSlot ({ frames := 0, cells := 0, slots := 0, locals := 0 } : Room) [.int (nI k)] (dC, dI) vwCl [(cI, .int)] [] (some (.int (nI 1))) := by
  refine mk_Ri (cc := b_Sl_isSlot) (maxL := 1) (by decide) rfl (Nat.le_of_ble_eq_true rfl) (rfl) ?_
  intro p e s m below meth c Q A ls S hP hK hT hS hl hret
  obtain ⟨hx, hb, hml, hown, hts⟩ := id S
  have hl : lv_has ls 1 [(0, .int (nI k))] := hl
  refine lv_iload_n hx hb d_Sl_isSlot_0 rfl (lv_at hl 0 rfl) ?_
  refine lv_if_lt (tgt := 14) hx hb d_Sl_isSlot_1 (by decide) (fun c_1 => ?_) (fun c_1 => ?_)
  · skip
    rw [mk_clt (by omega)] at c_1
    first | omega | contradiction
  · skip
    rw [mk_clt (by omega)] at c_1
    refine lv_iload_n hx hb d_Sl_isSlot_4 rfl (lv_at hl 0 rfl) ?_
    refine lv_bipush (v := nI 32) hx hb d_Sl_isSlot_5 (by decide) ?_
    refine lv_icmp_ge (tgt := 14) hx hb d_Sl_isSlot_7 (by decide) (fun c_2 => ?_) (fun c_2 => ?_)
    · skip
      rw [nI_leI (by omega) (by omega)] at c_2
      first | omega | contradiction
    · skip
      rw [nI_leI (by omega) (by omega)] at c_2
      refine lv_iconst (v := nI 1) hx hb d_Sl_isSlot_10 (by decide) ?_
      refine lv_goto (tgt := 15) hx hb d_Sl_isSlot_11 (by decide) ?_
      exact hret _ _ d_Sl_isSlot_15

set_option maxHeartbeats 4000000 in
set_option maxRecDepth 100000 in
theorem c_Sl_isX (l : Launch) (dC : Nat → ClassId) (dI : Nat → Nat → Nat) (cI : ClassId) (x : Int32) (hk : x < 0 ∨ nI 32 ≤ x) : mR l y_Sl_isSlot w_Sl_isSlot ({ frames := 0, cells := 0, slots := 0, locals := 0 } : Room) [.int x] (dC, dI) vwCl [(cI, .int)] [] (some (.int (nI 0))) := by
  refine mk_Ri (cc := b_Sl_isSlot) (maxL := 1) (by decide) rfl (Nat.le_of_ble_eq_true rfl) (rfl) ?_
  intro p e s m below meth c Q A ls S hP hK hT hS hl hret
  obtain ⟨hx, hb, hml, hown, hts⟩ := id S
  have hl : lv_has ls 1 [(0, .int x)] := hl
  refine lv_iload_n hx hb d_Sl_isSlot_0 rfl (lv_at hl 0 rfl) ?_
  refine lv_if_lt (tgt := 14) hx hb d_Sl_isSlot_1 (by decide) (fun c_1 => ?_) (fun c_1 => ?_)
  · skip
    refine lv_iconst (v := nI 0) hx hb d_Sl_isSlot_14 (by decide) ?_
    first | exact hret _ _ d_Sl_isSlot_15 | (rcases hk with h9 | h9 <;> contradiction)
  · skip
    refine lv_iload_n hx hb d_Sl_isSlot_4 rfl (lv_at hl 0 rfl) ?_
    refine lv_bipush (v := nI 32) hx hb d_Sl_isSlot_5 (by decide) ?_
    refine lv_icmp_ge (tgt := 14) hx hb d_Sl_isSlot_7 (by decide) (fun c_2 => ?_) (fun c_2 => ?_)
    · skip
      refine lv_iconst (v := nI 0) hx hb d_Sl_isSlot_14 (by decide) ?_
      first | exact hret _ _ d_Sl_isSlot_15 | (rcases hk with h9 | h9 <;> contradiction)
    · skip
      refine lv_iconst (v := nI 1) hx hb d_Sl_isSlot_10 (by decide) ?_
      refine lv_goto (tgt := 15) hx hb d_Sl_isSlot_11 (by decide) ?_
      first | exact hret _ _ d_Sl_isSlot_15 | (rcases hk with h9 | h9 <;> contradiction)

set_option maxHeartbeats 4000000 in
set_option maxRecDepth 100000 in
theorem c_Sl_hasN (l : Launch) (dC : Nat → ClassId) (dI : Nat → Nat → Nat) (cI : ClassId) (k j : Nat) (hk : k < 32) (hj : j < 32) : mR l y_Sl_hasByte w_Sl_hasByte ({ frames := 1, cells := 0, slots := 0, locals := 20 } : Room) [.int (nI k), .int (nI j)] (dC, dI) vwCl [(cI, .int)] [] (some (.int (nI 1))) := by
  refine mk_Ri (cc := b_Sl_hasByte) (maxL := 2) (by decide) rfl (Nat.le_of_ble_eq_true rfl) (rfl) ?_
  intro p e s m below meth c Q A ls S hP hK hT hS hl hret
  obtain ⟨hx, hb, hml, hown, hts⟩ := id S
  have hl : lv_has ls 2 [(0, .int (nI k)), (1, .int (nI j))] := hl
  refine lv_iload_n hx hb d_Sl_hasByte_0 rfl (lv_at hl 0 rfl) ?_
  refine mk_r1 (W.runS (As := [.int (nI k)]) (rest := []) S (c_Sl_isN l dC dI cI k (by first | assumption | omega)) (gS 1 hts k_206 k_207 k_28 k_208 (by decide +kernel) ⟨Nat.le_of_ble_eq_true rfl, Nat.le_of_ble_eq_true rfl⟩) (mk_sR hP hK hT hS [] rfl) rfl rfl hl.1 rfl (lv_room (Nat.le_of_ble_eq_true rfl)) d_Sl_hasByte_1 ⟨Nat.zero_le _, Nat.zero_le _⟩) ?_
  refine lv_if_eq (tgt := 21) hx hb d_Sl_hasByte_4 (by decide) (fun c_1 => ?_) (fun c_1 => ?_)
  · skip
    rw [mk_ceq (by omega)] at c_1
    first | omega | contradiction
  · skip
    rw [mk_ceq (by omega)] at c_1
    refine lv_iload_n hx hb d_Sl_hasByte_7 rfl (lv_at hl 1 rfl) ?_
    refine lv_if_lt (tgt := 21) hx hb d_Sl_hasByte_8 (by decide) (fun c_2 => ?_) (fun c_2 => ?_)
    · skip
      rw [mk_clt (by omega)] at c_2
      first | omega | contradiction
    · skip
      rw [mk_clt (by omega)] at c_2
      refine lv_iload_n hx hb d_Sl_hasByte_11 rfl (lv_at hl 1 rfl) ?_
      refine lv_bipush (v := nI 32) hx hb d_Sl_hasByte_12 (by decide) ?_
      refine lv_icmp_ge (tgt := 21) hx hb d_Sl_hasByte_14 (by decide) (fun c_3 => ?_) (fun c_3 => ?_)
      · skip
        rw [nI_leI (by omega) (by omega)] at c_3
        first | omega | contradiction
      · skip
        rw [nI_leI (by omega) (by omega)] at c_3
        refine lv_iconst (v := nI 1) hx hb d_Sl_hasByte_17 (by decide) ?_
        refine lv_goto (tgt := 22) hx hb d_Sl_hasByte_18 (by decide) ?_
        exact hret _ _ d_Sl_hasByte_22

set_option maxHeartbeats 4000000 in
set_option maxRecDepth 100000 in
theorem c_Sl_hasY (l : Launch) (dC : Nat → ClassId) (dI : Nat → Nat → Nat) (cI : ClassId) (k : Nat) (x : Int32) (hk : k < 32) (hj : x < 0 ∨ nI 32 ≤ x) : mR l y_Sl_hasByte w_Sl_hasByte ({ frames := 1, cells := 0, slots := 0, locals := 20 } : Room) [.int (nI k), .int x] (dC, dI) vwCl [(cI, .int)] [] (some (.int (nI 0))) := by
  refine mk_Ri (cc := b_Sl_hasByte) (maxL := 2) (by decide) rfl (Nat.le_of_ble_eq_true rfl) (rfl) ?_
  intro p e s m below meth c Q A ls S hP hK hT hS hl hret
  obtain ⟨hx, hb, hml, hown, hts⟩ := id S
  have hl : lv_has ls 2 [(0, .int (nI k)), (1, .int x)] := hl
  refine lv_iload_n hx hb d_Sl_hasByte_0 rfl (lv_at hl 0 rfl) ?_
  refine mk_r1 (W.runS (As := [.int (nI k)]) (rest := []) S (c_Sl_isN l dC dI cI k (by first | assumption | omega)) (gS 1 hts k_206 k_207 k_28 k_208 (by decide +kernel) ⟨Nat.le_of_ble_eq_true rfl, Nat.le_of_ble_eq_true rfl⟩) (mk_sR hP hK hT hS [] rfl) rfl rfl hl.1 rfl (lv_room (Nat.le_of_ble_eq_true rfl)) d_Sl_hasByte_1 ⟨Nat.zero_le _, Nat.zero_le _⟩) ?_
  refine lv_if_eq (tgt := 21) hx hb d_Sl_hasByte_4 (by decide) (fun c_1 => ?_) (fun c_1 => ?_)
  · skip
    rw [mk_ceq (by omega)] at c_1
    first | omega | contradiction
  · skip
    rw [mk_ceq (by omega)] at c_1
    refine lv_iload_n hx hb d_Sl_hasByte_7 rfl (lv_at hl 1 rfl) ?_
    refine lv_if_lt (tgt := 21) hx hb d_Sl_hasByte_8 (by decide) (fun c_2 => ?_) (fun c_2 => ?_)
    · skip
      refine lv_iconst (v := nI 0) hx hb d_Sl_hasByte_21 (by decide) ?_
      first | exact hret _ _ d_Sl_hasByte_22 | (rcases hj with h9 | h9 <;> contradiction)
    · skip
      refine lv_iload_n hx hb d_Sl_hasByte_11 rfl (lv_at hl 1 rfl) ?_
      refine lv_bipush (v := nI 32) hx hb d_Sl_hasByte_12 (by decide) ?_
      refine lv_icmp_ge (tgt := 21) hx hb d_Sl_hasByte_14 (by decide) (fun c_3 => ?_) (fun c_3 => ?_)
      · skip
        refine lv_iconst (v := nI 0) hx hb d_Sl_hasByte_21 (by decide) ?_
        first | exact hret _ _ d_Sl_hasByte_22 | (rcases hj with h9 | h9 <;> contradiction)
      · skip
        refine lv_iconst (v := nI 1) hx hb d_Sl_hasByte_17 (by decide) ?_
        refine lv_goto (tgt := 22) hx hb d_Sl_hasByte_18 (by decide) ?_
        first | exact hret _ _ d_Sl_hasByte_22 | (rcases hj with h9 | h9 <;> contradiction)

set_option maxHeartbeats 4000000 in
set_option maxRecDepth 100000 in
theorem c_Sl_hasX (l : Launch) (dC : Nat → ClassId) (dI : Nat → Nat → Nat) (cI : ClassId) (x z : Int32) (hk : x < 0 ∨ nI 32 ≤ x) : mR l y_Sl_hasByte w_Sl_hasByte ({ frames := 1, cells := 0, slots := 0, locals := 20 } : Room) [.int x, .int z] (dC, dI) vwCl [(cI, .int)] [] (some (.int (nI 0))) := by
  refine mk_Ri (cc := b_Sl_hasByte) (maxL := 2) (by decide) rfl (Nat.le_of_ble_eq_true rfl) (rfl) ?_
  intro p e s m below meth c Q A ls S hP hK hT hS hl hret
  obtain ⟨hx, hb, hml, hown, hts⟩ := id S
  have hl : lv_has ls 2 [(0, .int x), (1, .int z)] := hl
  refine lv_iload_n hx hb d_Sl_hasByte_0 rfl (lv_at hl 0 rfl) ?_
  refine mk_r1 (W.runS (As := [.int x]) (rest := []) S (c_Sl_isX l dC dI cI x (by first | assumption | omega)) (gS 1 hts k_206 k_207 k_28 k_208 (by decide +kernel) ⟨Nat.le_of_ble_eq_true rfl, Nat.le_of_ble_eq_true rfl⟩) (mk_sR hP hK hT hS [] rfl) rfl rfl hl.1 rfl (lv_room (Nat.le_of_ble_eq_true rfl)) d_Sl_hasByte_1 ⟨Nat.zero_le _, Nat.zero_le _⟩) ?_
  refine lv_if_eq (tgt := 21) hx hb d_Sl_hasByte_4 (by decide) (fun c_1 => ?_) (fun c_1 => ?_)
  · skip
    rw [mk_ceq (by omega)] at c_1
    refine lv_iconst (v := nI 0) hx hb d_Sl_hasByte_21 (by decide) ?_
    exact hret _ _ d_Sl_hasByte_22
  · skip
    rw [mk_ceq (by omega)] at c_1
    first | omega | contradiction

set_option maxHeartbeats 4000000 in
set_option maxRecDepth 100000 in
theorem c_Sl_getN (l : Launch) (dC : Nat → ClassId) (dI : Nat → Nat → Nat) (cI : ClassId) (h a : Nat) (B : Nat → Nat) (k j : Nat) (hB : ∀ j, B j < 256) (hk : k < 32) (hj : j < 32) : mR l y_Sl_get w_Sl_get ({ frames := 2, cells := 0, slots := 0, locals := 41 } : Room) [.ref h, .int (nI k), .int (nI j)] (dC, dI) vwCl [(cI, .int)] [(h, .inr (4, [.ref a])), (a, .inl (cI, 1024, .inl (nf B)))] (some (.int (nI (B (k * 32 + j))))) := by
  refine mk_Ri (cc := b_Sl_get) (maxL := 3) (by decide) rfl (Nat.le_of_ble_eq_true rfl) rfl ?_
  intro p e s m below meth c Q A ls S hP hK hT hS hl hret
  obtain ⟨hx, hb, hml, hown, hts⟩ := id S
  have hl : lv_has ls 3 [(0, .ref h), (1, .int (nI k)), (2, .int (nI j))] := hl
  refine lv_iload_n hx hb d_Sl_get_0 rfl (lv_at hl 1 rfl) ?_
  refine lv_iload_n hx hb d_Sl_get_1 rfl (lv_at hl 2 rfl) ?_
  refine mk_r1 (W.runS (As := [.int (nI k), .int (nI j)]) (rest := []) S (c_Sl_hasN l dC dI cI k j (by first | assumption | omega) (by first | assumption | omega)) (gS 2 hts k_203 k_204 k_28 k_205 (by decide +kernel) ⟨Nat.le_of_ble_eq_true rfl, Nat.le_of_ble_eq_true rfl⟩) (mk_sR hP hK hT hS [] rfl) rfl rfl hl.1 rfl (lv_room (Nat.le_of_ble_eq_true rfl)) d_Sl_get_2 ⟨Nat.zero_le _, Nat.zero_le _⟩) ?_
  refine lv_if_eq (tgt := 22) hx hb d_Sl_get_5 (by decide) (fun c_1 => ?_) (fun c_1 => ?_)
  · skip
    rw [mk_ceq (by omega)] at c_1
    first | omega | contradiction
  · skip
    rw [mk_ceq (by omega)] at c_1
    refine lv_aload_n hx hb d_Sl_get_8 rfl (lv_at hl 0 rfl) ?_
    refine va_get (D := (dC, dI)) (ci := 4) (v := .ref a) (C := "LongNames$Slots") (T := F_Sl) (N := 1) hx hb hts (iw_Sl _) hown hK hP 0 rfl rfl 0 (by decide) (hts _ (List.mem_cons_of_mem _ k_87)) (fun _ h9 => h9) rfl d_Sl_get_9 ?_
    refine lv_iload_n hx hb d_Sl_get_12 rfl (lv_at hl 1 rfl) ?_
    refine lv_bipush (v := nI 32) hx hb d_Sl_get_13 (by decide) ?_
    refine lv_imul hx hb d_Sl_get_15 ?_
    refine mk_ti (y := nI (k * 32)) (pk_mul k 32) ?_
    refine lv_iload_n hx hb d_Sl_get_16 rfl (lv_at hl 2 rfl) ?_
    refine lv_iadd hx hb d_Sl_get_17 ?_
    refine mk_ti (y := nI (k * 32 + j)) (nI_add (k * 32) j) ?_
    refine va_iald hx hb hK hP 1 0 rfl rfl (vp_in_nI (N := 1024) (show k * 32 + j < 1024 by omega) (by decide)) d_Sl_get_18 ?_
    refine mk_ti (y := nI (B (k * 32 + j))) (by rw [nI_clamp (by omega)]; rfl) ?_
    refine lv_goto (tgt := 23) hx hb d_Sl_get_19 (by decide) ?_
    exact hret _ _ d_Sl_get_23

set_option maxHeartbeats 4000000 in
set_option maxRecDepth 100000 in
theorem c_Sl_getY (l : Launch) (dC : Nat → ClassId) (dI : Nat → Nat → Nat) (cI : ClassId) (h a : Nat) (B : Nat → Nat) (k : Nat) (x : Int32) (hk : k < 32) (hj : x < 0 ∨ nI 32 ≤ x) : mR l y_Sl_get w_Sl_get ({ frames := 2, cells := 0, slots := 0, locals := 41 } : Room) [.ref h, .int (nI k), .int x] (dC, dI) vwCl [(cI, .int)] [(h, .inr (4, [.ref a])), (a, .inl (cI, 1024, .inl (nf B)))] (some (.int (-1))) := by
  refine mk_Ri (cc := b_Sl_get) (maxL := 3) (by decide) rfl (Nat.le_of_ble_eq_true rfl) rfl ?_
  intro p e s m below meth c Q A ls S hP hK hT hS hl hret
  obtain ⟨hx, hb, hml, hown, hts⟩ := id S
  have hl : lv_has ls 3 [(0, .ref h), (1, .int (nI k)), (2, .int x)] := hl
  refine lv_iload_n hx hb d_Sl_get_0 rfl (lv_at hl 1 rfl) ?_
  refine lv_iload_n hx hb d_Sl_get_1 rfl (lv_at hl 2 rfl) ?_
  refine mk_r1 (W.runS (As := [.int (nI k), .int x]) (rest := []) S (c_Sl_hasY l dC dI cI k x (by first | assumption | omega) (by first | assumption | omega)) (gS 2 hts k_203 k_204 k_28 k_205 (by decide +kernel) ⟨Nat.le_of_ble_eq_true rfl, Nat.le_of_ble_eq_true rfl⟩) (mk_sR hP hK hT hS [] rfl) rfl rfl hl.1 rfl (lv_room (Nat.le_of_ble_eq_true rfl)) d_Sl_get_2 ⟨Nat.zero_le _, Nat.zero_le _⟩) ?_
  refine lv_if_eq (tgt := 22) hx hb d_Sl_get_5 (by decide) (fun c_1 => ?_) (fun c_1 => ?_)
  · skip
    rw [mk_ceq (by omega)] at c_1
    refine lv_iconst (v := (-1)) hx hb d_Sl_get_22 (by decide) ?_
    exact hret _ _ d_Sl_get_23
  · skip
    rw [mk_ceq (by omega)] at c_1
    first | omega | contradiction

set_option maxHeartbeats 4000000 in
set_option maxRecDepth 100000 in
theorem c_Sl_getX (l : Launch) (dC : Nat → ClassId) (dI : Nat → Nat → Nat) (cI : ClassId) (h a : Nat) (B : Nat → Nat) (x z : Int32) (hk : x < 0 ∨ nI 32 ≤ x) : mR l y_Sl_get w_Sl_get ({ frames := 2, cells := 0, slots := 0, locals := 41 } : Room) [.ref h, .int x, .int z] (dC, dI) vwCl [(cI, .int)] [(h, .inr (4, [.ref a])), (a, .inl (cI, 1024, .inl (nf B)))] (some (.int (-1))) := by
  refine mk_Ri (cc := b_Sl_get) (maxL := 3) (by decide) rfl (Nat.le_of_ble_eq_true rfl) rfl ?_
  intro p e s m below meth c Q A ls S hP hK hT hS hl hret
  obtain ⟨hx, hb, hml, hown, hts⟩ := id S
  have hl : lv_has ls 3 [(0, .ref h), (1, .int x), (2, .int z)] := hl
  refine lv_iload_n hx hb d_Sl_get_0 rfl (lv_at hl 1 rfl) ?_
  refine lv_iload_n hx hb d_Sl_get_1 rfl (lv_at hl 2 rfl) ?_
  refine mk_r1 (W.runS (As := [.int x, .int z]) (rest := []) S (c_Sl_hasX l dC dI cI x z (by first | assumption | omega)) (gS 2 hts k_203 k_204 k_28 k_205 (by decide +kernel) ⟨Nat.le_of_ble_eq_true rfl, Nat.le_of_ble_eq_true rfl⟩) (mk_sR hP hK hT hS [] rfl) rfl rfl hl.1 rfl (lv_room (Nat.le_of_ble_eq_true rfl)) d_Sl_get_2 ⟨Nat.zero_le _, Nat.zero_le _⟩) ?_
  refine lv_if_eq (tgt := 22) hx hb d_Sl_get_5 (by decide) (fun c_1 => ?_) (fun c_1 => ?_)
  · skip
    rw [mk_ceq (by omega)] at c_1
    refine lv_iconst (v := (-1)) hx hb d_Sl_get_22 (by decide) ?_
    exact hret _ _ d_Sl_get_23
  · skip
    rw [mk_ceq (by omega)] at c_1
    first | omega | contradiction

set_option maxHeartbeats 4000000 in
set_option maxRecDepth 100000 in
theorem c_Sl_putN (l : Launch) (dC : Nat → ClassId) (dI : Nat → Nat → Nat) (cI : ClassId) (h a : Nat) (B : Nat → Nat) (k j y : Nat) (hk : k < 32) (hj : j < 32) (hy : y < 2 ^ 32) : mM l y_Sl_put w_Sl_put ({ frames := 2, cells := 0, slots := 0, locals := 41 } : Room) [.ref h, .int (nI k), .int (nI j), .int (nI y)] (dC, dI) vwCl [(cI, .int)] [(h, .inr (4, [.ref a])), (a, .inl (cI, 1024, .inl (nf B)))] (some (.int (nI 1))) [(h, .inr (4, [.ref a])), (a, .inl (cI, 1024, .inl (nf (uN B (k * 32 + j) (y % 2 ^ 8)))))] := by
  refine mk_Mi (cc := b_Sl_put) (maxL := 4) (by decide) rfl (Nat.le_of_ble_eq_true rfl) (rfl) ?_
  intro p e s m below meth c Q A ls S hP hK hT hS hl hD hA hret
  obtain ⟨hx, hb, hml, hown, hts⟩ := id S
  have hl : lv_has ls 4 [(0, .ref h), (1, .int (nI k)), (2, .int (nI j)), (3, .int (nI y))] := hl
  refine lv_iload_n hx hb d_Sl_put_0 rfl (lv_at hl 1 rfl) ?_
  refine lv_iload_n hx hb d_Sl_put_1 rfl (lv_at hl 2 rfl) ?_
  refine mk_r1 (W.runS (As := [.int (nI k), .int (nI j)]) (rest := []) S (c_Sl_hasN l dC dI cI k j (by first | assumption | omega) (by first | assumption | omega)) (gS 2 hts k_203 k_204 k_28 k_205 (by decide +kernel) ⟨Nat.le_of_ble_eq_true rfl, Nat.le_of_ble_eq_true rfl⟩) (mk_sR hP hK hT hS [] rfl) rfl rfl hl.1 rfl (lv_room (Nat.le_of_ble_eq_true rfl)) d_Sl_put_2 ⟨Nat.zero_le _, Nat.zero_le _⟩) ?_
  refine lv_if_ne (tgt := 10) hx hb d_Sl_put_5 (by decide) (fun c_1 => ?_) (fun c_1 => ?_)
  · skip
    rw [mk_ceq (by omega)] at c_1
    refine lv_aload_n hx hb d_Sl_put_10 rfl (lv_at hl 0 rfl) ?_
    refine va_get (D := (dC, dI)) (ci := 4) (v := .ref a) (C := "LongNames$Slots") (T := F_Sl) (N := 1) hx hb hts (iw_Sl _) hown hK hP 0 rfl rfl 0 (by decide) (hts _ (List.mem_cons_of_mem _ k_87)) (fun _ h9 => h9) rfl d_Sl_put_11 ?_
    refine lv_iload_n hx hb d_Sl_put_14 rfl (lv_at hl 1 rfl) ?_
    refine lv_bipush (v := nI 32) hx hb d_Sl_put_15 (by decide) ?_
    refine lv_imul hx hb d_Sl_put_17 ?_
    refine mk_ti (y := nI (k * 32)) (pk_mul k 32) ?_
    refine lv_iload_n hx hb d_Sl_put_18 rfl (lv_at hl 2 rfl) ?_
    refine lv_iadd hx hb d_Sl_put_19 ?_
    refine mk_ti (y := nI (k * 32 + j)) (nI_add (k * 32) j) ?_
    refine lv_iload_n hx hb d_Sl_put_20 rfl (lv_at hl 3 rfl) ?_
    refine lv_sipush (v := nI 255) hx hb d_Sl_put_21 (by decide) ?_
    refine lv_iand hx hb d_Sl_put_24 ?_
    refine mk_ti (y := nI (y % 2 ^ 8)) (pk_andN (by omega) 8 (by decide)) ?_
    refine va_iast hx hb hK hP hD hS 1 0 rfl rfl (vp_in_nI (N := 1024) (show k * 32 + j < 1024 by omega) (by decide)) d_Sl_put_25 (fun H locs hP hD hS => ?_)
    rw [nI_clamp (by omega), nf_up] at hP hD
    have hP : va_P (dC, dI) vwCl [(h, .inr (4, [.ref a])), (a, .inl (cI, 1024, .inl (nf (uN B (k * 32 + j) (y % 2 ^ 8)))))] H := hP
    have hD : va_D A [(h, .inr (4, [.ref a])), (a, .inl (cI, 1024, .inl (nf (uN B (k * 32 + j) (y % 2 ^ 8)))))] := hD
    refine lv_iconst (v := nI 1) hx hb d_Sl_put_26 (by decide) ?_
    exact hret _ _ _ _ d_Sl_put_27 hP hD hS
  · skip
    rw [mk_ceq (by omega)] at c_1
    first | omega | contradiction

set_option maxHeartbeats 4000000 in
set_option maxRecDepth 100000 in
theorem c_Sl_putY (l : Launch) (dC : Nat → ClassId) (dI : Nat → Nat → Nat) (cI : ClassId) (h a : Nat) (B : Nat → Nat) (k : Nat) (x y : Int32) (hk : k < 32) (hj : x < 0 ∨ nI 32 ≤ x) : mM l y_Sl_put w_Sl_put ({ frames := 2, cells := 0, slots := 0, locals := 41 } : Room) [.ref h, .int (nI k), .int x, .int y] (dC, dI) vwCl [(cI, .int)] [(h, .inr (4, [.ref a])), (a, .inl (cI, 1024, .inl (nf B)))] (some (.int (nI 0))) [(h, .inr (4, [.ref a])), (a, .inl (cI, 1024, .inl (nf B)))] := by
  refine mk_Mi (cc := b_Sl_put) (maxL := 4) (by decide) rfl (Nat.le_of_ble_eq_true rfl) (rfl) ?_
  intro p e s m below meth c Q A ls S hP hK hT hS hl hD hA hret
  obtain ⟨hx, hb, hml, hown, hts⟩ := id S
  have hl : lv_has ls 4 [(0, .ref h), (1, .int (nI k)), (2, .int x), (3, .int y)] := hl
  refine lv_iload_n hx hb d_Sl_put_0 rfl (lv_at hl 1 rfl) ?_
  refine lv_iload_n hx hb d_Sl_put_1 rfl (lv_at hl 2 rfl) ?_
  refine mk_r1 (W.runS (As := [.int (nI k), .int x]) (rest := []) S (c_Sl_hasY l dC dI cI k x (by first | assumption | omega) (by first | assumption | omega)) (gS 2 hts k_203 k_204 k_28 k_205 (by decide +kernel) ⟨Nat.le_of_ble_eq_true rfl, Nat.le_of_ble_eq_true rfl⟩) (mk_sR hP hK hT hS [] rfl) rfl rfl hl.1 rfl (lv_room (Nat.le_of_ble_eq_true rfl)) d_Sl_put_2 ⟨Nat.zero_le _, Nat.zero_le _⟩) ?_
  refine lv_if_ne (tgt := 10) hx hb d_Sl_put_5 (by decide) (fun c_1 => ?_) (fun c_1 => ?_)
  · skip
    rw [mk_ceq (by omega)] at c_1
    first | omega | contradiction
  · skip
    rw [mk_ceq (by omega)] at c_1
    refine lv_iconst (v := nI 0) hx hb d_Sl_put_8 (by decide) ?_
    exact hret _ _ _ _ d_Sl_put_9 hP hD hS

set_option maxHeartbeats 4000000 in
set_option maxRecDepth 100000 in
theorem c_Sl_putX (l : Launch) (dC : Nat → ClassId) (dI : Nat → Nat → Nat) (cI : ClassId) (h a : Nat) (B : Nat → Nat) (x z y : Int32) (hk : x < 0 ∨ nI 32 ≤ x) : mM l y_Sl_put w_Sl_put ({ frames := 2, cells := 0, slots := 0, locals := 41 } : Room) [.ref h, .int x, .int z, .int y] (dC, dI) vwCl [(cI, .int)] [(h, .inr (4, [.ref a])), (a, .inl (cI, 1024, .inl (nf B)))] (some (.int (nI 0))) [(h, .inr (4, [.ref a])), (a, .inl (cI, 1024, .inl (nf B)))] := by
  refine mk_Mi (cc := b_Sl_put) (maxL := 4) (by decide) rfl (Nat.le_of_ble_eq_true rfl) (rfl) ?_
  intro p e s m below meth c Q A ls S hP hK hT hS hl hD hA hret
  obtain ⟨hx, hb, hml, hown, hts⟩ := id S
  have hl : lv_has ls 4 [(0, .ref h), (1, .int x), (2, .int z), (3, .int y)] := hl
  refine lv_iload_n hx hb d_Sl_put_0 rfl (lv_at hl 1 rfl) ?_
  refine lv_iload_n hx hb d_Sl_put_1 rfl (lv_at hl 2 rfl) ?_
  refine mk_r1 (W.runS (As := [.int x, .int z]) (rest := []) S (c_Sl_hasX l dC dI cI x z (by first | assumption | omega)) (gS 2 hts k_203 k_204 k_28 k_205 (by decide +kernel) ⟨Nat.le_of_ble_eq_true rfl, Nat.le_of_ble_eq_true rfl⟩) (mk_sR hP hK hT hS [] rfl) rfl rfl hl.1 rfl (lv_room (Nat.le_of_ble_eq_true rfl)) d_Sl_put_2 ⟨Nat.zero_le _, Nat.zero_le _⟩) ?_
  refine lv_if_ne (tgt := 10) hx hb d_Sl_put_5 (by decide) (fun c_1 => ?_) (fun c_1 => ?_)
  · skip
    rw [mk_ceq (by omega)] at c_1
    first | omega | contradiction
  · skip
    rw [mk_ceq (by omega)] at c_1
    refine lv_iconst (v := nI 0) hx hb d_Sl_put_8 (by decide) ?_
    exact hret _ _ _ _ d_Sl_put_9 hP hD hS

set_option maxHeartbeats 4000000 in
set_option maxRecDepth 100000 in
theorem c_Sl_sum (l : Launch) (dC : Nat → ClassId) (dI : Nat → Nat → Nat) (cI : ClassId) (h a : Nat) (B : Nat → Nat) (q : Nat) (hB : ∀ j, B j < 256) (hq : q < 32) : mR l y_Sl_entrySum w_Sl_entrySum ({ frames := 3, cells := 0, slots := 0, locals := 63 } : Room) [.ref h, .int (nI q)] (dC, dI) vwCl [(cI, .int)] [(h, .inr (4, [.ref a])), (a, .inl (cI, 1024, .inl (nf B)))] (some (.int (nI (suN B (q * 32) 11)))) := by
  refine mk_Ri (cc := b_Sl_entrySum) (maxL := 5) (by decide) rfl (Nat.le_of_ble_eq_true rfl) rfl ?_
  intro p e s m below meth c Q A ls S hP hK hT hS hl hret
  obtain ⟨hx, hb, hml, hown, hts⟩ := id S
  have hl : lv_has ls 5 [(0, .ref h), (1, .int (nI q))] := hl
  refine lv_iconst (v := nI 0) hx hb d_Sl_entrySum_0 (by decide) ?_
  refine lv_istore_n (lv' := [(2, .int (nI 0)), (0, .ref h), (1, .int (nI q))]) hx hb d_Sl_entrySum_1 rfl hl (by decide) rfl (fun ls hl => ?_)
  refine lv_iconst (v := nI 0) hx hb d_Sl_entrySum_2 (by decide) ?_
  refine lv_istore_n (lv' := [(3, .int (nI 0)), (2, .int (nI 0)), (0, .ref h), (1, .int (nI q))]) hx hb d_Sl_entrySum_3 rfl hl (by decide) rfl (fun ls hl => ?_)
  have lp4 : ∀ (k : Nat) (i : Nat) (ls : Array Slot), (i + k = 11) → lv_has ls 5 [(0, .ref h), (1, .int (nI q)), (2, .int (nI (suN B (q * 32) i))), (3, .int (nI i))] → W p l e ({ frames := 3, cells := 0, slots := 0, locals := 63 } : Room) s m ([.ref h, .int (nI q)] : List Value).toArray below meth c s.heap [] 0 0 Q (F0 m 4 ls []) := by
    intro k
    induction k with
    | zero =>
      intro i ls hi hl
      have hs9 := suN_lt B (q * 32) i
      refine lv_iload_n hx hb d_Sl_entrySum_4 rfl (lv_at hl 3 rfl) ?_
      refine lv_bipush (v := nI 11) hx hb d_Sl_entrySum_5 (by decide) ?_
      refine lv_icmp_ge (tgt := 43) hx hb d_Sl_entrySum_7 (by decide) (fun c_1 => ?_) (fun c_1 => ?_)
      · skip
        rw [nI_leI (by omega) (by omega)] at c_1
        refine lv_iload_n hx hb d_Sl_entrySum_43 rfl (lv_at hl 2 rfl) ?_
        exact mk_ti (by rw [show i = 11 by omega]) (hret _ _ d_Sl_entrySum_44)
      · skip
        rw [nI_leI (by omega) (by omega)] at c_1
        first | omega | contradiction
    | succ k ih4 =>
      intro i ls hi hl
      have hs9 := suN_lt B (q * 32) i
      refine lv_iload_n hx hb d_Sl_entrySum_4 rfl (lv_at hl 3 rfl) ?_
      refine lv_bipush (v := nI 11) hx hb d_Sl_entrySum_5 (by decide) ?_
      refine lv_icmp_ge (tgt := 43) hx hb d_Sl_entrySum_7 (by decide) (fun c_2 => ?_) (fun c_2 => ?_)
      · skip
        rw [nI_leI (by omega) (by omega)] at c_2
        first | omega | contradiction
      · skip
        rw [nI_leI (by omega) (by omega)] at c_2
        refine lv_iload_n hx hb d_Sl_entrySum_10 rfl (lv_at hl 2 rfl) ?_
        refine lv_iconst (v := nI 1) hx hb d_Sl_entrySum_11 (by decide) ?_
        refine lv_iand hx hb d_Sl_entrySum_12 ?_
        refine mk_ti (y := nI ((suN B (q * 32) i) % 2 ^ 1)) (pk_andN (by omega) 1 (by decide)) ?_
        refine lv_sipush (v := nI 128) hx hb d_Sl_entrySum_13 (by decide) ?_
        refine lv_imul hx hb d_Sl_entrySum_16 ?_
        refine mk_ti (y := nI (((suN B (q * 32) i) % 2 ^ 1) * 128)) (pk_mul ((suN B (q * 32) i) % 2 ^ 1) 128) ?_
        refine lv_iload_n hx hb d_Sl_entrySum_17 rfl (lv_at hl 2 rfl) ?_
        refine lv_iconst (v := nI 1) hx hb d_Sl_entrySum_18 (by decide) ?_
        refine lv_ishr hx hb d_Sl_entrySum_19 ?_
        refine mk_ti (y := nI ((suN B (q * 32) i) / 2 ^ 1)) (pk_shrN (by omega) _ 1 (by decide)) ?_
        refine lv_iadd hx hb d_Sl_entrySum_20 ?_
        refine mk_ti (y := nI (((suN B (q * 32) i) % 2 ^ 1) * 128 + (suN B (q * 32) i) / 2 ^ 1)) (nI_add (((suN B (q * 32) i) % 2 ^ 1) * 128) ((suN B (q * 32) i) / 2 ^ 1)) ?_
        refine lv_istore (lv' := [(4, .int (nI (((suN B (q * 32) i) % 2 ^ 1) * 128 + (suN B (q * 32) i) / 2 ^ 1))), (0, .ref h), (1, .int (nI q)), (2, .int (nI (suN B (q * 32) i))), (3, .int (nI i))]) hx hb d_Sl_entrySum_21 hl (by decide) rfl (fun ls hl => ?_)
        refine lv_iload hx hb d_Sl_entrySum_23 (lv_at hl 0 rfl) ?_
        refine lv_aload_n hx hb d_Sl_entrySum_25 rfl (lv_at hl 1 rfl) ?_
        refine lv_iload_n hx hb d_Sl_entrySum_26 rfl (lv_at hl 2 rfl) ?_
        refine lv_iload_n hx hb d_Sl_entrySum_27 rfl (lv_at hl 4 rfl) ?_
        refine mk_r1 (W.runV (As := [.int (nI q), .int (nI i)]) (rest := [.int (nI (((suN B (q * 32) i) % 2 ^ 1) * 128 + (suN B (q * 32) i) / 2 ^ 1))]) S (c_Sl_getN l dC dI cI h a B q i (by first | assumption | omega) (by first | assumption | omega) (by first | assumption | omega)) (gV 2 hts k_226 k_214 k_215 k_28 k_216 (by decide +kernel) ⟨Nat.le_of_ble_eq_true rfl, Nat.le_of_ble_eq_true rfl⟩) (mk_vR hP hK hT hS [0, 1] rfl (q0 := 0) (ci := 4) rfl rfl) rfl rfl hl.1 rfl (lv_room (Nat.le_of_ble_eq_true rfl)) d_Sl_entrySum_28 ⟨Nat.zero_le _, Nat.zero_le _⟩) ?_
        have b_3 := (show ∀ j9, B j9 < 256 by assumption) (q * 32 + i)
        refine lv_iadd hx hb d_Sl_entrySum_31 ?_
        refine mk_ti (y := nI (((suN B (q * 32) i) % 2 ^ 1) * 128 + (suN B (q * 32) i) / 2 ^ 1 + B (q * 32 + i))) (nI_add (((suN B (q * 32) i) % 2 ^ 1) * 128 + (suN B (q * 32) i) / 2 ^ 1) (B (q * 32 + i))) ?_
        refine lv_sipush (v := nI 255) hx hb d_Sl_entrySum_32 (by decide) ?_
        refine lv_iand hx hb d_Sl_entrySum_35 ?_
        refine mk_ti (y := nI ((((suN B (q * 32) i) % 2 ^ 1) * 128 + (suN B (q * 32) i) / 2 ^ 1 + B (q * 32 + i)) % 2 ^ 8)) (pk_andN (by omega) 8 (by decide)) ?_
        refine lv_istore_n (lv' := [(2, .int (nI ((((suN B (q * 32) i) % 2 ^ 1) * 128 + (suN B (q * 32) i) / 2 ^ 1 + B (q * 32 + i)) % 2 ^ 8))), (4, .int (nI (((suN B (q * 32) i) % 2 ^ 1) * 128 + (suN B (q * 32) i) / 2 ^ 1))), (0, .ref h), (1, .int (nI q)), (3, .int (nI i))]) hx hb d_Sl_entrySum_36 rfl hl (by decide) rfl (fun ls hl => ?_)
        refine lv_iinc (v := nI (i + 1)) (lv' := [(3, .int (nI (i + 1))), (2, .int (nI ((((suN B (q * 32) i) % 2 ^ 1) * 128 + (suN B (q * 32) i) / 2 ^ 1 + B (q * 32 + i)) % 2 ^ 8))), (4, .int (nI (((suN B (q * 32) i) % 2 ^ 1) * 128 + (suN B (q * 32) i) / 2 ^ 1))), (0, .ref h), (1, .int (nI q))]) hx hb d_Sl_entrySum_37 hl (k := 4) rfl (mk_i1 i) (by decide) rfl (fun ls hl => ?_)
        refine lv_goto (tgt := 4) hx hb d_Sl_entrySum_40 (by decide) ?_
        have hl : lv_has ls 5 [(0, .ref h), (1, .int (nI q)), (2, .int (nI ((((suN B (q * 32) i) % 2 ^ 1) * 128 + (suN B (q * 32) i) / 2 ^ 1 + B (q * 32 + i)) % 2 ^ 8))), (3, .int (nI (i + 1)))] := lv_sub hl [3, 4, 1, 0] rfl
        have hl9 : ([(0, .ref h), (1, .int (nI q)), (2, .int (nI ((((suN B (q * 32) i) % 2 ^ 1) * 128 + (suN B (q * 32) i) / 2 ^ 1 + B (q * 32 + i)) % 2 ^ 8))), (3, .int (nI (i + 1)))] : List (Nat × Value)) = [(0, .ref h), (1, .int (nI q)), (2, .int (nI (suN B (q * 32) (i + 1)))), (3, .int (nI (i + 1)))] := by rfl
        rw [hl9] at hl
        exact ih4 (i + 1) _ (by omega) hl
  have hl : lv_has ls 5 [(0, .ref h), (1, .int (nI q)), (2, .int (nI 0)), (3, .int (nI 0))] := lv_sub hl [2, 3, 1, 0] rfl
  have hl9 : ([(0, .ref h), (1, .int (nI q)), (2, .int (nI 0)), (3, .int (nI 0))] : List (Nat × Value)) = [(0, .ref h), (1, .int (nI q)), (2, .int (nI (suN B (q * 32) 0))), (3, .int (nI 0))] := by rfl
  rw [hl9] at hl
  exact lp4 11 0 _ rfl hl

