set_option maxHeartbeats 1000000 in
set_option maxRecDepth 100000 in
theorem c_Mo_rowN (l : Launch) (dC : Nat → ClassId) (dI : Nat → Nat → Nat) (cI : ClassId) (r : Nat) (hr : r < 2) : mR l y_Mo_isRow w_Mo_isRow ({ frames := 0, cells := 0, slots := 0, locals := 0 } : Room) [.int (nI r)] (dC, dI) vwCl [(cI, .int)] [] (some (.int (nI 1))) := by
  refine mk_Ri (cc := b_Mo_isRow) (maxL := 1) (by decide) rfl (Nat.le_of_ble_eq_true rfl) (rfl) ?_
  intro p e s m below meth c Q A ls S hP hK hT hS hl hret
  obtain ⟨hx, hb, hml, hown, hts⟩ := id S
  have hl : lv_has ls 1 [(0, .int (nI r))] := hl
  refine lv_iload_n hx hb d_Mo_isRow_0 rfl (lv_at hl 0 rfl) ?_
  refine lv_if_eq (tgt := 9) hx hb d_Mo_isRow_1 (by decide) (fun c_1 => ?_) (fun c_1 => ?_)
  · skip
    rw [mk_ceq (by omega)] at c_1
    refine lv_iconst (v := nI 1) hx hb d_Mo_isRow_9 (by decide) ?_
    refine lv_goto (tgt := 14) hx hb d_Mo_isRow_10 (by decide) ?_
    exact hret _ _ d_Mo_isRow_14
  · skip
    rw [mk_ceq (by omega)] at c_1
    refine lv_iload_n hx hb d_Mo_isRow_4 rfl (lv_at hl 0 rfl) ?_
    refine lv_iconst (v := nI 1) hx hb d_Mo_isRow_5 (by decide) ?_
    refine lv_icmp_ne (tgt := 13) hx hb d_Mo_isRow_6 (by decide) (fun c_2 => ?_) (fun c_2 => ?_)
    · skip
      rw [nI_eq (by omega) (by omega)] at c_2
      first | omega | contradiction
    · skip
      rw [nI_eq (by omega) (by omega)] at c_2
      refine lv_iconst (v := nI 1) hx hb d_Mo_isRow_9 (by decide) ?_
      refine lv_goto (tgt := 14) hx hb d_Mo_isRow_10 (by decide) ?_
      exact hret _ _ d_Mo_isRow_14

set_option maxHeartbeats 1000000 in
set_option maxRecDepth 100000 in
theorem c_Mo_rowX (l : Launch) (dC : Nat → ClassId) (dI : Nat → Nat → Nat) (cI : ClassId) (r : Int32) (hr0 : ¬ r = 0) (hr1 : ¬ r = nI 1)  : mR l y_Mo_isRow w_Mo_isRow ({ frames := 0, cells := 0, slots := 0, locals := 0 } : Room) [.int r] (dC, dI) vwCl [(cI, .int)] [] (some (.int (nI 0))) := by
  refine mk_Ri (cc := b_Mo_isRow) (maxL := 1) (by decide) rfl (Nat.le_of_ble_eq_true rfl) (rfl) ?_
  intro p e s m below meth c Q A ls S hP hK hT hS hl hret
  obtain ⟨hx, hb, hml, hown, hts⟩ := id S
  have hl : lv_has ls 1 [(0, .int r)] := hl
  refine lv_iload_n hx hb d_Mo_isRow_0 rfl (lv_at hl 0 rfl) ?_
  refine lv_if_eq (tgt := 9) hx hb d_Mo_isRow_1 (by decide) (fun c_1 => ?_) (fun c_1 => ?_)
  · skip
    exact absurd c_1 hr0
  · skip
    refine lv_iload_n hx hb d_Mo_isRow_4 rfl (lv_at hl 0 rfl) ?_
    refine lv_iconst (v := nI 1) hx hb d_Mo_isRow_5 (by decide) ?_
    refine lv_icmp_ne (tgt := 13) hx hb d_Mo_isRow_6 (by decide) (fun c_2 => ?_) (fun c_2 => ?_)
    · skip
      refine lv_iconst (v := nI 0) hx hb d_Mo_isRow_13 (by decide) ?_
      exact hret _ _ d_Mo_isRow_14
    · skip
      exact absurd c_2 hr1

set_option maxHeartbeats 1000000 in
set_option maxRecDepth 100000 in
theorem c_Mo_parts (l : Launch) (dC : Nat → ClassId) (dI : Nat → Nat → Nat) (cI : ClassId) (n : Nat) (hn : n ≤ 255) : mR l y_Mo_partsOf w_Mo_partsOf ({ frames := 0, cells := 0, slots := 0, locals := 0 } : Room) [.int (nI n)] (dC, dI) vwCl [(cI, .int)] [] (some (.int (nI (pnN n)))) := by
  refine mk_Ri (cc := b_Mo_partsOf) (maxL := 1) (by decide) rfl (Nat.le_of_ble_eq_true rfl) rfl ?_
  intro p e s m below meth c Q A ls S hP hK hT hS hl hret
  obtain ⟨hx, hb, hml, hown, hts⟩ := id S
  have hl : lv_has ls 1 [(0, .int (nI n))] := hl
  refine lv_iload_n hx hb d_Mo_partsOf_0 rfl (lv_at hl 0 rfl) ?_
  refine lv_bipush (v := nI 12) hx hb d_Mo_partsOf_1 (by decide) ?_
  refine lv_iadd hx hb d_Mo_partsOf_3 ?_
  refine mk_ti (y := nI (n + 12)) (nI_add n 12) ?_
  refine lv_bipush (v := nI 13) hx hb d_Mo_partsOf_4 (by decide) ?_
  refine lv_idiv hx hb d_Mo_partsOf_6 (by decide) ?_
  refine mk_ti (y := nI ((n + 12) / 13)) (pk_div (by omega) (by decide) (by decide)) ?_
  exact mk_ti (by rfl) (hret _ _ d_Mo_partsOf_7)

set_option maxHeartbeats 1000000 in
set_option maxRecDepth 100000 in
theorem c_Mo_wd (l : Launch) (dC : Nat → ClassId) (dI : Nat → Nat → Nat) (cI : ClassId) (u : Nat) (hu : u < 65536) : mR l y_Mo_width w_Mo_width ({ frames := 0, cells := 0, slots := 0, locals := 0 } : Room) [.int (nI u)] (dC, dI) vwCl [(cI, .int)] [] (some (.int (nI (wdN u)))) := by
  refine mk_Ri (cc := b_Mo_width) (maxL := 1) (by decide) rfl (Nat.le_of_ble_eq_true rfl) rfl ?_
  intro p e s m below meth c Q A ls S hP hK hT hS hl hret
  obtain ⟨hx, hb, hml, hown, hts⟩ := id S
  have hl : lv_has ls 1 [(0, .int (nI u))] := hl
  refine lv_iload_n hx hb d_Mo_width_0 rfl (lv_at hl 0 rfl) ?_
  refine lv_sipush (v := nI 128) hx hb d_Mo_width_1 (by decide) ?_
  refine lv_icmp_ge (tgt := 11) hx hb d_Mo_width_4 (by decide) (fun c_1 => ?_) (fun c_1 => ?_)
  · skip
    rw [nI_leI (by omega) (by omega)] at c_1
    refine lv_iload_n hx hb d_Mo_width_11 rfl (lv_at hl 0 rfl) ?_
    refine lv_sipush (v := nI 2048) hx hb d_Mo_width_12 (by decide) ?_
    refine lv_icmp_ge (tgt := 22) hx hb d_Mo_width_15 (by decide) (fun c_2 => ?_) (fun c_2 => ?_)
    · skip
      rw [nI_leI (by omega) (by omega)] at c_2
      refine lv_iconst (v := nI 3) hx hb d_Mo_width_22 (by decide) ?_
      exact mk_ti (by congr 1; unfold wdN; (repeat' split) <;> omega) (hret _ _ d_Mo_width_23)
    · skip
      rw [nI_leI (by omega) (by omega)] at c_2
      refine lv_iconst (v := nI 2) hx hb d_Mo_width_18 (by decide) ?_
      refine lv_goto (tgt := 23) hx hb d_Mo_width_19 (by decide) ?_
      exact mk_ti (by congr 1; unfold wdN; (repeat' split) <;> omega) (hret _ _ d_Mo_width_23)
  · skip
    rw [nI_leI (by omega) (by omega)] at c_1
    refine lv_iconst (v := nI 1) hx hb d_Mo_width_7 (by decide) ?_
    refine lv_goto (tgt := 23) hx hb d_Mo_width_8 (by decide) ?_
    exact mk_ti (by congr 1; unfold wdN; (repeat' split) <;> omega) (hret _ _ d_Mo_width_23)

set_option maxHeartbeats 1000000 in
set_option maxRecDepth 100000 in
theorem c_Mo_bar (l : Launch) (dC : Nat → ClassId) (dI : Nat → Nat → Nat) (cI : ClassId) (u : Nat) (hu : u < 65536) : mR l y_Mo_barred w_Mo_barred ({ frames := 0, cells := 0, slots := 0, locals := 0 } : Room) [.int (nI u)] (dC, dI) vwCl [(cI, .int)] [] (some (.int (bI (baN u)))) := by
  refine mk_Ri (cc := b_Mo_barred) (maxL := 1) (by decide) rfl (Nat.le_of_ble_eq_true rfl) (mk_nz _) ?_
  intro p e s m below meth c Q A ls S hP hK hT hS hl hret
  obtain ⟨hx, hb, hml, hown, hts⟩ := id S
  have hl : lv_has ls 1 [(0, .int (nI u))] := hl
  refine lv_iload_n hx hb d_Mo_barred_0 rfl (lv_at hl 0 rfl) ?_
  refine lv_bipush (v := nI 32) hx hb d_Mo_barred_1 (by decide) ?_
  refine lv_icmp_lt (tgt := 30) hx hb d_Mo_barred_3 (by decide) (fun c_1 => ?_) (fun c_1 => ?_)
  · skip
    rw [nI_ltI (by omega) (by omega)] at c_1
    refine lv_iconst (v := nI 1) hx hb d_Mo_barred_30 (by decide) ?_
    exact mk_ti (by exact mk_bt (by simp only [baN, decide_eq_true_eq]; omega)) (hret _ _ d_Mo_barred_31)
  · skip
    rw [nI_ltI (by omega) (by omega)] at c_1
    refine lv_iload_n hx hb d_Mo_barred_6 rfl (lv_at hl 0 rfl) ?_
    refine lv_bipush (v := nI 127) hx hb d_Mo_barred_7 (by decide) ?_
    refine lv_icmp_eq (tgt := 30) hx hb d_Mo_barred_9 (by decide) (fun c_2 => ?_) (fun c_2 => ?_)
    · skip
      rw [nI_eq (by omega) (by omega)] at c_2
      refine lv_iconst (v := nI 1) hx hb d_Mo_barred_30 (by decide) ?_
      exact mk_ti (by exact mk_bt (by simp only [baN, decide_eq_true_eq]; omega)) (hret _ _ d_Mo_barred_31)
    · skip
      rw [nI_eq (by omega) (by omega)] at c_2
      refine lv_iload_n hx hb d_Mo_barred_12 rfl (lv_at hl 0 rfl) ?_
      refine lv_ldc (v := nI 65533) hx hb hown (hts _ (List.mem_cons_of_mem _ k_569)) d_Mo_barred_13 ?_
      refine lv_icmp_gt (tgt := 30) hx hb d_Mo_barred_15 (by decide) (fun c_3 => ?_) (fun c_3 => ?_)
      · skip
        rw [nI_ltI (by omega) (by omega)] at c_3
        refine lv_iconst (v := nI 1) hx hb d_Mo_barred_30 (by decide) ?_
        exact mk_ti (by exact mk_bt (by simp only [baN, decide_eq_true_eq]; omega)) (hret _ _ d_Mo_barred_31)
      · skip
        rw [nI_ltI (by omega) (by omega)] at c_3
        refine lv_iload_n hx hb d_Mo_barred_18 rfl (lv_at hl 0 rfl) ?_
        refine lv_ldc (v := nI 55296) hx hb hown (hts _ (List.mem_cons_of_mem _ k_570)) d_Mo_barred_19 ?_
        refine lv_icmp_lt (tgt := 32) hx hb d_Mo_barred_21 (by decide) (fun c_4 => ?_) (fun c_4 => ?_)
        · skip
          rw [nI_ltI (by omega) (by omega)] at c_4
          refine lv_iload_n hx hb d_Mo_barred_32 rfl (lv_at hl 0 rfl) ?_
          refine lv_bipush (v := nI 34) hx hb d_Mo_barred_33 (by decide) ?_
          refine lv_icmp_eq (tgt := 86) hx hb d_Mo_barred_35 (by decide) (fun c_5 => ?_) (fun c_5 => ?_)
          · skip
            rw [nI_eq (by omega) (by omega)] at c_5
            refine lv_iconst (v := nI 1) hx hb d_Mo_barred_86 (by decide) ?_
            refine lv_goto (tgt := 91) hx hb d_Mo_barred_87 (by decide) ?_
            exact mk_ti (by exact mk_bt (by simp only [baN, decide_eq_true_eq]; omega)) (hret _ _ d_Mo_barred_91)
          · skip
            rw [nI_eq (by omega) (by omega)] at c_5
            refine lv_iload_n hx hb d_Mo_barred_38 rfl (lv_at hl 0 rfl) ?_
            refine lv_bipush (v := nI 42) hx hb d_Mo_barred_39 (by decide) ?_
            refine lv_icmp_eq (tgt := 86) hx hb d_Mo_barred_41 (by decide) (fun c_6 => ?_) (fun c_6 => ?_)
            · skip
              rw [nI_eq (by omega) (by omega)] at c_6
              refine lv_iconst (v := nI 1) hx hb d_Mo_barred_86 (by decide) ?_
              refine lv_goto (tgt := 91) hx hb d_Mo_barred_87 (by decide) ?_
              exact mk_ti (by exact mk_bt (by simp only [baN, decide_eq_true_eq]; omega)) (hret _ _ d_Mo_barred_91)
            · skip
              rw [nI_eq (by omega) (by omega)] at c_6
              refine lv_iload_n hx hb d_Mo_barred_44 rfl (lv_at hl 0 rfl) ?_
              refine lv_bipush (v := nI 47) hx hb d_Mo_barred_45 (by decide) ?_
              refine lv_icmp_eq (tgt := 86) hx hb d_Mo_barred_47 (by decide) (fun c_7 => ?_) (fun c_7 => ?_)
              · skip
                rw [nI_eq (by omega) (by omega)] at c_7
                refine lv_iconst (v := nI 1) hx hb d_Mo_barred_86 (by decide) ?_
                refine lv_goto (tgt := 91) hx hb d_Mo_barred_87 (by decide) ?_
                exact mk_ti (by exact mk_bt (by simp only [baN, decide_eq_true_eq]; omega)) (hret _ _ d_Mo_barred_91)
              · skip
                rw [nI_eq (by omega) (by omega)] at c_7
                refine lv_iload_n hx hb d_Mo_barred_50 rfl (lv_at hl 0 rfl) ?_
                refine lv_bipush (v := nI 58) hx hb d_Mo_barred_51 (by decide) ?_
                refine lv_icmp_eq (tgt := 86) hx hb d_Mo_barred_53 (by decide) (fun c_8 => ?_) (fun c_8 => ?_)
                · skip
                  rw [nI_eq (by omega) (by omega)] at c_8
                  refine lv_iconst (v := nI 1) hx hb d_Mo_barred_86 (by decide) ?_
                  refine lv_goto (tgt := 91) hx hb d_Mo_barred_87 (by decide) ?_
                  exact mk_ti (by exact mk_bt (by simp only [baN, decide_eq_true_eq]; omega)) (hret _ _ d_Mo_barred_91)
                · skip
                  rw [nI_eq (by omega) (by omega)] at c_8
                  refine lv_iload_n hx hb d_Mo_barred_56 rfl (lv_at hl 0 rfl) ?_
                  refine lv_bipush (v := nI 60) hx hb d_Mo_barred_57 (by decide) ?_
                  refine lv_icmp_eq (tgt := 86) hx hb d_Mo_barred_59 (by decide) (fun c_9 => ?_) (fun c_9 => ?_)
                  · skip
                    rw [nI_eq (by omega) (by omega)] at c_9
                    refine lv_iconst (v := nI 1) hx hb d_Mo_barred_86 (by decide) ?_
                    refine lv_goto (tgt := 91) hx hb d_Mo_barred_87 (by decide) ?_
                    exact mk_ti (by exact mk_bt (by simp only [baN, decide_eq_true_eq]; omega)) (hret _ _ d_Mo_barred_91)
                  · skip
                    rw [nI_eq (by omega) (by omega)] at c_9
                    refine lv_iload_n hx hb d_Mo_barred_62 rfl (lv_at hl 0 rfl) ?_
                    refine lv_bipush (v := nI 62) hx hb d_Mo_barred_63 (by decide) ?_
                    refine lv_icmp_eq (tgt := 86) hx hb d_Mo_barred_65 (by decide) (fun c_10 => ?_) (fun c_10 => ?_)
                    · skip
                      rw [nI_eq (by omega) (by omega)] at c_10
                      refine lv_iconst (v := nI 1) hx hb d_Mo_barred_86 (by decide) ?_
                      refine lv_goto (tgt := 91) hx hb d_Mo_barred_87 (by decide) ?_
                      exact mk_ti (by exact mk_bt (by simp only [baN, decide_eq_true_eq]; omega)) (hret _ _ d_Mo_barred_91)
                    · skip
                      rw [nI_eq (by omega) (by omega)] at c_10
                      refine lv_iload_n hx hb d_Mo_barred_68 rfl (lv_at hl 0 rfl) ?_
                      refine lv_bipush (v := nI 63) hx hb d_Mo_barred_69 (by decide) ?_
                      refine lv_icmp_eq (tgt := 86) hx hb d_Mo_barred_71 (by decide) (fun c_11 => ?_) (fun c_11 => ?_)
                      · skip
                        rw [nI_eq (by omega) (by omega)] at c_11
                        refine lv_iconst (v := nI 1) hx hb d_Mo_barred_86 (by decide) ?_
                        refine lv_goto (tgt := 91) hx hb d_Mo_barred_87 (by decide) ?_
                        exact mk_ti (by exact mk_bt (by simp only [baN, decide_eq_true_eq]; omega)) (hret _ _ d_Mo_barred_91)
                      · skip
                        rw [nI_eq (by omega) (by omega)] at c_11
                        refine lv_iload_n hx hb d_Mo_barred_74 rfl (lv_at hl 0 rfl) ?_
                        refine lv_bipush (v := nI 92) hx hb d_Mo_barred_75 (by decide) ?_
                        refine lv_icmp_eq (tgt := 86) hx hb d_Mo_barred_77 (by decide) (fun c_12 => ?_) (fun c_12 => ?_)
                        · skip
                          rw [nI_eq (by omega) (by omega)] at c_12
                          refine lv_iconst (v := nI 1) hx hb d_Mo_barred_86 (by decide) ?_
                          refine lv_goto (tgt := 91) hx hb d_Mo_barred_87 (by decide) ?_
                          exact mk_ti (by exact mk_bt (by simp only [baN, decide_eq_true_eq]; omega)) (hret _ _ d_Mo_barred_91)
                        · skip
                          rw [nI_eq (by omega) (by omega)] at c_12
                          refine lv_iload_n hx hb d_Mo_barred_80 rfl (lv_at hl 0 rfl) ?_
                          refine lv_bipush (v := nI 124) hx hb d_Mo_barred_81 (by decide) ?_
                          refine lv_icmp_ne (tgt := 90) hx hb d_Mo_barred_83 (by decide) (fun c_13 => ?_) (fun c_13 => ?_)
                          · skip
                            rw [nI_eq (by omega) (by omega)] at c_13
                            refine lv_iconst (v := nI 0) hx hb d_Mo_barred_90 (by decide) ?_
                            exact mk_ti (by exact mk_bf (by simp only [baN, decide_eq_false_iff_not]; omega)) (hret _ _ d_Mo_barred_91)
                          · skip
                            rw [nI_eq (by omega) (by omega)] at c_13
                            refine lv_iconst (v := nI 1) hx hb d_Mo_barred_86 (by decide) ?_
                            refine lv_goto (tgt := 91) hx hb d_Mo_barred_87 (by decide) ?_
                            exact mk_ti (by exact mk_bt (by simp only [baN, decide_eq_true_eq]; omega)) (hret _ _ d_Mo_barred_91)
        · skip
          rw [nI_ltI (by omega) (by omega)] at c_4
          refine lv_iload_n hx hb d_Mo_barred_24 rfl (lv_at hl 0 rfl) ?_
          refine lv_ldc (v := nI 57343) hx hb hown (hts _ (List.mem_cons_of_mem _ k_571)) d_Mo_barred_25 ?_
          refine lv_icmp_gt (tgt := 32) hx hb d_Mo_barred_27 (by decide) (fun c_14 => ?_) (fun c_14 => ?_)
          · skip
            rw [nI_ltI (by omega) (by omega)] at c_14
            refine lv_iload_n hx hb d_Mo_barred_32 rfl (lv_at hl 0 rfl) ?_
            refine lv_bipush (v := nI 34) hx hb d_Mo_barred_33 (by decide) ?_
            refine lv_icmp_eq (tgt := 86) hx hb d_Mo_barred_35 (by decide) (fun c_15 => ?_) (fun c_15 => ?_)
            · skip
              rw [nI_eq (by omega) (by omega)] at c_15
              refine lv_iconst (v := nI 1) hx hb d_Mo_barred_86 (by decide) ?_
              refine lv_goto (tgt := 91) hx hb d_Mo_barred_87 (by decide) ?_
              exact mk_ti (by exact mk_bt (by simp only [baN, decide_eq_true_eq]; omega)) (hret _ _ d_Mo_barred_91)
            · skip
              rw [nI_eq (by omega) (by omega)] at c_15
              refine lv_iload_n hx hb d_Mo_barred_38 rfl (lv_at hl 0 rfl) ?_
              refine lv_bipush (v := nI 42) hx hb d_Mo_barred_39 (by decide) ?_
              refine lv_icmp_eq (tgt := 86) hx hb d_Mo_barred_41 (by decide) (fun c_16 => ?_) (fun c_16 => ?_)
              · skip
                rw [nI_eq (by omega) (by omega)] at c_16
                refine lv_iconst (v := nI 1) hx hb d_Mo_barred_86 (by decide) ?_
                refine lv_goto (tgt := 91) hx hb d_Mo_barred_87 (by decide) ?_
                exact mk_ti (by exact mk_bt (by simp only [baN, decide_eq_true_eq]; omega)) (hret _ _ d_Mo_barred_91)
              · skip
                rw [nI_eq (by omega) (by omega)] at c_16
                refine lv_iload_n hx hb d_Mo_barred_44 rfl (lv_at hl 0 rfl) ?_
                refine lv_bipush (v := nI 47) hx hb d_Mo_barred_45 (by decide) ?_
                refine lv_icmp_eq (tgt := 86) hx hb d_Mo_barred_47 (by decide) (fun c_17 => ?_) (fun c_17 => ?_)
                · skip
                  rw [nI_eq (by omega) (by omega)] at c_17
                  refine lv_iconst (v := nI 1) hx hb d_Mo_barred_86 (by decide) ?_
                  refine lv_goto (tgt := 91) hx hb d_Mo_barred_87 (by decide) ?_
                  exact mk_ti (by exact mk_bt (by simp only [baN, decide_eq_true_eq]; omega)) (hret _ _ d_Mo_barred_91)
                · skip
                  rw [nI_eq (by omega) (by omega)] at c_17
                  refine lv_iload_n hx hb d_Mo_barred_50 rfl (lv_at hl 0 rfl) ?_
                  refine lv_bipush (v := nI 58) hx hb d_Mo_barred_51 (by decide) ?_
                  refine lv_icmp_eq (tgt := 86) hx hb d_Mo_barred_53 (by decide) (fun c_18 => ?_) (fun c_18 => ?_)
                  · skip
                    rw [nI_eq (by omega) (by omega)] at c_18
                    refine lv_iconst (v := nI 1) hx hb d_Mo_barred_86 (by decide) ?_
                    refine lv_goto (tgt := 91) hx hb d_Mo_barred_87 (by decide) ?_
                    exact mk_ti (by exact mk_bt (by simp only [baN, decide_eq_true_eq]; omega)) (hret _ _ d_Mo_barred_91)
                  · skip
                    rw [nI_eq (by omega) (by omega)] at c_18
                    refine lv_iload_n hx hb d_Mo_barred_56 rfl (lv_at hl 0 rfl) ?_
                    refine lv_bipush (v := nI 60) hx hb d_Mo_barred_57 (by decide) ?_
                    refine lv_icmp_eq (tgt := 86) hx hb d_Mo_barred_59 (by decide) (fun c_19 => ?_) (fun c_19 => ?_)
                    · skip
                      rw [nI_eq (by omega) (by omega)] at c_19
                      refine lv_iconst (v := nI 1) hx hb d_Mo_barred_86 (by decide) ?_
                      refine lv_goto (tgt := 91) hx hb d_Mo_barred_87 (by decide) ?_
                      exact mk_ti (by exact mk_bt (by simp only [baN, decide_eq_true_eq]; omega)) (hret _ _ d_Mo_barred_91)
                    · skip
                      rw [nI_eq (by omega) (by omega)] at c_19
                      refine lv_iload_n hx hb d_Mo_barred_62 rfl (lv_at hl 0 rfl) ?_
                      refine lv_bipush (v := nI 62) hx hb d_Mo_barred_63 (by decide) ?_
                      refine lv_icmp_eq (tgt := 86) hx hb d_Mo_barred_65 (by decide) (fun c_20 => ?_) (fun c_20 => ?_)
                      · skip
                        rw [nI_eq (by omega) (by omega)] at c_20
                        refine lv_iconst (v := nI 1) hx hb d_Mo_barred_86 (by decide) ?_
                        refine lv_goto (tgt := 91) hx hb d_Mo_barred_87 (by decide) ?_
                        exact mk_ti (by exact mk_bt (by simp only [baN, decide_eq_true_eq]; omega)) (hret _ _ d_Mo_barred_91)
                      · skip
                        rw [nI_eq (by omega) (by omega)] at c_20
                        refine lv_iload_n hx hb d_Mo_barred_68 rfl (lv_at hl 0 rfl) ?_
                        refine lv_bipush (v := nI 63) hx hb d_Mo_barred_69 (by decide) ?_
                        refine lv_icmp_eq (tgt := 86) hx hb d_Mo_barred_71 (by decide) (fun c_21 => ?_) (fun c_21 => ?_)
                        · skip
                          rw [nI_eq (by omega) (by omega)] at c_21
                          refine lv_iconst (v := nI 1) hx hb d_Mo_barred_86 (by decide) ?_
                          refine lv_goto (tgt := 91) hx hb d_Mo_barred_87 (by decide) ?_
                          exact mk_ti (by exact mk_bt (by simp only [baN, decide_eq_true_eq]; omega)) (hret _ _ d_Mo_barred_91)
                        · skip
                          rw [nI_eq (by omega) (by omega)] at c_21
                          refine lv_iload_n hx hb d_Mo_barred_74 rfl (lv_at hl 0 rfl) ?_
                          refine lv_bipush (v := nI 92) hx hb d_Mo_barred_75 (by decide) ?_
                          refine lv_icmp_eq (tgt := 86) hx hb d_Mo_barred_77 (by decide) (fun c_22 => ?_) (fun c_22 => ?_)
                          · skip
                            rw [nI_eq (by omega) (by omega)] at c_22
                            refine lv_iconst (v := nI 1) hx hb d_Mo_barred_86 (by decide) ?_
                            refine lv_goto (tgt := 91) hx hb d_Mo_barred_87 (by decide) ?_
                            exact mk_ti (by exact mk_bt (by simp only [baN, decide_eq_true_eq]; omega)) (hret _ _ d_Mo_barred_91)
                          · skip
                            rw [nI_eq (by omega) (by omega)] at c_22
                            refine lv_iload_n hx hb d_Mo_barred_80 rfl (lv_at hl 0 rfl) ?_
                            refine lv_bipush (v := nI 124) hx hb d_Mo_barred_81 (by decide) ?_
                            refine lv_icmp_ne (tgt := 90) hx hb d_Mo_barred_83 (by decide) (fun c_23 => ?_) (fun c_23 => ?_)
                            · skip
                              rw [nI_eq (by omega) (by omega)] at c_23
                              refine lv_iconst (v := nI 0) hx hb d_Mo_barred_90 (by decide) ?_
                              exact mk_ti (by exact mk_bf (by simp only [baN, decide_eq_false_iff_not]; omega)) (hret _ _ d_Mo_barred_91)
                            · skip
                              rw [nI_eq (by omega) (by omega)] at c_23
                              refine lv_iconst (v := nI 1) hx hb d_Mo_barred_86 (by decide) ?_
                              refine lv_goto (tgt := 91) hx hb d_Mo_barred_87 (by decide) ?_
                              exact mk_ti (by exact mk_bt (by simp only [baN, decide_eq_true_eq]; omega)) (hret _ _ d_Mo_barred_91)
          · skip
            rw [nI_ltI (by omega) (by omega)] at c_14
            refine lv_iconst (v := nI 1) hx hb d_Mo_barred_30 (by decide) ?_
            exact mk_ti (by exact mk_bt (by simp only [baN, decide_eq_true_eq]; omega)) (hret _ _ d_Mo_barred_31)

set_option maxHeartbeats 1000000 in
set_option maxRecDepth 100000 in
theorem c_Mo_sign (l : Launch) (dC : Nat → ClassId) (dI : Nat → Nat → Nat) (cI : ClassId) (u : Nat) (hu : u < 65536) : mR l y_Mo_isSign w_Mo_isSign ({ frames := 0, cells := 0, slots := 0, locals := 0 } : Room) [.int (nI u)] (dC, dI) vwCl [(cI, .int)] [] (some (.int (bI (okS u)))) := by
  refine mk_Ri (cc := b_Mo_isSign) (maxL := 1) (by decide) rfl (Nat.le_of_ble_eq_true rfl) (mk_nz _) ?_
  intro p e s m below meth c Q A ls S hP hK hT hS hl hret
  obtain ⟨hx, hb, hml, hown, hts⟩ := id S
  have hl : lv_has ls 1 [(0, .int (nI u))] := hl
  refine lv_iload_n hx hb d_Mo_isSign_0 rfl (lv_at hl 0 rfl) ?_
  refine lv_bipush (v := nI 64) hx hb d_Mo_isSign_1 (by decide) ?_
  refine lv_icmp_lt (tgt := 12) hx hb d_Mo_isSign_3 (by decide) (fun c_1 => ?_) (fun c_1 => ?_)
  · skip
    rw [nI_ltI (by omega) (by omega)] at c_1
    refine lv_iload_n hx hb d_Mo_isSign_12 rfl (lv_at hl 0 rfl) ?_
    refine lv_bipush (v := nI 48) hx hb d_Mo_isSign_13 (by decide) ?_
    refine lv_icmp_lt (tgt := 24) hx hb d_Mo_isSign_15 (by decide) (fun c_2 => ?_) (fun c_2 => ?_)
    · skip
      rw [nI_ltI (by omega) (by omega)] at c_2
      refine lv_iload_n hx hb d_Mo_isSign_24 rfl (lv_at hl 0 rfl) ?_
      refine lv_bipush (v := nI 35) hx hb d_Mo_isSign_25 (by decide) ?_
      refine lv_icmp_lt (tgt := 38) hx hb d_Mo_isSign_27 (by decide) (fun c_3 => ?_) (fun c_3 => ?_)
      · skip
        rw [nI_ltI (by omega) (by omega)] at c_3
        refine lv_iload_n hx hb d_Mo_isSign_38 rfl (lv_at hl 0 rfl) ?_
        refine lv_bipush (v := nI 33) hx hb d_Mo_isSign_39 (by decide) ?_
        refine lv_icmp_eq (tgt := 80) hx hb d_Mo_isSign_41 (by decide) (fun c_4 => ?_) (fun c_4 => ?_)
        · skip
          rw [nI_eq (by omega) (by omega)] at c_4
          refine lv_iconst (v := nI 1) hx hb d_Mo_isSign_80 (by decide) ?_
          refine lv_goto (tgt := 85) hx hb d_Mo_isSign_81 (by decide) ?_
          exact mk_ti (by exact mk_bt (by simp only [okS, decide_eq_true_eq]; omega)) (hret _ _ d_Mo_isSign_85)
        · skip
          rw [nI_eq (by omega) (by omega)] at c_4
          refine lv_iload_n hx hb d_Mo_isSign_44 rfl (lv_at hl 0 rfl) ?_
          refine lv_bipush (v := nI 45) hx hb d_Mo_isSign_45 (by decide) ?_
          refine lv_icmp_eq (tgt := 80) hx hb d_Mo_isSign_47 (by decide) (fun c_5 => ?_) (fun c_5 => ?_)
          · skip
            rw [nI_eq (by omega) (by omega)] at c_5
            refine lv_iconst (v := nI 1) hx hb d_Mo_isSign_80 (by decide) ?_
            refine lv_goto (tgt := 85) hx hb d_Mo_isSign_81 (by decide) ?_
            exact mk_ti (by exact mk_bt (by simp only [okS, decide_eq_true_eq]; omega)) (hret _ _ d_Mo_isSign_85)
          · skip
            rw [nI_eq (by omega) (by omega)] at c_5
            refine lv_iload_n hx hb d_Mo_isSign_50 rfl (lv_at hl 0 rfl) ?_
            refine lv_bipush (v := nI 94) hx hb d_Mo_isSign_51 (by decide) ?_
            refine lv_icmp_lt (tgt := 62) hx hb d_Mo_isSign_53 (by decide) (fun c_6 => ?_) (fun c_6 => ?_)
            · skip
              rw [nI_ltI (by omega) (by omega)] at c_6
              refine lv_iload_n hx hb d_Mo_isSign_62 rfl (lv_at hl 0 rfl) ?_
              refine lv_bipush (v := nI 123) hx hb d_Mo_isSign_63 (by decide) ?_
              refine lv_icmp_eq (tgt := 80) hx hb d_Mo_isSign_65 (by decide) (fun c_7 => ?_) (fun c_7 => ?_)
              · skip
                rw [nI_eq (by omega) (by omega)] at c_7
                refine lv_iconst (v := nI 1) hx hb d_Mo_isSign_80 (by decide) ?_
                refine lv_goto (tgt := 85) hx hb d_Mo_isSign_81 (by decide) ?_
                exact mk_ti (by exact mk_bt (by simp only [okS, decide_eq_true_eq]; omega)) (hret _ _ d_Mo_isSign_85)
              · skip
                rw [nI_eq (by omega) (by omega)] at c_7
                refine lv_iload_n hx hb d_Mo_isSign_68 rfl (lv_at hl 0 rfl) ?_
                refine lv_bipush (v := nI 125) hx hb d_Mo_isSign_69 (by decide) ?_
                refine lv_icmp_eq (tgt := 80) hx hb d_Mo_isSign_71 (by decide) (fun c_8 => ?_) (fun c_8 => ?_)
                · skip
                  rw [nI_eq (by omega) (by omega)] at c_8
                  refine lv_iconst (v := nI 1) hx hb d_Mo_isSign_80 (by decide) ?_
                  refine lv_goto (tgt := 85) hx hb d_Mo_isSign_81 (by decide) ?_
                  exact mk_ti (by exact mk_bt (by simp only [okS, decide_eq_true_eq]; omega)) (hret _ _ d_Mo_isSign_85)
                · skip
                  rw [nI_eq (by omega) (by omega)] at c_8
                  refine lv_iload_n hx hb d_Mo_isSign_74 rfl (lv_at hl 0 rfl) ?_
                  refine lv_bipush (v := nI 126) hx hb d_Mo_isSign_75 (by decide) ?_
                  refine lv_icmp_ne (tgt := 84) hx hb d_Mo_isSign_77 (by decide) (fun c_9 => ?_) (fun c_9 => ?_)
                  · skip
                    rw [nI_eq (by omega) (by omega)] at c_9
                    refine lv_iconst (v := nI 0) hx hb d_Mo_isSign_84 (by decide) ?_
                    exact mk_ti (by exact mk_bf (by simp only [okS, decide_eq_false_iff_not]; omega)) (hret _ _ d_Mo_isSign_85)
                  · skip
                    rw [nI_eq (by omega) (by omega)] at c_9
                    refine lv_iconst (v := nI 1) hx hb d_Mo_isSign_80 (by decide) ?_
                    refine lv_goto (tgt := 85) hx hb d_Mo_isSign_81 (by decide) ?_
                    exact mk_ti (by exact mk_bt (by simp only [okS, decide_eq_true_eq]; omega)) (hret _ _ d_Mo_isSign_85)
            · skip
              rw [nI_ltI (by omega) (by omega)] at c_6
              refine lv_iload_n hx hb d_Mo_isSign_56 rfl (lv_at hl 0 rfl) ?_
              refine lv_bipush (v := nI 96) hx hb d_Mo_isSign_57 (by decide) ?_
              refine lv_icmp_le (tgt := 80) hx hb d_Mo_isSign_59 (by decide) (fun c_10 => ?_) (fun c_10 => ?_)
              · skip
                rw [nI_leI (by omega) (by omega)] at c_10
                refine lv_iconst (v := nI 1) hx hb d_Mo_isSign_80 (by decide) ?_
                refine lv_goto (tgt := 85) hx hb d_Mo_isSign_81 (by decide) ?_
                exact mk_ti (by exact mk_bt (by simp only [okS, decide_eq_true_eq]; omega)) (hret _ _ d_Mo_isSign_85)
              · skip
                rw [nI_leI (by omega) (by omega)] at c_10
                refine lv_iload_n hx hb d_Mo_isSign_62 rfl (lv_at hl 0 rfl) ?_
                refine lv_bipush (v := nI 123) hx hb d_Mo_isSign_63 (by decide) ?_
                refine lv_icmp_eq (tgt := 80) hx hb d_Mo_isSign_65 (by decide) (fun c_11 => ?_) (fun c_11 => ?_)
                · skip
                  rw [nI_eq (by omega) (by omega)] at c_11
                  refine lv_iconst (v := nI 1) hx hb d_Mo_isSign_80 (by decide) ?_
                  refine lv_goto (tgt := 85) hx hb d_Mo_isSign_81 (by decide) ?_
                  exact mk_ti (by exact mk_bt (by simp only [okS, decide_eq_true_eq]; omega)) (hret _ _ d_Mo_isSign_85)
                · skip
                  rw [nI_eq (by omega) (by omega)] at c_11
                  refine lv_iload_n hx hb d_Mo_isSign_68 rfl (lv_at hl 0 rfl) ?_
                  refine lv_bipush (v := nI 125) hx hb d_Mo_isSign_69 (by decide) ?_
                  refine lv_icmp_eq (tgt := 80) hx hb d_Mo_isSign_71 (by decide) (fun c_12 => ?_) (fun c_12 => ?_)
                  · skip
                    rw [nI_eq (by omega) (by omega)] at c_12
                    refine lv_iconst (v := nI 1) hx hb d_Mo_isSign_80 (by decide) ?_
                    refine lv_goto (tgt := 85) hx hb d_Mo_isSign_81 (by decide) ?_
                    exact mk_ti (by exact mk_bt (by simp only [okS, decide_eq_true_eq]; omega)) (hret _ _ d_Mo_isSign_85)
                  · skip
                    rw [nI_eq (by omega) (by omega)] at c_12
                    refine lv_iload_n hx hb d_Mo_isSign_74 rfl (lv_at hl 0 rfl) ?_
                    refine lv_bipush (v := nI 126) hx hb d_Mo_isSign_75 (by decide) ?_
                    refine lv_icmp_ne (tgt := 84) hx hb d_Mo_isSign_77 (by decide) (fun c_13 => ?_) (fun c_13 => ?_)
                    · skip
                      rw [nI_eq (by omega) (by omega)] at c_13
                      refine lv_iconst (v := nI 0) hx hb d_Mo_isSign_84 (by decide) ?_
                      exact mk_ti (by exact mk_bf (by simp only [okS, decide_eq_false_iff_not]; omega)) (hret _ _ d_Mo_isSign_85)
                    · skip
                      rw [nI_eq (by omega) (by omega)] at c_13
                      refine lv_iconst (v := nI 1) hx hb d_Mo_isSign_80 (by decide) ?_
                      refine lv_goto (tgt := 85) hx hb d_Mo_isSign_81 (by decide) ?_
                      exact mk_ti (by exact mk_bt (by simp only [okS, decide_eq_true_eq]; omega)) (hret _ _ d_Mo_isSign_85)
      · skip
        rw [nI_ltI (by omega) (by omega)] at c_3
        refine lv_iload_n hx hb d_Mo_isSign_30 rfl (lv_at hl 0 rfl) ?_
        refine lv_bipush (v := nI 41) hx hb d_Mo_isSign_31 (by decide) ?_
        refine lv_icmp_gt (tgt := 38) hx hb d_Mo_isSign_33 (by decide) (fun c_14 => ?_) (fun c_14 => ?_)
        · skip
          rw [nI_ltI (by omega) (by omega)] at c_14
          refine lv_iload_n hx hb d_Mo_isSign_38 rfl (lv_at hl 0 rfl) ?_
          refine lv_bipush (v := nI 33) hx hb d_Mo_isSign_39 (by decide) ?_
          refine lv_icmp_eq (tgt := 80) hx hb d_Mo_isSign_41 (by decide) (fun c_15 => ?_) (fun c_15 => ?_)
          · skip
            rw [nI_eq (by omega) (by omega)] at c_15
            refine lv_iconst (v := nI 1) hx hb d_Mo_isSign_80 (by decide) ?_
            refine lv_goto (tgt := 85) hx hb d_Mo_isSign_81 (by decide) ?_
            exact mk_ti (by exact mk_bt (by simp only [okS, decide_eq_true_eq]; omega)) (hret _ _ d_Mo_isSign_85)
          · skip
            rw [nI_eq (by omega) (by omega)] at c_15
            refine lv_iload_n hx hb d_Mo_isSign_44 rfl (lv_at hl 0 rfl) ?_
            refine lv_bipush (v := nI 45) hx hb d_Mo_isSign_45 (by decide) ?_
            refine lv_icmp_eq (tgt := 80) hx hb d_Mo_isSign_47 (by decide) (fun c_16 => ?_) (fun c_16 => ?_)
            · skip
              rw [nI_eq (by omega) (by omega)] at c_16
              refine lv_iconst (v := nI 1) hx hb d_Mo_isSign_80 (by decide) ?_
              refine lv_goto (tgt := 85) hx hb d_Mo_isSign_81 (by decide) ?_
              exact mk_ti (by exact mk_bt (by simp only [okS, decide_eq_true_eq]; omega)) (hret _ _ d_Mo_isSign_85)
            · skip
              rw [nI_eq (by omega) (by omega)] at c_16
              refine lv_iload_n hx hb d_Mo_isSign_50 rfl (lv_at hl 0 rfl) ?_
              refine lv_bipush (v := nI 94) hx hb d_Mo_isSign_51 (by decide) ?_
              refine lv_icmp_lt (tgt := 62) hx hb d_Mo_isSign_53 (by decide) (fun c_17 => ?_) (fun c_17 => ?_)
              · skip
                rw [nI_ltI (by omega) (by omega)] at c_17
                refine lv_iload_n hx hb d_Mo_isSign_62 rfl (lv_at hl 0 rfl) ?_
                refine lv_bipush (v := nI 123) hx hb d_Mo_isSign_63 (by decide) ?_
                refine lv_icmp_eq (tgt := 80) hx hb d_Mo_isSign_65 (by decide) (fun c_18 => ?_) (fun c_18 => ?_)
                · skip
                  rw [nI_eq (by omega) (by omega)] at c_18
                  refine lv_iconst (v := nI 1) hx hb d_Mo_isSign_80 (by decide) ?_
                  refine lv_goto (tgt := 85) hx hb d_Mo_isSign_81 (by decide) ?_
                  exact mk_ti (by exact mk_bt (by simp only [okS, decide_eq_true_eq]; omega)) (hret _ _ d_Mo_isSign_85)
                · skip
                  rw [nI_eq (by omega) (by omega)] at c_18
                  refine lv_iload_n hx hb d_Mo_isSign_68 rfl (lv_at hl 0 rfl) ?_
                  refine lv_bipush (v := nI 125) hx hb d_Mo_isSign_69 (by decide) ?_
                  refine lv_icmp_eq (tgt := 80) hx hb d_Mo_isSign_71 (by decide) (fun c_19 => ?_) (fun c_19 => ?_)
                  · skip
                    rw [nI_eq (by omega) (by omega)] at c_19
                    refine lv_iconst (v := nI 1) hx hb d_Mo_isSign_80 (by decide) ?_
                    refine lv_goto (tgt := 85) hx hb d_Mo_isSign_81 (by decide) ?_
                    exact mk_ti (by exact mk_bt (by simp only [okS, decide_eq_true_eq]; omega)) (hret _ _ d_Mo_isSign_85)
                  · skip
                    rw [nI_eq (by omega) (by omega)] at c_19
                    refine lv_iload_n hx hb d_Mo_isSign_74 rfl (lv_at hl 0 rfl) ?_
                    refine lv_bipush (v := nI 126) hx hb d_Mo_isSign_75 (by decide) ?_
                    refine lv_icmp_ne (tgt := 84) hx hb d_Mo_isSign_77 (by decide) (fun c_20 => ?_) (fun c_20 => ?_)
                    · skip
                      rw [nI_eq (by omega) (by omega)] at c_20
                      refine lv_iconst (v := nI 0) hx hb d_Mo_isSign_84 (by decide) ?_
                      exact mk_ti (by exact mk_bf (by simp only [okS, decide_eq_false_iff_not]; omega)) (hret _ _ d_Mo_isSign_85)
                    · skip
                      rw [nI_eq (by omega) (by omega)] at c_20
                      refine lv_iconst (v := nI 1) hx hb d_Mo_isSign_80 (by decide) ?_
                      refine lv_goto (tgt := 85) hx hb d_Mo_isSign_81 (by decide) ?_
                      exact mk_ti (by exact mk_bt (by simp only [okS, decide_eq_true_eq]; omega)) (hret _ _ d_Mo_isSign_85)
              · skip
                rw [nI_ltI (by omega) (by omega)] at c_17
                refine lv_iload_n hx hb d_Mo_isSign_56 rfl (lv_at hl 0 rfl) ?_
                refine lv_bipush (v := nI 96) hx hb d_Mo_isSign_57 (by decide) ?_
                refine lv_icmp_le (tgt := 80) hx hb d_Mo_isSign_59 (by decide) (fun c_21 => ?_) (fun c_21 => ?_)
                · skip
                  rw [nI_leI (by omega) (by omega)] at c_21
                  refine lv_iconst (v := nI 1) hx hb d_Mo_isSign_80 (by decide) ?_
                  refine lv_goto (tgt := 85) hx hb d_Mo_isSign_81 (by decide) ?_
                  exact mk_ti (by exact mk_bt (by simp only [okS, decide_eq_true_eq]; omega)) (hret _ _ d_Mo_isSign_85)
                · skip
                  rw [nI_leI (by omega) (by omega)] at c_21
                  refine lv_iload_n hx hb d_Mo_isSign_62 rfl (lv_at hl 0 rfl) ?_
                  refine lv_bipush (v := nI 123) hx hb d_Mo_isSign_63 (by decide) ?_
                  refine lv_icmp_eq (tgt := 80) hx hb d_Mo_isSign_65 (by decide) (fun c_22 => ?_) (fun c_22 => ?_)
                  · skip
                    rw [nI_eq (by omega) (by omega)] at c_22
                    refine lv_iconst (v := nI 1) hx hb d_Mo_isSign_80 (by decide) ?_
                    refine lv_goto (tgt := 85) hx hb d_Mo_isSign_81 (by decide) ?_
                    exact mk_ti (by exact mk_bt (by simp only [okS, decide_eq_true_eq]; omega)) (hret _ _ d_Mo_isSign_85)
                  · skip
                    rw [nI_eq (by omega) (by omega)] at c_22
                    refine lv_iload_n hx hb d_Mo_isSign_68 rfl (lv_at hl 0 rfl) ?_
                    refine lv_bipush (v := nI 125) hx hb d_Mo_isSign_69 (by decide) ?_
                    refine lv_icmp_eq (tgt := 80) hx hb d_Mo_isSign_71 (by decide) (fun c_23 => ?_) (fun c_23 => ?_)
                    · skip
                      rw [nI_eq (by omega) (by omega)] at c_23
                      refine lv_iconst (v := nI 1) hx hb d_Mo_isSign_80 (by decide) ?_
                      refine lv_goto (tgt := 85) hx hb d_Mo_isSign_81 (by decide) ?_
                      exact mk_ti (by exact mk_bt (by simp only [okS, decide_eq_true_eq]; omega)) (hret _ _ d_Mo_isSign_85)
                    · skip
                      rw [nI_eq (by omega) (by omega)] at c_23
                      refine lv_iload_n hx hb d_Mo_isSign_74 rfl (lv_at hl 0 rfl) ?_
                      refine lv_bipush (v := nI 126) hx hb d_Mo_isSign_75 (by decide) ?_
                      refine lv_icmp_ne (tgt := 84) hx hb d_Mo_isSign_77 (by decide) (fun c_24 => ?_) (fun c_24 => ?_)
                      · skip
                        rw [nI_eq (by omega) (by omega)] at c_24
                        refine lv_iconst (v := nI 0) hx hb d_Mo_isSign_84 (by decide) ?_
                        exact mk_ti (by exact mk_bf (by simp only [okS, decide_eq_false_iff_not]; omega)) (hret _ _ d_Mo_isSign_85)
                      · skip
                        rw [nI_eq (by omega) (by omega)] at c_24
                        refine lv_iconst (v := nI 1) hx hb d_Mo_isSign_80 (by decide) ?_
                        refine lv_goto (tgt := 85) hx hb d_Mo_isSign_81 (by decide) ?_
                        exact mk_ti (by exact mk_bt (by simp only [okS, decide_eq_true_eq]; omega)) (hret _ _ d_Mo_isSign_85)
        · skip
          rw [nI_ltI (by omega) (by omega)] at c_14
          refine lv_iconst (v := nI 1) hx hb d_Mo_isSign_36 (by decide) ?_
          exact mk_ti (by exact mk_bt (by simp only [okS, decide_eq_true_eq]; omega)) (hret _ _ d_Mo_isSign_37)
    · skip
      rw [nI_ltI (by omega) (by omega)] at c_2
      refine lv_iload_n hx hb d_Mo_isSign_18 rfl (lv_at hl 0 rfl) ?_
      refine lv_bipush (v := nI 57) hx hb d_Mo_isSign_19 (by decide) ?_
      refine lv_icmp_le (tgt := 36) hx hb d_Mo_isSign_21 (by decide) (fun c_25 => ?_) (fun c_25 => ?_)
      · skip
        rw [nI_leI (by omega) (by omega)] at c_25
        refine lv_iconst (v := nI 1) hx hb d_Mo_isSign_36 (by decide) ?_
        exact mk_ti (by exact mk_bt (by simp only [okS, decide_eq_true_eq]; omega)) (hret _ _ d_Mo_isSign_37)
      · skip
        rw [nI_leI (by omega) (by omega)] at c_25
        refine lv_iload_n hx hb d_Mo_isSign_24 rfl (lv_at hl 0 rfl) ?_
        refine lv_bipush (v := nI 35) hx hb d_Mo_isSign_25 (by decide) ?_
        refine lv_icmp_lt (tgt := 38) hx hb d_Mo_isSign_27 (by decide) (fun c_26 => ?_) (fun c_26 => ?_)
        · skip
          rw [nI_ltI (by omega) (by omega)] at c_26
          refine lv_iload_n hx hb d_Mo_isSign_38 rfl (lv_at hl 0 rfl) ?_
          refine lv_bipush (v := nI 33) hx hb d_Mo_isSign_39 (by decide) ?_
          refine lv_icmp_eq (tgt := 80) hx hb d_Mo_isSign_41 (by decide) (fun c_27 => ?_) (fun c_27 => ?_)
          · skip
            rw [nI_eq (by omega) (by omega)] at c_27
            refine lv_iconst (v := nI 1) hx hb d_Mo_isSign_80 (by decide) ?_
            refine lv_goto (tgt := 85) hx hb d_Mo_isSign_81 (by decide) ?_
            exact mk_ti (by exact mk_bt (by simp only [okS, decide_eq_true_eq]; omega)) (hret _ _ d_Mo_isSign_85)
          · skip
            rw [nI_eq (by omega) (by omega)] at c_27
            refine lv_iload_n hx hb d_Mo_isSign_44 rfl (lv_at hl 0 rfl) ?_
            refine lv_bipush (v := nI 45) hx hb d_Mo_isSign_45 (by decide) ?_
            refine lv_icmp_eq (tgt := 80) hx hb d_Mo_isSign_47 (by decide) (fun c_28 => ?_) (fun c_28 => ?_)
            · skip
              rw [nI_eq (by omega) (by omega)] at c_28
              refine lv_iconst (v := nI 1) hx hb d_Mo_isSign_80 (by decide) ?_
              refine lv_goto (tgt := 85) hx hb d_Mo_isSign_81 (by decide) ?_
              exact mk_ti (by exact mk_bt (by simp only [okS, decide_eq_true_eq]; omega)) (hret _ _ d_Mo_isSign_85)
            · skip
              rw [nI_eq (by omega) (by omega)] at c_28
              refine lv_iload_n hx hb d_Mo_isSign_50 rfl (lv_at hl 0 rfl) ?_
              refine lv_bipush (v := nI 94) hx hb d_Mo_isSign_51 (by decide) ?_
              refine lv_icmp_lt (tgt := 62) hx hb d_Mo_isSign_53 (by decide) (fun c_29 => ?_) (fun c_29 => ?_)
              · skip
                rw [nI_ltI (by omega) (by omega)] at c_29
                refine lv_iload_n hx hb d_Mo_isSign_62 rfl (lv_at hl 0 rfl) ?_
                refine lv_bipush (v := nI 123) hx hb d_Mo_isSign_63 (by decide) ?_
                refine lv_icmp_eq (tgt := 80) hx hb d_Mo_isSign_65 (by decide) (fun c_30 => ?_) (fun c_30 => ?_)
                · skip
                  rw [nI_eq (by omega) (by omega)] at c_30
                  refine lv_iconst (v := nI 1) hx hb d_Mo_isSign_80 (by decide) ?_
                  refine lv_goto (tgt := 85) hx hb d_Mo_isSign_81 (by decide) ?_
                  exact mk_ti (by exact mk_bt (by simp only [okS, decide_eq_true_eq]; omega)) (hret _ _ d_Mo_isSign_85)
                · skip
                  rw [nI_eq (by omega) (by omega)] at c_30
                  refine lv_iload_n hx hb d_Mo_isSign_68 rfl (lv_at hl 0 rfl) ?_
                  refine lv_bipush (v := nI 125) hx hb d_Mo_isSign_69 (by decide) ?_
                  refine lv_icmp_eq (tgt := 80) hx hb d_Mo_isSign_71 (by decide) (fun c_31 => ?_) (fun c_31 => ?_)
                  · skip
                    rw [nI_eq (by omega) (by omega)] at c_31
                    refine lv_iconst (v := nI 1) hx hb d_Mo_isSign_80 (by decide) ?_
                    refine lv_goto (tgt := 85) hx hb d_Mo_isSign_81 (by decide) ?_
                    exact mk_ti (by exact mk_bt (by simp only [okS, decide_eq_true_eq]; omega)) (hret _ _ d_Mo_isSign_85)
                  · skip
                    rw [nI_eq (by omega) (by omega)] at c_31
                    refine lv_iload_n hx hb d_Mo_isSign_74 rfl (lv_at hl 0 rfl) ?_
                    refine lv_bipush (v := nI 126) hx hb d_Mo_isSign_75 (by decide) ?_
                    refine lv_icmp_ne (tgt := 84) hx hb d_Mo_isSign_77 (by decide) (fun c_32 => ?_) (fun c_32 => ?_)
                    · skip
                      rw [nI_eq (by omega) (by omega)] at c_32
                      refine lv_iconst (v := nI 0) hx hb d_Mo_isSign_84 (by decide) ?_
                      exact mk_ti (by exact mk_bf (by simp only [okS, decide_eq_false_iff_not]; omega)) (hret _ _ d_Mo_isSign_85)
                    · skip
                      rw [nI_eq (by omega) (by omega)] at c_32
                      refine lv_iconst (v := nI 1) hx hb d_Mo_isSign_80 (by decide) ?_
                      refine lv_goto (tgt := 85) hx hb d_Mo_isSign_81 (by decide) ?_
                      exact mk_ti (by exact mk_bt (by simp only [okS, decide_eq_true_eq]; omega)) (hret _ _ d_Mo_isSign_85)
              · skip
                rw [nI_ltI (by omega) (by omega)] at c_29
                refine lv_iload_n hx hb d_Mo_isSign_56 rfl (lv_at hl 0 rfl) ?_
                refine lv_bipush (v := nI 96) hx hb d_Mo_isSign_57 (by decide) ?_
                refine lv_icmp_le (tgt := 80) hx hb d_Mo_isSign_59 (by decide) (fun c_33 => ?_) (fun c_33 => ?_)
                · skip
                  rw [nI_leI (by omega) (by omega)] at c_33
                  refine lv_iconst (v := nI 1) hx hb d_Mo_isSign_80 (by decide) ?_
                  refine lv_goto (tgt := 85) hx hb d_Mo_isSign_81 (by decide) ?_
                  exact mk_ti (by exact mk_bt (by simp only [okS, decide_eq_true_eq]; omega)) (hret _ _ d_Mo_isSign_85)
                · skip
                  rw [nI_leI (by omega) (by omega)] at c_33
                  refine lv_iload_n hx hb d_Mo_isSign_62 rfl (lv_at hl 0 rfl) ?_
                  refine lv_bipush (v := nI 123) hx hb d_Mo_isSign_63 (by decide) ?_
                  refine lv_icmp_eq (tgt := 80) hx hb d_Mo_isSign_65 (by decide) (fun c_34 => ?_) (fun c_34 => ?_)
                  · skip
                    rw [nI_eq (by omega) (by omega)] at c_34
                    refine lv_iconst (v := nI 1) hx hb d_Mo_isSign_80 (by decide) ?_
                    refine lv_goto (tgt := 85) hx hb d_Mo_isSign_81 (by decide) ?_
                    exact mk_ti (by exact mk_bt (by simp only [okS, decide_eq_true_eq]; omega)) (hret _ _ d_Mo_isSign_85)
                  · skip
                    rw [nI_eq (by omega) (by omega)] at c_34
                    refine lv_iload_n hx hb d_Mo_isSign_68 rfl (lv_at hl 0 rfl) ?_
                    refine lv_bipush (v := nI 125) hx hb d_Mo_isSign_69 (by decide) ?_
                    refine lv_icmp_eq (tgt := 80) hx hb d_Mo_isSign_71 (by decide) (fun c_35 => ?_) (fun c_35 => ?_)
                    · skip
                      rw [nI_eq (by omega) (by omega)] at c_35
                      refine lv_iconst (v := nI 1) hx hb d_Mo_isSign_80 (by decide) ?_
                      refine lv_goto (tgt := 85) hx hb d_Mo_isSign_81 (by decide) ?_
                      exact mk_ti (by exact mk_bt (by simp only [okS, decide_eq_true_eq]; omega)) (hret _ _ d_Mo_isSign_85)
                    · skip
                      rw [nI_eq (by omega) (by omega)] at c_35
                      refine lv_iload_n hx hb d_Mo_isSign_74 rfl (lv_at hl 0 rfl) ?_
                      refine lv_bipush (v := nI 126) hx hb d_Mo_isSign_75 (by decide) ?_
                      refine lv_icmp_ne (tgt := 84) hx hb d_Mo_isSign_77 (by decide) (fun c_36 => ?_) (fun c_36 => ?_)
                      · skip
                        rw [nI_eq (by omega) (by omega)] at c_36
                        refine lv_iconst (v := nI 0) hx hb d_Mo_isSign_84 (by decide) ?_
                        exact mk_ti (by exact mk_bf (by simp only [okS, decide_eq_false_iff_not]; omega)) (hret _ _ d_Mo_isSign_85)
                      · skip
                        rw [nI_eq (by omega) (by omega)] at c_36
                        refine lv_iconst (v := nI 1) hx hb d_Mo_isSign_80 (by decide) ?_
                        refine lv_goto (tgt := 85) hx hb d_Mo_isSign_81 (by decide) ?_
                        exact mk_ti (by exact mk_bt (by simp only [okS, decide_eq_true_eq]; omega)) (hret _ _ d_Mo_isSign_85)
        · skip
          rw [nI_ltI (by omega) (by omega)] at c_26
          refine lv_iload_n hx hb d_Mo_isSign_30 rfl (lv_at hl 0 rfl) ?_
          refine lv_bipush (v := nI 41) hx hb d_Mo_isSign_31 (by decide) ?_
          refine lv_icmp_gt (tgt := 38) hx hb d_Mo_isSign_33 (by decide) (fun c_37 => ?_) (fun c_37 => ?_)
          · skip
            rw [nI_ltI (by omega) (by omega)] at c_37
            refine lv_iload_n hx hb d_Mo_isSign_38 rfl (lv_at hl 0 rfl) ?_
            refine lv_bipush (v := nI 33) hx hb d_Mo_isSign_39 (by decide) ?_
            refine lv_icmp_eq (tgt := 80) hx hb d_Mo_isSign_41 (by decide) (fun c_38 => ?_) (fun c_38 => ?_)
            · skip
              rw [nI_eq (by omega) (by omega)] at c_38
              refine lv_iconst (v := nI 1) hx hb d_Mo_isSign_80 (by decide) ?_
              refine lv_goto (tgt := 85) hx hb d_Mo_isSign_81 (by decide) ?_
              exact mk_ti (by exact mk_bt (by simp only [okS, decide_eq_true_eq]; omega)) (hret _ _ d_Mo_isSign_85)
            · skip
              rw [nI_eq (by omega) (by omega)] at c_38
              refine lv_iload_n hx hb d_Mo_isSign_44 rfl (lv_at hl 0 rfl) ?_
              refine lv_bipush (v := nI 45) hx hb d_Mo_isSign_45 (by decide) ?_
              refine lv_icmp_eq (tgt := 80) hx hb d_Mo_isSign_47 (by decide) (fun c_39 => ?_) (fun c_39 => ?_)
              · skip
                rw [nI_eq (by omega) (by omega)] at c_39
                refine lv_iconst (v := nI 1) hx hb d_Mo_isSign_80 (by decide) ?_
                refine lv_goto (tgt := 85) hx hb d_Mo_isSign_81 (by decide) ?_
                exact mk_ti (by exact mk_bt (by simp only [okS, decide_eq_true_eq]; omega)) (hret _ _ d_Mo_isSign_85)
              · skip
                rw [nI_eq (by omega) (by omega)] at c_39
                refine lv_iload_n hx hb d_Mo_isSign_50 rfl (lv_at hl 0 rfl) ?_
                refine lv_bipush (v := nI 94) hx hb d_Mo_isSign_51 (by decide) ?_
                refine lv_icmp_lt (tgt := 62) hx hb d_Mo_isSign_53 (by decide) (fun c_40 => ?_) (fun c_40 => ?_)
                · skip
                  rw [nI_ltI (by omega) (by omega)] at c_40
                  refine lv_iload_n hx hb d_Mo_isSign_62 rfl (lv_at hl 0 rfl) ?_
                  refine lv_bipush (v := nI 123) hx hb d_Mo_isSign_63 (by decide) ?_
                  refine lv_icmp_eq (tgt := 80) hx hb d_Mo_isSign_65 (by decide) (fun c_41 => ?_) (fun c_41 => ?_)
                  · skip
                    rw [nI_eq (by omega) (by omega)] at c_41
                    refine lv_iconst (v := nI 1) hx hb d_Mo_isSign_80 (by decide) ?_
                    refine lv_goto (tgt := 85) hx hb d_Mo_isSign_81 (by decide) ?_
                    exact mk_ti (by exact mk_bt (by simp only [okS, decide_eq_true_eq]; omega)) (hret _ _ d_Mo_isSign_85)
                  · skip
                    rw [nI_eq (by omega) (by omega)] at c_41
                    refine lv_iload_n hx hb d_Mo_isSign_68 rfl (lv_at hl 0 rfl) ?_
                    refine lv_bipush (v := nI 125) hx hb d_Mo_isSign_69 (by decide) ?_
                    refine lv_icmp_eq (tgt := 80) hx hb d_Mo_isSign_71 (by decide) (fun c_42 => ?_) (fun c_42 => ?_)
                    · skip
                      rw [nI_eq (by omega) (by omega)] at c_42
                      refine lv_iconst (v := nI 1) hx hb d_Mo_isSign_80 (by decide) ?_
                      refine lv_goto (tgt := 85) hx hb d_Mo_isSign_81 (by decide) ?_
                      exact mk_ti (by exact mk_bt (by simp only [okS, decide_eq_true_eq]; omega)) (hret _ _ d_Mo_isSign_85)
                    · skip
                      rw [nI_eq (by omega) (by omega)] at c_42
                      refine lv_iload_n hx hb d_Mo_isSign_74 rfl (lv_at hl 0 rfl) ?_
                      refine lv_bipush (v := nI 126) hx hb d_Mo_isSign_75 (by decide) ?_
                      refine lv_icmp_ne (tgt := 84) hx hb d_Mo_isSign_77 (by decide) (fun c_43 => ?_) (fun c_43 => ?_)
                      · skip
                        rw [nI_eq (by omega) (by omega)] at c_43
                        refine lv_iconst (v := nI 0) hx hb d_Mo_isSign_84 (by decide) ?_
                        exact mk_ti (by exact mk_bf (by simp only [okS, decide_eq_false_iff_not]; omega)) (hret _ _ d_Mo_isSign_85)
                      · skip
                        rw [nI_eq (by omega) (by omega)] at c_43
                        refine lv_iconst (v := nI 1) hx hb d_Mo_isSign_80 (by decide) ?_
                        refine lv_goto (tgt := 85) hx hb d_Mo_isSign_81 (by decide) ?_
                        exact mk_ti (by exact mk_bt (by simp only [okS, decide_eq_true_eq]; omega)) (hret _ _ d_Mo_isSign_85)
                · skip
                  rw [nI_ltI (by omega) (by omega)] at c_40
                  refine lv_iload_n hx hb d_Mo_isSign_56 rfl (lv_at hl 0 rfl) ?_
                  refine lv_bipush (v := nI 96) hx hb d_Mo_isSign_57 (by decide) ?_
                  refine lv_icmp_le (tgt := 80) hx hb d_Mo_isSign_59 (by decide) (fun c_44 => ?_) (fun c_44 => ?_)
                  · skip
                    rw [nI_leI (by omega) (by omega)] at c_44
                    refine lv_iconst (v := nI 1) hx hb d_Mo_isSign_80 (by decide) ?_
                    refine lv_goto (tgt := 85) hx hb d_Mo_isSign_81 (by decide) ?_
                    exact mk_ti (by exact mk_bt (by simp only [okS, decide_eq_true_eq]; omega)) (hret _ _ d_Mo_isSign_85)
                  · skip
                    rw [nI_leI (by omega) (by omega)] at c_44
                    refine lv_iload_n hx hb d_Mo_isSign_62 rfl (lv_at hl 0 rfl) ?_
                    refine lv_bipush (v := nI 123) hx hb d_Mo_isSign_63 (by decide) ?_
                    refine lv_icmp_eq (tgt := 80) hx hb d_Mo_isSign_65 (by decide) (fun c_45 => ?_) (fun c_45 => ?_)
                    · skip
                      rw [nI_eq (by omega) (by omega)] at c_45
                      refine lv_iconst (v := nI 1) hx hb d_Mo_isSign_80 (by decide) ?_
                      refine lv_goto (tgt := 85) hx hb d_Mo_isSign_81 (by decide) ?_
                      exact mk_ti (by exact mk_bt (by simp only [okS, decide_eq_true_eq]; omega)) (hret _ _ d_Mo_isSign_85)
                    · skip
                      rw [nI_eq (by omega) (by omega)] at c_45
                      refine lv_iload_n hx hb d_Mo_isSign_68 rfl (lv_at hl 0 rfl) ?_
                      refine lv_bipush (v := nI 125) hx hb d_Mo_isSign_69 (by decide) ?_
                      refine lv_icmp_eq (tgt := 80) hx hb d_Mo_isSign_71 (by decide) (fun c_46 => ?_) (fun c_46 => ?_)
                      · skip
                        rw [nI_eq (by omega) (by omega)] at c_46
                        refine lv_iconst (v := nI 1) hx hb d_Mo_isSign_80 (by decide) ?_
                        refine lv_goto (tgt := 85) hx hb d_Mo_isSign_81 (by decide) ?_
                        exact mk_ti (by exact mk_bt (by simp only [okS, decide_eq_true_eq]; omega)) (hret _ _ d_Mo_isSign_85)
                      · skip
                        rw [nI_eq (by omega) (by omega)] at c_46
                        refine lv_iload_n hx hb d_Mo_isSign_74 rfl (lv_at hl 0 rfl) ?_
                        refine lv_bipush (v := nI 126) hx hb d_Mo_isSign_75 (by decide) ?_
                        refine lv_icmp_ne (tgt := 84) hx hb d_Mo_isSign_77 (by decide) (fun c_47 => ?_) (fun c_47 => ?_)
                        · skip
                          rw [nI_eq (by omega) (by omega)] at c_47
                          refine lv_iconst (v := nI 0) hx hb d_Mo_isSign_84 (by decide) ?_
                          exact mk_ti (by exact mk_bf (by simp only [okS, decide_eq_false_iff_not]; omega)) (hret _ _ d_Mo_isSign_85)
                        · skip
                          rw [nI_eq (by omega) (by omega)] at c_47
                          refine lv_iconst (v := nI 1) hx hb d_Mo_isSign_80 (by decide) ?_
                          refine lv_goto (tgt := 85) hx hb d_Mo_isSign_81 (by decide) ?_
                          exact mk_ti (by exact mk_bt (by simp only [okS, decide_eq_true_eq]; omega)) (hret _ _ d_Mo_isSign_85)
          · skip
            rw [nI_ltI (by omega) (by omega)] at c_37
            refine lv_iconst (v := nI 1) hx hb d_Mo_isSign_36 (by decide) ?_
            exact mk_ti (by exact mk_bt (by simp only [okS, decide_eq_true_eq]; omega)) (hret _ _ d_Mo_isSign_37)
  · skip
    rw [nI_ltI (by omega) (by omega)] at c_1
    refine lv_iload_n hx hb d_Mo_isSign_6 rfl (lv_at hl 0 rfl) ?_
    refine lv_bipush (v := nI 90) hx hb d_Mo_isSign_7 (by decide) ?_
    refine lv_icmp_le (tgt := 36) hx hb d_Mo_isSign_9 (by decide) (fun c_48 => ?_) (fun c_48 => ?_)
    · skip
      rw [nI_leI (by omega) (by omega)] at c_48
      refine lv_iconst (v := nI 1) hx hb d_Mo_isSign_36 (by decide) ?_
      exact mk_ti (by exact mk_bt (by simp only [okS, decide_eq_true_eq]; omega)) (hret _ _ d_Mo_isSign_37)
    · skip
      rw [nI_leI (by omega) (by omega)] at c_48
      refine lv_iload_n hx hb d_Mo_isSign_12 rfl (lv_at hl 0 rfl) ?_
      refine lv_bipush (v := nI 48) hx hb d_Mo_isSign_13 (by decide) ?_
      refine lv_icmp_lt (tgt := 24) hx hb d_Mo_isSign_15 (by decide) (fun c_49 => ?_) (fun c_49 => ?_)
      · skip
        rw [nI_ltI (by omega) (by omega)] at c_49
        refine lv_iload_n hx hb d_Mo_isSign_24 rfl (lv_at hl 0 rfl) ?_
        refine lv_bipush (v := nI 35) hx hb d_Mo_isSign_25 (by decide) ?_
        refine lv_icmp_lt (tgt := 38) hx hb d_Mo_isSign_27 (by decide) (fun c_50 => ?_) (fun c_50 => ?_)
        · skip
          rw [nI_ltI (by omega) (by omega)] at c_50
          refine lv_iload_n hx hb d_Mo_isSign_38 rfl (lv_at hl 0 rfl) ?_
          refine lv_bipush (v := nI 33) hx hb d_Mo_isSign_39 (by decide) ?_
          refine lv_icmp_eq (tgt := 80) hx hb d_Mo_isSign_41 (by decide) (fun c_51 => ?_) (fun c_51 => ?_)
          · skip
            rw [nI_eq (by omega) (by omega)] at c_51
            refine lv_iconst (v := nI 1) hx hb d_Mo_isSign_80 (by decide) ?_
            refine lv_goto (tgt := 85) hx hb d_Mo_isSign_81 (by decide) ?_
            exact mk_ti (by exact mk_bt (by simp only [okS, decide_eq_true_eq]; omega)) (hret _ _ d_Mo_isSign_85)
          · skip
            rw [nI_eq (by omega) (by omega)] at c_51
            refine lv_iload_n hx hb d_Mo_isSign_44 rfl (lv_at hl 0 rfl) ?_
            refine lv_bipush (v := nI 45) hx hb d_Mo_isSign_45 (by decide) ?_
            refine lv_icmp_eq (tgt := 80) hx hb d_Mo_isSign_47 (by decide) (fun c_52 => ?_) (fun c_52 => ?_)
            · skip
              rw [nI_eq (by omega) (by omega)] at c_52
              refine lv_iconst (v := nI 1) hx hb d_Mo_isSign_80 (by decide) ?_
              refine lv_goto (tgt := 85) hx hb d_Mo_isSign_81 (by decide) ?_
              exact mk_ti (by exact mk_bt (by simp only [okS, decide_eq_true_eq]; omega)) (hret _ _ d_Mo_isSign_85)
            · skip
              rw [nI_eq (by omega) (by omega)] at c_52
              refine lv_iload_n hx hb d_Mo_isSign_50 rfl (lv_at hl 0 rfl) ?_
              refine lv_bipush (v := nI 94) hx hb d_Mo_isSign_51 (by decide) ?_
              refine lv_icmp_lt (tgt := 62) hx hb d_Mo_isSign_53 (by decide) (fun c_53 => ?_) (fun c_53 => ?_)
              · skip
                rw [nI_ltI (by omega) (by omega)] at c_53
                refine lv_iload_n hx hb d_Mo_isSign_62 rfl (lv_at hl 0 rfl) ?_
                refine lv_bipush (v := nI 123) hx hb d_Mo_isSign_63 (by decide) ?_
                refine lv_icmp_eq (tgt := 80) hx hb d_Mo_isSign_65 (by decide) (fun c_54 => ?_) (fun c_54 => ?_)
                · skip
                  rw [nI_eq (by omega) (by omega)] at c_54
                  refine lv_iconst (v := nI 1) hx hb d_Mo_isSign_80 (by decide) ?_
                  refine lv_goto (tgt := 85) hx hb d_Mo_isSign_81 (by decide) ?_
                  exact mk_ti (by exact mk_bt (by simp only [okS, decide_eq_true_eq]; omega)) (hret _ _ d_Mo_isSign_85)
                · skip
                  rw [nI_eq (by omega) (by omega)] at c_54
                  refine lv_iload_n hx hb d_Mo_isSign_68 rfl (lv_at hl 0 rfl) ?_
                  refine lv_bipush (v := nI 125) hx hb d_Mo_isSign_69 (by decide) ?_
                  refine lv_icmp_eq (tgt := 80) hx hb d_Mo_isSign_71 (by decide) (fun c_55 => ?_) (fun c_55 => ?_)
                  · skip
                    rw [nI_eq (by omega) (by omega)] at c_55
                    refine lv_iconst (v := nI 1) hx hb d_Mo_isSign_80 (by decide) ?_
                    refine lv_goto (tgt := 85) hx hb d_Mo_isSign_81 (by decide) ?_
                    exact mk_ti (by exact mk_bt (by simp only [okS, decide_eq_true_eq]; omega)) (hret _ _ d_Mo_isSign_85)
                  · skip
                    rw [nI_eq (by omega) (by omega)] at c_55
                    refine lv_iload_n hx hb d_Mo_isSign_74 rfl (lv_at hl 0 rfl) ?_
                    refine lv_bipush (v := nI 126) hx hb d_Mo_isSign_75 (by decide) ?_
                    refine lv_icmp_ne (tgt := 84) hx hb d_Mo_isSign_77 (by decide) (fun c_56 => ?_) (fun c_56 => ?_)
                    · skip
                      rw [nI_eq (by omega) (by omega)] at c_56
                      refine lv_iconst (v := nI 0) hx hb d_Mo_isSign_84 (by decide) ?_
                      exact mk_ti (by exact mk_bf (by simp only [okS, decide_eq_false_iff_not]; omega)) (hret _ _ d_Mo_isSign_85)
                    · skip
                      rw [nI_eq (by omega) (by omega)] at c_56
                      refine lv_iconst (v := nI 1) hx hb d_Mo_isSign_80 (by decide) ?_
                      refine lv_goto (tgt := 85) hx hb d_Mo_isSign_81 (by decide) ?_
                      exact mk_ti (by exact mk_bt (by simp only [okS, decide_eq_true_eq]; omega)) (hret _ _ d_Mo_isSign_85)
              · skip
                rw [nI_ltI (by omega) (by omega)] at c_53
                refine lv_iload_n hx hb d_Mo_isSign_56 rfl (lv_at hl 0 rfl) ?_
                refine lv_bipush (v := nI 96) hx hb d_Mo_isSign_57 (by decide) ?_
                refine lv_icmp_le (tgt := 80) hx hb d_Mo_isSign_59 (by decide) (fun c_57 => ?_) (fun c_57 => ?_)
                · skip
                  rw [nI_leI (by omega) (by omega)] at c_57
                  refine lv_iconst (v := nI 1) hx hb d_Mo_isSign_80 (by decide) ?_
                  refine lv_goto (tgt := 85) hx hb d_Mo_isSign_81 (by decide) ?_
                  exact mk_ti (by exact mk_bt (by simp only [okS, decide_eq_true_eq]; omega)) (hret _ _ d_Mo_isSign_85)
                · skip
                  rw [nI_leI (by omega) (by omega)] at c_57
                  refine lv_iload_n hx hb d_Mo_isSign_62 rfl (lv_at hl 0 rfl) ?_
                  refine lv_bipush (v := nI 123) hx hb d_Mo_isSign_63 (by decide) ?_
                  refine lv_icmp_eq (tgt := 80) hx hb d_Mo_isSign_65 (by decide) (fun c_58 => ?_) (fun c_58 => ?_)
                  · skip
                    rw [nI_eq (by omega) (by omega)] at c_58
                    refine lv_iconst (v := nI 1) hx hb d_Mo_isSign_80 (by decide) ?_
                    refine lv_goto (tgt := 85) hx hb d_Mo_isSign_81 (by decide) ?_
                    exact mk_ti (by exact mk_bt (by simp only [okS, decide_eq_true_eq]; omega)) (hret _ _ d_Mo_isSign_85)
                  · skip
                    rw [nI_eq (by omega) (by omega)] at c_58
                    refine lv_iload_n hx hb d_Mo_isSign_68 rfl (lv_at hl 0 rfl) ?_
                    refine lv_bipush (v := nI 125) hx hb d_Mo_isSign_69 (by decide) ?_
                    refine lv_icmp_eq (tgt := 80) hx hb d_Mo_isSign_71 (by decide) (fun c_59 => ?_) (fun c_59 => ?_)
                    · skip
                      rw [nI_eq (by omega) (by omega)] at c_59
                      refine lv_iconst (v := nI 1) hx hb d_Mo_isSign_80 (by decide) ?_
                      refine lv_goto (tgt := 85) hx hb d_Mo_isSign_81 (by decide) ?_
                      exact mk_ti (by exact mk_bt (by simp only [okS, decide_eq_true_eq]; omega)) (hret _ _ d_Mo_isSign_85)
                    · skip
                      rw [nI_eq (by omega) (by omega)] at c_59
                      refine lv_iload_n hx hb d_Mo_isSign_74 rfl (lv_at hl 0 rfl) ?_
                      refine lv_bipush (v := nI 126) hx hb d_Mo_isSign_75 (by decide) ?_
                      refine lv_icmp_ne (tgt := 84) hx hb d_Mo_isSign_77 (by decide) (fun c_60 => ?_) (fun c_60 => ?_)
                      · skip
                        rw [nI_eq (by omega) (by omega)] at c_60
                        refine lv_iconst (v := nI 0) hx hb d_Mo_isSign_84 (by decide) ?_
                        exact mk_ti (by exact mk_bf (by simp only [okS, decide_eq_false_iff_not]; omega)) (hret _ _ d_Mo_isSign_85)
                      · skip
                        rw [nI_eq (by omega) (by omega)] at c_60
                        refine lv_iconst (v := nI 1) hx hb d_Mo_isSign_80 (by decide) ?_
                        refine lv_goto (tgt := 85) hx hb d_Mo_isSign_81 (by decide) ?_
                        exact mk_ti (by exact mk_bt (by simp only [okS, decide_eq_true_eq]; omega)) (hret _ _ d_Mo_isSign_85)
        · skip
          rw [nI_ltI (by omega) (by omega)] at c_50
          refine lv_iload_n hx hb d_Mo_isSign_30 rfl (lv_at hl 0 rfl) ?_
          refine lv_bipush (v := nI 41) hx hb d_Mo_isSign_31 (by decide) ?_
          refine lv_icmp_gt (tgt := 38) hx hb d_Mo_isSign_33 (by decide) (fun c_61 => ?_) (fun c_61 => ?_)
          · skip
            rw [nI_ltI (by omega) (by omega)] at c_61
            refine lv_iload_n hx hb d_Mo_isSign_38 rfl (lv_at hl 0 rfl) ?_
            refine lv_bipush (v := nI 33) hx hb d_Mo_isSign_39 (by decide) ?_
            refine lv_icmp_eq (tgt := 80) hx hb d_Mo_isSign_41 (by decide) (fun c_62 => ?_) (fun c_62 => ?_)
            · skip
              rw [nI_eq (by omega) (by omega)] at c_62
              refine lv_iconst (v := nI 1) hx hb d_Mo_isSign_80 (by decide) ?_
              refine lv_goto (tgt := 85) hx hb d_Mo_isSign_81 (by decide) ?_
              exact mk_ti (by exact mk_bt (by simp only [okS, decide_eq_true_eq]; omega)) (hret _ _ d_Mo_isSign_85)
            · skip
              rw [nI_eq (by omega) (by omega)] at c_62
              refine lv_iload_n hx hb d_Mo_isSign_44 rfl (lv_at hl 0 rfl) ?_
              refine lv_bipush (v := nI 45) hx hb d_Mo_isSign_45 (by decide) ?_
              refine lv_icmp_eq (tgt := 80) hx hb d_Mo_isSign_47 (by decide) (fun c_63 => ?_) (fun c_63 => ?_)
              · skip
                rw [nI_eq (by omega) (by omega)] at c_63
                refine lv_iconst (v := nI 1) hx hb d_Mo_isSign_80 (by decide) ?_
                refine lv_goto (tgt := 85) hx hb d_Mo_isSign_81 (by decide) ?_
                exact mk_ti (by exact mk_bt (by simp only [okS, decide_eq_true_eq]; omega)) (hret _ _ d_Mo_isSign_85)
              · skip
                rw [nI_eq (by omega) (by omega)] at c_63
                refine lv_iload_n hx hb d_Mo_isSign_50 rfl (lv_at hl 0 rfl) ?_
                refine lv_bipush (v := nI 94) hx hb d_Mo_isSign_51 (by decide) ?_
                refine lv_icmp_lt (tgt := 62) hx hb d_Mo_isSign_53 (by decide) (fun c_64 => ?_) (fun c_64 => ?_)
                · skip
                  rw [nI_ltI (by omega) (by omega)] at c_64
                  refine lv_iload_n hx hb d_Mo_isSign_62 rfl (lv_at hl 0 rfl) ?_
                  refine lv_bipush (v := nI 123) hx hb d_Mo_isSign_63 (by decide) ?_
                  refine lv_icmp_eq (tgt := 80) hx hb d_Mo_isSign_65 (by decide) (fun c_65 => ?_) (fun c_65 => ?_)
                  · skip
                    rw [nI_eq (by omega) (by omega)] at c_65
                    refine lv_iconst (v := nI 1) hx hb d_Mo_isSign_80 (by decide) ?_
                    refine lv_goto (tgt := 85) hx hb d_Mo_isSign_81 (by decide) ?_
                    exact mk_ti (by exact mk_bt (by simp only [okS, decide_eq_true_eq]; omega)) (hret _ _ d_Mo_isSign_85)
                  · skip
                    rw [nI_eq (by omega) (by omega)] at c_65
                    refine lv_iload_n hx hb d_Mo_isSign_68 rfl (lv_at hl 0 rfl) ?_
                    refine lv_bipush (v := nI 125) hx hb d_Mo_isSign_69 (by decide) ?_
                    refine lv_icmp_eq (tgt := 80) hx hb d_Mo_isSign_71 (by decide) (fun c_66 => ?_) (fun c_66 => ?_)
                    · skip
                      rw [nI_eq (by omega) (by omega)] at c_66
                      refine lv_iconst (v := nI 1) hx hb d_Mo_isSign_80 (by decide) ?_
                      refine lv_goto (tgt := 85) hx hb d_Mo_isSign_81 (by decide) ?_
                      exact mk_ti (by exact mk_bt (by simp only [okS, decide_eq_true_eq]; omega)) (hret _ _ d_Mo_isSign_85)
                    · skip
                      rw [nI_eq (by omega) (by omega)] at c_66
                      refine lv_iload_n hx hb d_Mo_isSign_74 rfl (lv_at hl 0 rfl) ?_
                      refine lv_bipush (v := nI 126) hx hb d_Mo_isSign_75 (by decide) ?_
                      refine lv_icmp_ne (tgt := 84) hx hb d_Mo_isSign_77 (by decide) (fun c_67 => ?_) (fun c_67 => ?_)
                      · skip
                        rw [nI_eq (by omega) (by omega)] at c_67
                        refine lv_iconst (v := nI 0) hx hb d_Mo_isSign_84 (by decide) ?_
                        exact mk_ti (by exact mk_bf (by simp only [okS, decide_eq_false_iff_not]; omega)) (hret _ _ d_Mo_isSign_85)
                      · skip
                        rw [nI_eq (by omega) (by omega)] at c_67
                        refine lv_iconst (v := nI 1) hx hb d_Mo_isSign_80 (by decide) ?_
                        refine lv_goto (tgt := 85) hx hb d_Mo_isSign_81 (by decide) ?_
                        exact mk_ti (by exact mk_bt (by simp only [okS, decide_eq_true_eq]; omega)) (hret _ _ d_Mo_isSign_85)
                · skip
                  rw [nI_ltI (by omega) (by omega)] at c_64
                  refine lv_iload_n hx hb d_Mo_isSign_56 rfl (lv_at hl 0 rfl) ?_
                  refine lv_bipush (v := nI 96) hx hb d_Mo_isSign_57 (by decide) ?_
                  refine lv_icmp_le (tgt := 80) hx hb d_Mo_isSign_59 (by decide) (fun c_68 => ?_) (fun c_68 => ?_)
                  · skip
                    rw [nI_leI (by omega) (by omega)] at c_68
                    refine lv_iconst (v := nI 1) hx hb d_Mo_isSign_80 (by decide) ?_
                    refine lv_goto (tgt := 85) hx hb d_Mo_isSign_81 (by decide) ?_
                    exact mk_ti (by exact mk_bt (by simp only [okS, decide_eq_true_eq]; omega)) (hret _ _ d_Mo_isSign_85)
                  · skip
                    rw [nI_leI (by omega) (by omega)] at c_68
                    refine lv_iload_n hx hb d_Mo_isSign_62 rfl (lv_at hl 0 rfl) ?_
                    refine lv_bipush (v := nI 123) hx hb d_Mo_isSign_63 (by decide) ?_
                    refine lv_icmp_eq (tgt := 80) hx hb d_Mo_isSign_65 (by decide) (fun c_69 => ?_) (fun c_69 => ?_)
                    · skip
                      rw [nI_eq (by omega) (by omega)] at c_69
                      refine lv_iconst (v := nI 1) hx hb d_Mo_isSign_80 (by decide) ?_
                      refine lv_goto (tgt := 85) hx hb d_Mo_isSign_81 (by decide) ?_
                      exact mk_ti (by exact mk_bt (by simp only [okS, decide_eq_true_eq]; omega)) (hret _ _ d_Mo_isSign_85)
                    · skip
                      rw [nI_eq (by omega) (by omega)] at c_69
                      refine lv_iload_n hx hb d_Mo_isSign_68 rfl (lv_at hl 0 rfl) ?_
                      refine lv_bipush (v := nI 125) hx hb d_Mo_isSign_69 (by decide) ?_
                      refine lv_icmp_eq (tgt := 80) hx hb d_Mo_isSign_71 (by decide) (fun c_70 => ?_) (fun c_70 => ?_)
                      · skip
                        rw [nI_eq (by omega) (by omega)] at c_70
                        refine lv_iconst (v := nI 1) hx hb d_Mo_isSign_80 (by decide) ?_
                        refine lv_goto (tgt := 85) hx hb d_Mo_isSign_81 (by decide) ?_
                        exact mk_ti (by exact mk_bt (by simp only [okS, decide_eq_true_eq]; omega)) (hret _ _ d_Mo_isSign_85)
                      · skip
                        rw [nI_eq (by omega) (by omega)] at c_70
                        refine lv_iload_n hx hb d_Mo_isSign_74 rfl (lv_at hl 0 rfl) ?_
                        refine lv_bipush (v := nI 126) hx hb d_Mo_isSign_75 (by decide) ?_
                        refine lv_icmp_ne (tgt := 84) hx hb d_Mo_isSign_77 (by decide) (fun c_71 => ?_) (fun c_71 => ?_)
                        · skip
                          rw [nI_eq (by omega) (by omega)] at c_71
                          refine lv_iconst (v := nI 0) hx hb d_Mo_isSign_84 (by decide) ?_
                          exact mk_ti (by exact mk_bf (by simp only [okS, decide_eq_false_iff_not]; omega)) (hret _ _ d_Mo_isSign_85)
                        · skip
                          rw [nI_eq (by omega) (by omega)] at c_71
                          refine lv_iconst (v := nI 1) hx hb d_Mo_isSign_80 (by decide) ?_
                          refine lv_goto (tgt := 85) hx hb d_Mo_isSign_81 (by decide) ?_
                          exact mk_ti (by exact mk_bt (by simp only [okS, decide_eq_true_eq]; omega)) (hret _ _ d_Mo_isSign_85)
          · skip
            rw [nI_ltI (by omega) (by omega)] at c_61
            refine lv_iconst (v := nI 1) hx hb d_Mo_isSign_36 (by decide) ?_
            exact mk_ti (by exact mk_bt (by simp only [okS, decide_eq_true_eq]; omega)) (hret _ _ d_Mo_isSign_37)
      · skip
        rw [nI_ltI (by omega) (by omega)] at c_49
        refine lv_iload_n hx hb d_Mo_isSign_18 rfl (lv_at hl 0 rfl) ?_
        refine lv_bipush (v := nI 57) hx hb d_Mo_isSign_19 (by decide) ?_
        refine lv_icmp_le (tgt := 36) hx hb d_Mo_isSign_21 (by decide) (fun c_72 => ?_) (fun c_72 => ?_)
        · skip
          rw [nI_leI (by omega) (by omega)] at c_72
          refine lv_iconst (v := nI 1) hx hb d_Mo_isSign_36 (by decide) ?_
          exact mk_ti (by exact mk_bt (by simp only [okS, decide_eq_true_eq]; omega)) (hret _ _ d_Mo_isSign_37)
        · skip
          rw [nI_leI (by omega) (by omega)] at c_72
          refine lv_iload_n hx hb d_Mo_isSign_24 rfl (lv_at hl 0 rfl) ?_
          refine lv_bipush (v := nI 35) hx hb d_Mo_isSign_25 (by decide) ?_
          refine lv_icmp_lt (tgt := 38) hx hb d_Mo_isSign_27 (by decide) (fun c_73 => ?_) (fun c_73 => ?_)
          · skip
            rw [nI_ltI (by omega) (by omega)] at c_73
            refine lv_iload_n hx hb d_Mo_isSign_38 rfl (lv_at hl 0 rfl) ?_
            refine lv_bipush (v := nI 33) hx hb d_Mo_isSign_39 (by decide) ?_
            refine lv_icmp_eq (tgt := 80) hx hb d_Mo_isSign_41 (by decide) (fun c_74 => ?_) (fun c_74 => ?_)
            · skip
              rw [nI_eq (by omega) (by omega)] at c_74
              refine lv_iconst (v := nI 1) hx hb d_Mo_isSign_80 (by decide) ?_
              refine lv_goto (tgt := 85) hx hb d_Mo_isSign_81 (by decide) ?_
              exact mk_ti (by exact mk_bt (by simp only [okS, decide_eq_true_eq]; omega)) (hret _ _ d_Mo_isSign_85)
            · skip
              rw [nI_eq (by omega) (by omega)] at c_74
              refine lv_iload_n hx hb d_Mo_isSign_44 rfl (lv_at hl 0 rfl) ?_
              refine lv_bipush (v := nI 45) hx hb d_Mo_isSign_45 (by decide) ?_
              refine lv_icmp_eq (tgt := 80) hx hb d_Mo_isSign_47 (by decide) (fun c_75 => ?_) (fun c_75 => ?_)
              · skip
                rw [nI_eq (by omega) (by omega)] at c_75
                refine lv_iconst (v := nI 1) hx hb d_Mo_isSign_80 (by decide) ?_
                refine lv_goto (tgt := 85) hx hb d_Mo_isSign_81 (by decide) ?_
                exact mk_ti (by exact mk_bt (by simp only [okS, decide_eq_true_eq]; omega)) (hret _ _ d_Mo_isSign_85)
              · skip
                rw [nI_eq (by omega) (by omega)] at c_75
                refine lv_iload_n hx hb d_Mo_isSign_50 rfl (lv_at hl 0 rfl) ?_
                refine lv_bipush (v := nI 94) hx hb d_Mo_isSign_51 (by decide) ?_
                refine lv_icmp_lt (tgt := 62) hx hb d_Mo_isSign_53 (by decide) (fun c_76 => ?_) (fun c_76 => ?_)
                · skip
                  rw [nI_ltI (by omega) (by omega)] at c_76
                  refine lv_iload_n hx hb d_Mo_isSign_62 rfl (lv_at hl 0 rfl) ?_
                  refine lv_bipush (v := nI 123) hx hb d_Mo_isSign_63 (by decide) ?_
                  refine lv_icmp_eq (tgt := 80) hx hb d_Mo_isSign_65 (by decide) (fun c_77 => ?_) (fun c_77 => ?_)
                  · skip
                    rw [nI_eq (by omega) (by omega)] at c_77
                    refine lv_iconst (v := nI 1) hx hb d_Mo_isSign_80 (by decide) ?_
                    refine lv_goto (tgt := 85) hx hb d_Mo_isSign_81 (by decide) ?_
                    exact mk_ti (by exact mk_bt (by simp only [okS, decide_eq_true_eq]; omega)) (hret _ _ d_Mo_isSign_85)
                  · skip
                    rw [nI_eq (by omega) (by omega)] at c_77
                    refine lv_iload_n hx hb d_Mo_isSign_68 rfl (lv_at hl 0 rfl) ?_
                    refine lv_bipush (v := nI 125) hx hb d_Mo_isSign_69 (by decide) ?_
                    refine lv_icmp_eq (tgt := 80) hx hb d_Mo_isSign_71 (by decide) (fun c_78 => ?_) (fun c_78 => ?_)
                    · skip
                      rw [nI_eq (by omega) (by omega)] at c_78
                      refine lv_iconst (v := nI 1) hx hb d_Mo_isSign_80 (by decide) ?_
                      refine lv_goto (tgt := 85) hx hb d_Mo_isSign_81 (by decide) ?_
                      exact mk_ti (by exact mk_bt (by simp only [okS, decide_eq_true_eq]; omega)) (hret _ _ d_Mo_isSign_85)
                    · skip
                      rw [nI_eq (by omega) (by omega)] at c_78
                      refine lv_iload_n hx hb d_Mo_isSign_74 rfl (lv_at hl 0 rfl) ?_
                      refine lv_bipush (v := nI 126) hx hb d_Mo_isSign_75 (by decide) ?_
                      refine lv_icmp_ne (tgt := 84) hx hb d_Mo_isSign_77 (by decide) (fun c_79 => ?_) (fun c_79 => ?_)
                      · skip
                        rw [nI_eq (by omega) (by omega)] at c_79
                        refine lv_iconst (v := nI 0) hx hb d_Mo_isSign_84 (by decide) ?_
                        exact mk_ti (by exact mk_bf (by simp only [okS, decide_eq_false_iff_not]; omega)) (hret _ _ d_Mo_isSign_85)
                      · skip
                        rw [nI_eq (by omega) (by omega)] at c_79
                        refine lv_iconst (v := nI 1) hx hb d_Mo_isSign_80 (by decide) ?_
                        refine lv_goto (tgt := 85) hx hb d_Mo_isSign_81 (by decide) ?_
                        exact mk_ti (by exact mk_bt (by simp only [okS, decide_eq_true_eq]; omega)) (hret _ _ d_Mo_isSign_85)
                · skip
                  rw [nI_ltI (by omega) (by omega)] at c_76
                  refine lv_iload_n hx hb d_Mo_isSign_56 rfl (lv_at hl 0 rfl) ?_
                  refine lv_bipush (v := nI 96) hx hb d_Mo_isSign_57 (by decide) ?_
                  refine lv_icmp_le (tgt := 80) hx hb d_Mo_isSign_59 (by decide) (fun c_80 => ?_) (fun c_80 => ?_)
                  · skip
                    rw [nI_leI (by omega) (by omega)] at c_80
                    refine lv_iconst (v := nI 1) hx hb d_Mo_isSign_80 (by decide) ?_
                    refine lv_goto (tgt := 85) hx hb d_Mo_isSign_81 (by decide) ?_
                    exact mk_ti (by exact mk_bt (by simp only [okS, decide_eq_true_eq]; omega)) (hret _ _ d_Mo_isSign_85)
                  · skip
                    rw [nI_leI (by omega) (by omega)] at c_80
                    refine lv_iload_n hx hb d_Mo_isSign_62 rfl (lv_at hl 0 rfl) ?_
                    refine lv_bipush (v := nI 123) hx hb d_Mo_isSign_63 (by decide) ?_
                    refine lv_icmp_eq (tgt := 80) hx hb d_Mo_isSign_65 (by decide) (fun c_81 => ?_) (fun c_81 => ?_)
                    · skip
                      rw [nI_eq (by omega) (by omega)] at c_81
                      refine lv_iconst (v := nI 1) hx hb d_Mo_isSign_80 (by decide) ?_
                      refine lv_goto (tgt := 85) hx hb d_Mo_isSign_81 (by decide) ?_
                      exact mk_ti (by exact mk_bt (by simp only [okS, decide_eq_true_eq]; omega)) (hret _ _ d_Mo_isSign_85)
                    · skip
                      rw [nI_eq (by omega) (by omega)] at c_81
                      refine lv_iload_n hx hb d_Mo_isSign_68 rfl (lv_at hl 0 rfl) ?_
                      refine lv_bipush (v := nI 125) hx hb d_Mo_isSign_69 (by decide) ?_
                      refine lv_icmp_eq (tgt := 80) hx hb d_Mo_isSign_71 (by decide) (fun c_82 => ?_) (fun c_82 => ?_)
                      · skip
                        rw [nI_eq (by omega) (by omega)] at c_82
                        refine lv_iconst (v := nI 1) hx hb d_Mo_isSign_80 (by decide) ?_
                        refine lv_goto (tgt := 85) hx hb d_Mo_isSign_81 (by decide) ?_
                        exact mk_ti (by exact mk_bt (by simp only [okS, decide_eq_true_eq]; omega)) (hret _ _ d_Mo_isSign_85)
                      · skip
                        rw [nI_eq (by omega) (by omega)] at c_82
                        refine lv_iload_n hx hb d_Mo_isSign_74 rfl (lv_at hl 0 rfl) ?_
                        refine lv_bipush (v := nI 126) hx hb d_Mo_isSign_75 (by decide) ?_
                        refine lv_icmp_ne (tgt := 84) hx hb d_Mo_isSign_77 (by decide) (fun c_83 => ?_) (fun c_83 => ?_)
                        · skip
                          rw [nI_eq (by omega) (by omega)] at c_83
                          refine lv_iconst (v := nI 0) hx hb d_Mo_isSign_84 (by decide) ?_
                          exact mk_ti (by exact mk_bf (by simp only [okS, decide_eq_false_iff_not]; omega)) (hret _ _ d_Mo_isSign_85)
                        · skip
                          rw [nI_eq (by omega) (by omega)] at c_83
                          refine lv_iconst (v := nI 1) hx hb d_Mo_isSign_80 (by decide) ?_
                          refine lv_goto (tgt := 85) hx hb d_Mo_isSign_81 (by decide) ?_
                          exact mk_ti (by exact mk_bt (by simp only [okS, decide_eq_true_eq]; omega)) (hret _ _ d_Mo_isSign_85)
          · skip
            rw [nI_ltI (by omega) (by omega)] at c_73
            refine lv_iload_n hx hb d_Mo_isSign_30 rfl (lv_at hl 0 rfl) ?_
            refine lv_bipush (v := nI 41) hx hb d_Mo_isSign_31 (by decide) ?_
            refine lv_icmp_gt (tgt := 38) hx hb d_Mo_isSign_33 (by decide) (fun c_84 => ?_) (fun c_84 => ?_)
            · skip
              rw [nI_ltI (by omega) (by omega)] at c_84
              refine lv_iload_n hx hb d_Mo_isSign_38 rfl (lv_at hl 0 rfl) ?_
              refine lv_bipush (v := nI 33) hx hb d_Mo_isSign_39 (by decide) ?_
              refine lv_icmp_eq (tgt := 80) hx hb d_Mo_isSign_41 (by decide) (fun c_85 => ?_) (fun c_85 => ?_)
              · skip
                rw [nI_eq (by omega) (by omega)] at c_85
                refine lv_iconst (v := nI 1) hx hb d_Mo_isSign_80 (by decide) ?_
                refine lv_goto (tgt := 85) hx hb d_Mo_isSign_81 (by decide) ?_
                exact mk_ti (by exact mk_bt (by simp only [okS, decide_eq_true_eq]; omega)) (hret _ _ d_Mo_isSign_85)
              · skip
                rw [nI_eq (by omega) (by omega)] at c_85
                refine lv_iload_n hx hb d_Mo_isSign_44 rfl (lv_at hl 0 rfl) ?_
                refine lv_bipush (v := nI 45) hx hb d_Mo_isSign_45 (by decide) ?_
                refine lv_icmp_eq (tgt := 80) hx hb d_Mo_isSign_47 (by decide) (fun c_86 => ?_) (fun c_86 => ?_)
                · skip
                  rw [nI_eq (by omega) (by omega)] at c_86
                  refine lv_iconst (v := nI 1) hx hb d_Mo_isSign_80 (by decide) ?_
                  refine lv_goto (tgt := 85) hx hb d_Mo_isSign_81 (by decide) ?_
                  exact mk_ti (by exact mk_bt (by simp only [okS, decide_eq_true_eq]; omega)) (hret _ _ d_Mo_isSign_85)
                · skip
                  rw [nI_eq (by omega) (by omega)] at c_86
                  refine lv_iload_n hx hb d_Mo_isSign_50 rfl (lv_at hl 0 rfl) ?_
                  refine lv_bipush (v := nI 94) hx hb d_Mo_isSign_51 (by decide) ?_
                  refine lv_icmp_lt (tgt := 62) hx hb d_Mo_isSign_53 (by decide) (fun c_87 => ?_) (fun c_87 => ?_)
                  · skip
                    rw [nI_ltI (by omega) (by omega)] at c_87
                    refine lv_iload_n hx hb d_Mo_isSign_62 rfl (lv_at hl 0 rfl) ?_
                    refine lv_bipush (v := nI 123) hx hb d_Mo_isSign_63 (by decide) ?_
                    refine lv_icmp_eq (tgt := 80) hx hb d_Mo_isSign_65 (by decide) (fun c_88 => ?_) (fun c_88 => ?_)
                    · skip
                      rw [nI_eq (by omega) (by omega)] at c_88
                      refine lv_iconst (v := nI 1) hx hb d_Mo_isSign_80 (by decide) ?_
                      refine lv_goto (tgt := 85) hx hb d_Mo_isSign_81 (by decide) ?_
                      exact mk_ti (by exact mk_bt (by simp only [okS, decide_eq_true_eq]; omega)) (hret _ _ d_Mo_isSign_85)
                    · skip
                      rw [nI_eq (by omega) (by omega)] at c_88
                      refine lv_iload_n hx hb d_Mo_isSign_68 rfl (lv_at hl 0 rfl) ?_
                      refine lv_bipush (v := nI 125) hx hb d_Mo_isSign_69 (by decide) ?_
                      refine lv_icmp_eq (tgt := 80) hx hb d_Mo_isSign_71 (by decide) (fun c_89 => ?_) (fun c_89 => ?_)
                      · skip
                        rw [nI_eq (by omega) (by omega)] at c_89
                        refine lv_iconst (v := nI 1) hx hb d_Mo_isSign_80 (by decide) ?_
                        refine lv_goto (tgt := 85) hx hb d_Mo_isSign_81 (by decide) ?_
                        exact mk_ti (by exact mk_bt (by simp only [okS, decide_eq_true_eq]; omega)) (hret _ _ d_Mo_isSign_85)
                      · skip
                        rw [nI_eq (by omega) (by omega)] at c_89
                        refine lv_iload_n hx hb d_Mo_isSign_74 rfl (lv_at hl 0 rfl) ?_
                        refine lv_bipush (v := nI 126) hx hb d_Mo_isSign_75 (by decide) ?_
                        refine lv_icmp_ne (tgt := 84) hx hb d_Mo_isSign_77 (by decide) (fun c_90 => ?_) (fun c_90 => ?_)
                        · skip
                          rw [nI_eq (by omega) (by omega)] at c_90
                          refine lv_iconst (v := nI 0) hx hb d_Mo_isSign_84 (by decide) ?_
                          exact mk_ti (by exact mk_bf (by simp only [okS, decide_eq_false_iff_not]; omega)) (hret _ _ d_Mo_isSign_85)
                        · skip
                          rw [nI_eq (by omega) (by omega)] at c_90
                          refine lv_iconst (v := nI 1) hx hb d_Mo_isSign_80 (by decide) ?_
                          refine lv_goto (tgt := 85) hx hb d_Mo_isSign_81 (by decide) ?_
                          exact mk_ti (by exact mk_bt (by simp only [okS, decide_eq_true_eq]; omega)) (hret _ _ d_Mo_isSign_85)
                  · skip
                    rw [nI_ltI (by omega) (by omega)] at c_87
                    refine lv_iload_n hx hb d_Mo_isSign_56 rfl (lv_at hl 0 rfl) ?_
                    refine lv_bipush (v := nI 96) hx hb d_Mo_isSign_57 (by decide) ?_
                    refine lv_icmp_le (tgt := 80) hx hb d_Mo_isSign_59 (by decide) (fun c_91 => ?_) (fun c_91 => ?_)
                    · skip
                      rw [nI_leI (by omega) (by omega)] at c_91
                      refine lv_iconst (v := nI 1) hx hb d_Mo_isSign_80 (by decide) ?_
                      refine lv_goto (tgt := 85) hx hb d_Mo_isSign_81 (by decide) ?_
                      exact mk_ti (by exact mk_bt (by simp only [okS, decide_eq_true_eq]; omega)) (hret _ _ d_Mo_isSign_85)
                    · skip
                      rw [nI_leI (by omega) (by omega)] at c_91
                      refine lv_iload_n hx hb d_Mo_isSign_62 rfl (lv_at hl 0 rfl) ?_
                      refine lv_bipush (v := nI 123) hx hb d_Mo_isSign_63 (by decide) ?_
                      refine lv_icmp_eq (tgt := 80) hx hb d_Mo_isSign_65 (by decide) (fun c_92 => ?_) (fun c_92 => ?_)
                      · skip
                        rw [nI_eq (by omega) (by omega)] at c_92
                        refine lv_iconst (v := nI 1) hx hb d_Mo_isSign_80 (by decide) ?_
                        refine lv_goto (tgt := 85) hx hb d_Mo_isSign_81 (by decide) ?_
                        exact mk_ti (by exact mk_bt (by simp only [okS, decide_eq_true_eq]; omega)) (hret _ _ d_Mo_isSign_85)
                      · skip
                        rw [nI_eq (by omega) (by omega)] at c_92
                        refine lv_iload_n hx hb d_Mo_isSign_68 rfl (lv_at hl 0 rfl) ?_
                        refine lv_bipush (v := nI 125) hx hb d_Mo_isSign_69 (by decide) ?_
                        refine lv_icmp_eq (tgt := 80) hx hb d_Mo_isSign_71 (by decide) (fun c_93 => ?_) (fun c_93 => ?_)
                        · skip
                          rw [nI_eq (by omega) (by omega)] at c_93
                          refine lv_iconst (v := nI 1) hx hb d_Mo_isSign_80 (by decide) ?_
                          refine lv_goto (tgt := 85) hx hb d_Mo_isSign_81 (by decide) ?_
                          exact mk_ti (by exact mk_bt (by simp only [okS, decide_eq_true_eq]; omega)) (hret _ _ d_Mo_isSign_85)
                        · skip
                          rw [nI_eq (by omega) (by omega)] at c_93
                          refine lv_iload_n hx hb d_Mo_isSign_74 rfl (lv_at hl 0 rfl) ?_
                          refine lv_bipush (v := nI 126) hx hb d_Mo_isSign_75 (by decide) ?_
                          refine lv_icmp_ne (tgt := 84) hx hb d_Mo_isSign_77 (by decide) (fun c_94 => ?_) (fun c_94 => ?_)
                          · skip
                            rw [nI_eq (by omega) (by omega)] at c_94
                            refine lv_iconst (v := nI 0) hx hb d_Mo_isSign_84 (by decide) ?_
                            exact mk_ti (by exact mk_bf (by simp only [okS, decide_eq_false_iff_not]; omega)) (hret _ _ d_Mo_isSign_85)
                          · skip
                            rw [nI_eq (by omega) (by omega)] at c_94
                            refine lv_iconst (v := nI 1) hx hb d_Mo_isSign_80 (by decide) ?_
                            refine lv_goto (tgt := 85) hx hb d_Mo_isSign_81 (by decide) ?_
                            exact mk_ti (by exact mk_bt (by simp only [okS, decide_eq_true_eq]; omega)) (hret _ _ d_Mo_isSign_85)
            · skip
              rw [nI_ltI (by omega) (by omega)] at c_84
              refine lv_iconst (v := nI 1) hx hb d_Mo_isSign_36 (by decide) ?_
              exact mk_ti (by exact mk_bt (by simp only [okS, decide_eq_true_eq]; omega)) (hret _ _ d_Mo_isSign_37)

set_option maxHeartbeats 1000000 in
set_option maxRecDepth 100000 in
theorem c_Mo_cap (l : Launch) (dC : Nat → ClassId) (dI : Nat → Nat → Nat) (cI : ClassId) (u : Nat) (hu : u < 65536) : mR l y_Mo_capital w_Mo_capital ({ frames := 0, cells := 0, slots := 0, locals := 0 } : Room) [.int (nI u)] (dC, dI) vwCl [(cI, .int)] [] (some (.int (nI (capN u)))) := by
  refine mk_Ri (cc := b_Mo_capital) (maxL := 1) (by decide) rfl (Nat.le_of_ble_eq_true rfl) rfl ?_
  intro p e s m below meth c Q A ls S hP hK hT hS hl hret
  obtain ⟨hx, hb, hml, hown, hts⟩ := id S
  have hl : lv_has ls 1 [(0, .int (nI u))] := hl
  refine lv_iload_n hx hb d_Mo_capital_0 rfl (lv_at hl 0 rfl) ?_
  refine lv_bipush (v := nI 97) hx hb d_Mo_capital_1 (by decide) ?_
  refine lv_icmp_lt (tgt := 19) hx hb d_Mo_capital_3 (by decide) (fun c_1 => ?_) (fun c_1 => ?_)
  · skip
    rw [nI_ltI (by omega) (by omega)] at c_1
    refine lv_iload_n hx hb d_Mo_capital_19 rfl (lv_at hl 0 rfl) ?_
    exact mk_ti (by congr 1; unfold capN; (repeat' split) <;> omega) (hret _ _ d_Mo_capital_20)
  · skip
    rw [nI_ltI (by omega) (by omega)] at c_1
    refine lv_iload_n hx hb d_Mo_capital_6 rfl (lv_at hl 0 rfl) ?_
    refine lv_bipush (v := nI 122) hx hb d_Mo_capital_7 (by decide) ?_
    refine lv_icmp_gt (tgt := 19) hx hb d_Mo_capital_9 (by decide) (fun c_2 => ?_) (fun c_2 => ?_)
    · skip
      rw [nI_ltI (by omega) (by omega)] at c_2
      refine lv_iload_n hx hb d_Mo_capital_19 rfl (lv_at hl 0 rfl) ?_
      exact mk_ti (by congr 1; unfold capN; (repeat' split) <;> omega) (hret _ _ d_Mo_capital_20)
    · skip
      rw [nI_ltI (by omega) (by omega)] at c_2
      refine lv_iload_n hx hb d_Mo_capital_12 rfl (lv_at hl 0 rfl) ?_
      refine lv_bipush (v := nI 32) hx hb d_Mo_capital_13 (by decide) ?_
      refine lv_isub hx hb d_Mo_capital_15 ?_
      refine mk_ti (y := nI (u - 32)) (pk_sub (by omega)) ?_
      refine lv_goto (tgt := 20) hx hb d_Mo_capital_16 (by decide) ?_
      exact mk_ti (by congr 1; unfold capN; (repeat' split) <;> omega) (hret _ _ d_Mo_capital_20)

set_option maxHeartbeats 1000000 in
set_option maxRecDepth 100000 in
theorem c_Mo_fold (l : Launch) (dC : Nat → ClassId) (dI : Nat → Nat → Nat) (cI : ClassId) (u : Nat) (hu : u < 65536) : mR l y_Mo_folded w_Mo_folded ({ frames := 1, cells := 0, slots := 0, locals := 20 } : Room) [.int (nI u)] (dC, dI) vwCl [(cI, .int)] [] (some (.int (nI (foN u)))) := by
  have := capN_le u
  refine mk_Ri (cc := b_Mo_folded) (maxL := 1) (by decide) rfl (Nat.le_of_ble_eq_true rfl) rfl ?_
  intro p e s m below meth c Q A ls S hP hK hT hS hl hret
  obtain ⟨hx, hb, hml, hown, hts⟩ := id S
  have hl : lv_has ls 1 [(0, .int (nI u))] := hl
  refine lv_iload_n hx hb d_Mo_folded_0 rfl (lv_at hl 0 rfl) ?_
  refine lv_bipush (v := nI 32) hx hb d_Mo_folded_1 (by decide) ?_
  refine lv_icmp_eq (tgt := 12) hx hb d_Mo_folded_3 (by decide) (fun c_1 => ?_) (fun c_1 => ?_)
  · skip
    rw [nI_eq (by omega) (by omega)] at c_1
    refine lv_iconst (v := nI 0) hx hb d_Mo_folded_12 (by decide) ?_
    exact mk_ti (by rw [foN, if_pos (by omega)]) (hret _ _ d_Mo_folded_13)
  · skip
    rw [nI_eq (by omega) (by omega)] at c_1
    refine lv_iload_n hx hb d_Mo_folded_6 rfl (lv_at hl 0 rfl) ?_
    refine lv_bipush (v := nI 46) hx hb d_Mo_folded_7 (by decide) ?_
    refine lv_icmp_ne (tgt := 14) hx hb d_Mo_folded_9 (by decide) (fun c_2 => ?_) (fun c_2 => ?_)
    · skip
      rw [nI_eq (by omega) (by omega)] at c_2
      refine lv_iload_n hx hb d_Mo_folded_14 rfl (lv_at hl 0 rfl) ?_
      refine mk_r1 (W.runS (As := [.int (nI u)]) (rest := []) S (c_Mo_cap l dC dI cI u (by first | assumption | omega)) (gS 1 hts k_597 k_598 k_29 k_599 (by decide +kernel) ⟨Nat.le_of_ble_eq_true rfl, Nat.le_of_ble_eq_true rfl⟩) (mk_sR hP hK hT hS [] rfl) rfl rfl hl.1 rfl (lv_room (Nat.le_of_ble_eq_true rfl)) d_Mo_folded_15 ⟨Nat.zero_le _, Nat.zero_le _⟩) ?_
      have b_3 := capN_le u
      refine mk_r1 (W.runS (As := [.int (nI (capN u))]) (rest := []) S (c_Mo_sign l dC dI cI (capN u) (by first | assumption | omega)) (gS 1 hts k_580 k_581 k_29 k_582 (by decide +kernel) ⟨Nat.le_of_ble_eq_true rfl, Nat.le_of_ble_eq_true rfl⟩) (mk_sR hP hK hT hS [] rfl) rfl rfl hl.1 rfl (lv_room (Nat.le_of_ble_eq_true rfl)) d_Mo_folded_18 ⟨Nat.zero_le _, Nat.zero_le _⟩) ?_
      refine lv_if_eq (tgt := 31) hx hb d_Mo_folded_21 (by decide) (fun c_4 => ?_) (fun c_4 => ?_)
      · skip
        have c_4 := bI_0 c_4
        refine lv_bipush (v := nI 95) hx hb d_Mo_folded_31 (by decide) ?_
        exact mk_ti (by rw [foN, if_neg (by omega), shoN, if_neg (by simp [c_4])]) (hret _ _ d_Mo_folded_33)
      · skip
        have c_4 := bI_1 c_4
        refine lv_iload_n hx hb d_Mo_folded_24 rfl (lv_at hl 0 rfl) ?_
        refine mk_r1 (W.runS (As := [.int (nI u)]) (rest := []) S (c_Mo_cap l dC dI cI u (by first | assumption | omega)) (gS 1 hts k_597 k_598 k_29 k_599 (by decide +kernel) ⟨Nat.le_of_ble_eq_true rfl, Nat.le_of_ble_eq_true rfl⟩) (mk_sR hP hK hT hS [] rfl) rfl rfl hl.1 rfl (lv_room (Nat.le_of_ble_eq_true rfl)) d_Mo_folded_25 ⟨Nat.zero_le _, Nat.zero_le _⟩) ?_
        have b_5 := capN_le u
        refine lv_goto (tgt := 33) hx hb d_Mo_folded_28 (by decide) ?_
        exact mk_ti (by rw [foN, if_neg (by omega), shoN, if_pos (by simp [c_4])]) (hret _ _ d_Mo_folded_33)
    · skip
      rw [nI_eq (by omega) (by omega)] at c_2
      refine lv_iconst (v := nI 0) hx hb d_Mo_folded_12 (by decide) ?_
      exact mk_ti (by rw [foN, if_pos (by omega)]) (hret _ _ d_Mo_folded_13)

set_option maxHeartbeats 1000000 in
set_option maxRecDepth 100000 in
theorem c_Mo_place (l : Launch) (dC : Nat → ClassId) (dI : Nat → Nat → Nat) (cI : ClassId) (j : Nat) (hj : j < 13) : mR l y_Mo_placeOf w_Mo_placeOf ({ frames := 0, cells := 0, slots := 0, locals := 0 } : Room) [.int (nI j)] (dC, dI) vwCl [(cI, .int)] [] (some (.int (nI (plN j)))) := by
  refine mk_Ri (cc := b_Mo_placeOf) (maxL := 1) (by decide) rfl (Nat.le_of_ble_eq_true rfl) rfl ?_
  intro p e s m below meth c Q A ls S hP hK hT hS hl hret
  obtain ⟨hx, hb, hml, hown, hts⟩ := id S
  have hl : lv_has ls 1 [(0, .int (nI j))] := hl
  refine lv_iload_n hx hb d_Mo_placeOf_0 rfl (lv_at hl 0 rfl) ?_
  refine lv_iconst (v := nI 5) hx hb d_Mo_placeOf_1 (by decide) ?_
  refine lv_icmp_ge (tgt := 13) hx hb d_Mo_placeOf_2 (by decide) (fun c_1 => ?_) (fun c_1 => ?_)
  · skip
    rw [nI_leI (by omega) (by omega)] at c_1
    refine lv_iload_n hx hb d_Mo_placeOf_13 rfl (lv_at hl 0 rfl) ?_
    refine lv_bipush (v := nI 11) hx hb d_Mo_placeOf_14 (by decide) ?_
    refine lv_icmp_ge (tgt := 30) hx hb d_Mo_placeOf_16 (by decide) (fun c_2 => ?_) (fun c_2 => ?_)
    · skip
      rw [nI_leI (by omega) (by omega)] at c_2
      refine lv_bipush (v := nI 28) hx hb d_Mo_placeOf_30 (by decide) ?_
      refine lv_iconst (v := nI 2) hx hb d_Mo_placeOf_32 (by decide) ?_
      refine lv_iload_n hx hb d_Mo_placeOf_33 rfl (lv_at hl 0 rfl) ?_
      refine lv_bipush (v := nI 11) hx hb d_Mo_placeOf_34 (by decide) ?_
      refine lv_isub hx hb d_Mo_placeOf_36 ?_
      refine mk_ti (y := nI (j - 11)) (pk_sub (by omega)) ?_
      refine lv_imul hx hb d_Mo_placeOf_37 ?_
      refine mk_ti (y := nI (2 * (j - 11))) (pk_mul 2 (j - 11)) ?_
      refine lv_iadd hx hb d_Mo_placeOf_38 ?_
      refine mk_ti (y := nI (28 + 2 * (j - 11))) (nI_add 28 (2 * (j - 11))) ?_
      exact mk_ti (by congr 1; unfold plN; (repeat' split) <;> omega) (hret _ _ d_Mo_placeOf_39)
    · skip
      rw [nI_leI (by omega) (by omega)] at c_2
      refine lv_bipush (v := nI 14) hx hb d_Mo_placeOf_19 (by decide) ?_
      refine lv_iconst (v := nI 2) hx hb d_Mo_placeOf_21 (by decide) ?_
      refine lv_iload_n hx hb d_Mo_placeOf_22 rfl (lv_at hl 0 rfl) ?_
      refine lv_iconst (v := nI 5) hx hb d_Mo_placeOf_23 (by decide) ?_
      refine lv_isub hx hb d_Mo_placeOf_24 ?_
      refine mk_ti (y := nI (j - 5)) (pk_sub (by omega)) ?_
      refine lv_imul hx hb d_Mo_placeOf_25 ?_
      refine mk_ti (y := nI (2 * (j - 5))) (pk_mul 2 (j - 5)) ?_
      refine lv_iadd hx hb d_Mo_placeOf_26 ?_
      refine mk_ti (y := nI (14 + 2 * (j - 5))) (nI_add 14 (2 * (j - 5))) ?_
      refine lv_goto (tgt := 39) hx hb d_Mo_placeOf_27 (by decide) ?_
      exact mk_ti (by congr 1; unfold plN; (repeat' split) <;> omega) (hret _ _ d_Mo_placeOf_39)
  · skip
    rw [nI_leI (by omega) (by omega)] at c_1
    refine lv_iconst (v := nI 1) hx hb d_Mo_placeOf_5 (by decide) ?_
    refine lv_iconst (v := nI 2) hx hb d_Mo_placeOf_6 (by decide) ?_
    refine lv_iload_n hx hb d_Mo_placeOf_7 rfl (lv_at hl 0 rfl) ?_
    refine lv_imul hx hb d_Mo_placeOf_8 ?_
    refine mk_ti (y := nI (2 * j)) (pk_mul 2 j) ?_
    refine lv_iadd hx hb d_Mo_placeOf_9 ?_
    refine mk_ti (y := nI (1 + 2 * j)) (nI_add 1 (2 * j)) ?_
    refine lv_goto (tgt := 39) hx hb d_Mo_placeOf_10 (by decide) ?_
    exact mk_ti (by congr 1; unfold plN; (repeat' split) <;> omega) (hret _ _ d_Mo_placeOf_39)

set_option maxHeartbeats 1000000 in
set_option maxRecDepth 100000 in
theorem c_Mo_due (l : Launch) (dC : Nat → ClassId) (dI : Nat → Nat → Nat) (cI : ClassId) (b9 q l9 su : Nat) (hb : b9 < 32) (hl9 : l9 < 2) : mR l y_Mo_due w_Mo_due ({ frames := 0, cells := 0, slots := 0, locals := 0 } : Room) [.int (nI b9), .int (nI q), .int (nI l9), .int (nI su)] (dC, dI) vwCl [(cI, .int)] [] (some (.int (nI (duN b9 q l9 su)))) := by
  refine mk_Ri (cc := b_Mo_due) (maxL := 4) (by decide) rfl (Nat.le_of_ble_eq_true rfl) rfl ?_
  intro p e s m below meth c Q A ls S hP hK hT hS hl hret
  obtain ⟨hx, hb, hml, hown, hts⟩ := id S
  have hl : lv_has ls 4 [(0, .int (nI b9)), (1, .int (nI q)), (2, .int (nI l9)), (3, .int (nI su))] := hl
  refine lv_iload_n hx hb d_Mo_due_0 rfl (lv_at hl 0 rfl) ?_
  by_cases c_1 : b9 = 0
  · skip
    refine lv_lookup (off := 35) (tgt := 36) hx hb d_Mo_due_1 (by decide) (by rw [c_1]; decide) (by decide) ?_
    refine lv_iload_n hx hb d_Mo_due_36 rfl (lv_at hl 1 rfl) ?_
    refine lv_iload_n hx hb d_Mo_due_37 rfl (lv_at hl 2 rfl) ?_
    refine lv_if_eq (tgt := 46) hx hb d_Mo_due_38 (by decide) (fun c_2 => ?_) (fun c_2 => ?_)
    · skip
      rw [mk_ceq (by omega)] at c_2
      refine lv_iconst (v := nI 0) hx hb d_Mo_due_46 (by decide) ?_
      refine lv_iadd hx hb d_Mo_due_47 ?_
      refine mk_ti (y := nI (q + 0)) (nI_add q 0) ?_
      exact mk_ti (by congr 1; unfold duN; (repeat' split) <;> omega) (hret _ _ d_Mo_due_48)
    · skip
      rw [mk_ceq (by omega)] at c_2
      refine lv_bipush (v := nI 64) hx hb d_Mo_due_41 (by decide) ?_
      refine lv_goto (tgt := 47) hx hb d_Mo_due_43 (by decide) ?_
      refine lv_iadd hx hb d_Mo_due_47 ?_
      refine mk_ti (y := nI (q + 64)) (nI_add q 64) ?_
      exact mk_ti (by congr 1; unfold duN; (repeat' split) <;> omega) (hret _ _ d_Mo_due_48)
  by_cases c_3 : b9 = 11
  · skip
    refine lv_lookup (off := 48) (tgt := 49) hx hb d_Mo_due_1 (by decide) (by rw [c_3]; decide) (by decide) ?_
    refine lv_bipush (v := nI 15) hx hb d_Mo_due_49 (by decide) ?_
    exact mk_ti (by congr 1; unfold duN; (repeat' split) <;> omega) (hret _ _ d_Mo_due_51)
  by_cases c_4 : b9 = 13
  · skip
    refine lv_lookup (off := 51) (tgt := 52) hx hb d_Mo_due_1 (by decide) (by rw [c_4]; decide) (by decide) ?_
    refine lv_iload_n hx hb d_Mo_due_52 rfl (lv_at hl 3 rfl) ?_
    exact mk_ti (by congr 1; unfold duN; (repeat' split) <;> omega) (hret _ _ d_Mo_due_53)
  refine lv_lookup (off := 53) (tgt := 54) hx hb d_Mo_due_1 (by decide) (by show Op.lookupswitch.offset [(0, 35), (11, 48), (13, 51)] 53 (nI b9).toInt = 53; rw [lv_osw (mk_ne c_1 (by omega) (by decide)) (by decide)]; rw [lv_osw (mk_ne c_3 (by omega) (by decide)) (by decide)]; rw [lv_osw (mk_ne c_4 (by omega) (by decide)) (by decide)]; rfl) (by decide) ?_
  refine lv_iconst (v := nI 0) hx hb d_Mo_due_54 (by decide) ?_
  exact mk_ti (by congr 1; unfold duN; (repeat' split) <;> omega) (hret _ _ d_Mo_due_55)

set_option maxHeartbeats 1000000 in
set_option maxRecDepth 100000 in
theorem c_Mo_byN (l : Launch) (dC : Nat → ClassId) (dI : Nat → Nat → Nat) (cI : ClassId) (k j : Nat) (hk : k < 32) (hj : j < 32) : mR l y_Mo_isByte w_Mo_isByte ({ frames := 0, cells := 0, slots := 0, locals := 0 } : Room) [.int (nI k), .int (nI j)] (dC, dI) vwCl [(cI, .int)] [] (some (.int (nI 1))) := by
  refine mk_Ri (cc := b_Mo_isByte) (maxL := 2) (by decide) rfl (Nat.le_of_ble_eq_true rfl) (rfl) ?_
  intro p e s m below meth c Q A ls S hP hK hT hS hl hret
  obtain ⟨hx, hb, hml, hown, hts⟩ := id S
  have hl : lv_has ls 2 [(0, .int (nI k)), (1, .int (nI j))] := hl
  refine lv_iload_n hx hb d_Mo_isByte_0 rfl (lv_at hl 0 rfl) ?_
  refine lv_if_lt (tgt := 24) hx hb d_Mo_isByte_1 (by decide) (fun c_1 => ?_) (fun c_1 => ?_)
  · skip
    rw [mk_clt (by omega)] at c_1
    first | omega | contradiction
  · skip
    rw [mk_clt (by omega)] at c_1
    refine lv_iload_n hx hb d_Mo_isByte_4 rfl (lv_at hl 0 rfl) ?_
    refine lv_bipush (v := nI 32) hx hb d_Mo_isByte_5 (by decide) ?_
    refine lv_icmp_ge (tgt := 24) hx hb d_Mo_isByte_7 (by decide) (fun c_2 => ?_) (fun c_2 => ?_)
    · skip
      rw [nI_leI (by omega) (by omega)] at c_2
      first | omega | contradiction
    · skip
      rw [nI_leI (by omega) (by omega)] at c_2
      refine lv_iload_n hx hb d_Mo_isByte_10 rfl (lv_at hl 1 rfl) ?_
      refine lv_if_lt (tgt := 24) hx hb d_Mo_isByte_11 (by decide) (fun c_3 => ?_) (fun c_3 => ?_)
      · skip
        rw [mk_clt (by omega)] at c_3
        first | omega | contradiction
      · skip
        rw [mk_clt (by omega)] at c_3
        refine lv_iload_n hx hb d_Mo_isByte_14 rfl (lv_at hl 1 rfl) ?_
        refine lv_bipush (v := nI 32) hx hb d_Mo_isByte_15 (by decide) ?_
        refine lv_icmp_ge (tgt := 24) hx hb d_Mo_isByte_17 (by decide) (fun c_4 => ?_) (fun c_4 => ?_)
        · skip
          rw [nI_leI (by omega) (by omega)] at c_4
          first | omega | contradiction
        · skip
          rw [nI_leI (by omega) (by omega)] at c_4
          refine lv_iconst (v := nI 1) hx hb d_Mo_isByte_20 (by decide) ?_
          refine lv_goto (tgt := 25) hx hb d_Mo_isByte_21 (by decide) ?_
          exact hret _ _ d_Mo_isByte_25

set_option maxHeartbeats 1000000 in
set_option maxRecDepth 100000 in
theorem c_Mo_byY (l : Launch) (dC : Nat → ClassId) (dI : Nat → Nat → Nat) (cI : ClassId) (k : Nat) (x : Int32) (hk : k < 32) (hj : x < 0 ∨ nI 32 ≤ x) : mR l y_Mo_isByte w_Mo_isByte ({ frames := 0, cells := 0, slots := 0, locals := 0 } : Room) [.int (nI k), .int x] (dC, dI) vwCl [(cI, .int)] [] (some (.int (nI 0))) := by
  refine mk_Ri (cc := b_Mo_isByte) (maxL := 2) (by decide) rfl (Nat.le_of_ble_eq_true rfl) (rfl) ?_
  intro p e s m below meth c Q A ls S hP hK hT hS hl hret
  obtain ⟨hx, hb, hml, hown, hts⟩ := id S
  have hl : lv_has ls 2 [(0, .int (nI k)), (1, .int x)] := hl
  refine lv_iload_n hx hb d_Mo_isByte_0 rfl (lv_at hl 0 rfl) ?_
  refine lv_if_lt (tgt := 24) hx hb d_Mo_isByte_1 (by decide) (fun c_1 => ?_) (fun c_1 => ?_)
  · skip
    rw [mk_clt (by omega)] at c_1
    first | omega | contradiction
  · skip
    rw [mk_clt (by omega)] at c_1
    refine lv_iload_n hx hb d_Mo_isByte_4 rfl (lv_at hl 0 rfl) ?_
    refine lv_bipush (v := nI 32) hx hb d_Mo_isByte_5 (by decide) ?_
    refine lv_icmp_ge (tgt := 24) hx hb d_Mo_isByte_7 (by decide) (fun c_2 => ?_) (fun c_2 => ?_)
    · skip
      rw [nI_leI (by omega) (by omega)] at c_2
      first | omega | contradiction
    · skip
      rw [nI_leI (by omega) (by omega)] at c_2
      refine lv_iload_n hx hb d_Mo_isByte_10 rfl (lv_at hl 1 rfl) ?_
      refine lv_if_lt (tgt := 24) hx hb d_Mo_isByte_11 (by decide) (fun c_3 => ?_) (fun c_3 => ?_)
      · skip
        refine lv_iconst (v := nI 0) hx hb d_Mo_isByte_24 (by decide) ?_
        exact hret _ _ d_Mo_isByte_25
      · skip
        refine lv_iload_n hx hb d_Mo_isByte_14 rfl (lv_at hl 1 rfl) ?_
        refine lv_bipush (v := nI 32) hx hb d_Mo_isByte_15 (by decide) ?_
        refine lv_icmp_ge (tgt := 24) hx hb d_Mo_isByte_17 (by decide) (fun c_4 => ?_) (fun c_4 => ?_)
        · skip
          refine lv_iconst (v := nI 0) hx hb d_Mo_isByte_24 (by decide) ?_
          exact hret _ _ d_Mo_isByte_25
        · skip
          rcases hj with h9 | h9 <;> contradiction

set_option maxHeartbeats 1000000 in
set_option maxRecDepth 100000 in
theorem c_Mo_byX (l : Launch) (dC : Nat → ClassId) (dI : Nat → Nat → Nat) (cI : ClassId) (x z : Int32) (hk : x < 0 ∨ nI 32 ≤ x) : mR l y_Mo_isByte w_Mo_isByte ({ frames := 0, cells := 0, slots := 0, locals := 0 } : Room) [.int x, .int z] (dC, dI) vwCl [(cI, .int)] [] (some (.int (nI 0))) := by
  refine mk_Ri (cc := b_Mo_isByte) (maxL := 2) (by decide) rfl (Nat.le_of_ble_eq_true rfl) (rfl) ?_
  intro p e s m below meth c Q A ls S hP hK hT hS hl hret
  obtain ⟨hx, hb, hml, hown, hts⟩ := id S
  have hl : lv_has ls 2 [(0, .int x), (1, .int z)] := hl
  refine lv_iload_n hx hb d_Mo_isByte_0 rfl (lv_at hl 0 rfl) ?_
  refine lv_if_lt (tgt := 24) hx hb d_Mo_isByte_1 (by decide) (fun c_1 => ?_) (fun c_1 => ?_)
  · skip
    refine lv_iconst (v := nI 0) hx hb d_Mo_isByte_24 (by decide) ?_
    exact hret _ _ d_Mo_isByte_25
  · skip
    refine lv_iload_n hx hb d_Mo_isByte_4 rfl (lv_at hl 0 rfl) ?_
    refine lv_bipush (v := nI 32) hx hb d_Mo_isByte_5 (by decide) ?_
    refine lv_icmp_ge (tgt := 24) hx hb d_Mo_isByte_7 (by decide) (fun c_2 => ?_) (fun c_2 => ?_)
    · skip
      refine lv_iconst (v := nI 0) hx hb d_Mo_isByte_24 (by decide) ?_
      exact hret _ _ d_Mo_isByte_25
    · skip
      rcases hk with h9 | h9 <;> contradiction

set_option maxHeartbeats 1000000 in
set_option maxRecDepth 100000 in
theorem c_Mo_leap (l : Launch) (dC : Nat → ClassId) (dI : Nat → Nat → Nat) (cI : ClassId) (y9 : Nat) (hy : y9 < 65536) : mR l y_Mo_isLeap w_Mo_isLeap ({ frames := 0, cells := 0, slots := 0, locals := 0 } : Room) [.int (nI y9)] (dC, dI) vwCl [(cI, .int)] [] (some (.int (bI (leN y9)))) := by
  refine mk_Ri (cc := b_Mo_isLeap) (maxL := 1) (by decide) rfl (Nat.le_of_ble_eq_true rfl) (mk_nz _) ?_
  intro p e s m below meth c Q A ls S hP hK hT hS hl hret
  obtain ⟨hx, hb, hml, hown, hts⟩ := id S
  have hl : lv_has ls 1 [(0, .int (nI y9))] := hl
  refine lv_iload_n hx hb d_Mo_isLeap_0 rfl (lv_at hl 0 rfl) ?_
  refine lv_iconst (v := nI 4) hx hb d_Mo_isLeap_1 (by decide) ?_
  refine lv_irem hx hb d_Mo_isLeap_2 (by decide) ?_
  refine mk_ti (y := nI (y9 % 4)) (pk_rem (by omega) (by decide) (by decide)) ?_
  refine lv_if_ne (tgt := 13) hx hb d_Mo_isLeap_3 (by decide) (fun c_1 => ?_) (fun c_1 => ?_)
  · skip
    rw [mk_ceq (by omega)] at c_1
    refine lv_iload_n hx hb d_Mo_isLeap_13 rfl (lv_at hl 0 rfl) ?_
    refine lv_sipush (v := nI 400) hx hb d_Mo_isLeap_14 (by decide) ?_
    refine lv_irem hx hb d_Mo_isLeap_17 (by decide) ?_
    refine mk_ti (y := nI (y9 % 400)) (pk_rem (by omega) (by decide) (by decide)) ?_
    refine lv_if_ne (tgt := 25) hx hb d_Mo_isLeap_18 (by decide) (fun c_2 => ?_) (fun c_2 => ?_)
    · skip
      rw [mk_ceq (by omega)] at c_2
      refine lv_iconst (v := nI 0) hx hb d_Mo_isLeap_25 (by decide) ?_
      exact mk_ti (by exact mk_bf (by simp only [leN, decide_eq_false_iff_not]; omega)) (hret _ _ d_Mo_isLeap_26)
    · skip
      rw [mk_ceq (by omega)] at c_2
      refine lv_iconst (v := nI 1) hx hb d_Mo_isLeap_21 (by decide) ?_
      refine lv_goto (tgt := 26) hx hb d_Mo_isLeap_22 (by decide) ?_
      exact mk_ti (by exact mk_bt (by simp only [leN, decide_eq_true_eq]; omega)) (hret _ _ d_Mo_isLeap_26)
  · skip
    rw [mk_ceq (by omega)] at c_1
    refine lv_iload_n hx hb d_Mo_isLeap_6 rfl (lv_at hl 0 rfl) ?_
    refine lv_bipush (v := nI 100) hx hb d_Mo_isLeap_7 (by decide) ?_
    refine lv_irem hx hb d_Mo_isLeap_9 (by decide) ?_
    refine mk_ti (y := nI (y9 % 100)) (pk_rem (by omega) (by decide) (by decide)) ?_
    refine lv_if_ne (tgt := 21) hx hb d_Mo_isLeap_10 (by decide) (fun c_3 => ?_) (fun c_3 => ?_)
    · skip
      rw [mk_ceq (by omega)] at c_3
      refine lv_iconst (v := nI 1) hx hb d_Mo_isLeap_21 (by decide) ?_
      refine lv_goto (tgt := 26) hx hb d_Mo_isLeap_22 (by decide) ?_
      exact mk_ti (by exact mk_bt (by simp only [leN, decide_eq_true_eq]; omega)) (hret _ _ d_Mo_isLeap_26)
    · skip
      rw [mk_ceq (by omega)] at c_3
      refine lv_iload_n hx hb d_Mo_isLeap_13 rfl (lv_at hl 0 rfl) ?_
      refine lv_sipush (v := nI 400) hx hb d_Mo_isLeap_14 (by decide) ?_
      refine lv_irem hx hb d_Mo_isLeap_17 (by decide) ?_
      refine mk_ti (y := nI (y9 % 400)) (pk_rem (by omega) (by decide) (by decide)) ?_
      refine lv_if_ne (tgt := 25) hx hb d_Mo_isLeap_18 (by decide) (fun c_4 => ?_) (fun c_4 => ?_)
      · skip
        rw [mk_ceq (by omega)] at c_4
        refine lv_iconst (v := nI 0) hx hb d_Mo_isLeap_25 (by decide) ?_
        exact mk_ti (by exact mk_bf (by simp only [leN, decide_eq_false_iff_not]; omega)) (hret _ _ d_Mo_isLeap_26)
      · skip
        rw [mk_ceq (by omega)] at c_4
        refine lv_iconst (v := nI 1) hx hb d_Mo_isLeap_21 (by decide) ?_
        refine lv_goto (tgt := 26) hx hb d_Mo_isLeap_22 (by decide) ?_
        exact mk_ti (by exact mk_bt (by simp only [leN, decide_eq_true_eq]; omega)) (hret _ _ d_Mo_isLeap_26)

set_option maxHeartbeats 1000000 in
set_option maxRecDepth 100000 in
theorem c_Mo_len (l : Launch) (dC : Nat → ClassId) (dI : Nat → Nat → Nat) (cI : ClassId) (m9 y9 : Nat) (hm : m9 < 65536) (hy : y9 < 65536) : mR l y_Mo_lengthOf w_Mo_lengthOf ({ frames := 1, cells := 0, slots := 0, locals := 20 } : Room) [.int (nI m9), .int (nI y9)] (dC, dI) vwCl [(cI, .int)] [] (some (.int (nI (mlN2 y9 m9)))) := by
  refine mk_Ri (cc := b_Mo_lengthOf) (maxL := 2) (by decide) rfl (Nat.le_of_ble_eq_true rfl) rfl ?_
  intro p e s m below meth c Q A ls S hP hK hT hS hl hret
  obtain ⟨hx, hb, hml, hown, hts⟩ := id S
  have hl : lv_has ls 2 [(0, .int (nI m9)), (1, .int (nI y9))] := hl
  refine lv_iload_n hx hb d_Mo_lengthOf_0 rfl (lv_at hl 0 rfl) ?_
  by_cases c_1 : m9 = 2
  · skip
    refine lv_tableIn (tgt := 56) (off := 55) hx hb d_Mo_lengthOf_1 (by rw [c_1]; decide) (by rw [c_1]; decide) (by rw [c_1]; rfl) (by decide) ?_
    refine lv_iload_n hx hb d_Mo_lengthOf_56 rfl (lv_at hl 1 rfl) ?_
    refine mk_r1 (W.runS (As := [.int (nI y9)]) (rest := []) S (c_Mo_leap l dC dI cI y9 (by first | assumption | omega)) (gS 1 hts k_664 k_665 k_29 k_666 (by decide +kernel) ⟨Nat.le_of_ble_eq_true rfl, Nat.le_of_ble_eq_true rfl⟩) (mk_sR hP hK hT hS [] rfl) rfl rfl hl.1 rfl (lv_room (Nat.le_of_ble_eq_true rfl)) d_Mo_lengthOf_57 ⟨Nat.zero_le _, Nat.zero_le _⟩) ?_
    refine lv_if_eq (tgt := 68) hx hb d_Mo_lengthOf_60 (by decide) (fun c_2 => ?_) (fun c_2 => ?_)
    · skip
      have c_2 := bI_0 c_2
      refine lv_bipush (v := nI 28) hx hb d_Mo_lengthOf_68 (by decide) ?_
      exact mk_ti (by congr 1; unfold mlN2; (repeat' split) <;> first | rfl | omega | (simp_all)) (hret _ _ d_Mo_lengthOf_70)
    · skip
      have c_2 := bI_1 c_2
      refine lv_bipush (v := nI 29) hx hb d_Mo_lengthOf_63 (by decide) ?_
      refine lv_goto (tgt := 70) hx hb d_Mo_lengthOf_65 (by decide) ?_
      exact mk_ti (by congr 1; unfold mlN2; (repeat' split) <;> first | rfl | omega | (simp_all)) (hret _ _ d_Mo_lengthOf_70)
  by_cases c_3 : m9 = 3
  · skip
    refine lv_tableIn (tgt := 74) (off := 73) hx hb d_Mo_lengthOf_1 (by rw [c_3]; decide) (by rw [c_3]; decide) (by rw [c_3]; rfl) (by decide) ?_
    refine lv_bipush (v := nI 31) hx hb d_Mo_lengthOf_74 (by decide) ?_
    exact mk_ti (by congr 1; unfold mlN2; (repeat' split) <;> first | rfl | omega | (simp_all)) (hret _ _ d_Mo_lengthOf_76)
  by_cases c_4 : m9 = 4
  · skip
    refine lv_tableIn (tgt := 71) (off := 70) hx hb d_Mo_lengthOf_1 (by rw [c_4]; decide) (by rw [c_4]; decide) (by rw [c_4]; rfl) (by decide) ?_
    refine lv_bipush (v := nI 30) hx hb d_Mo_lengthOf_71 (by decide) ?_
    exact mk_ti (by congr 1; unfold mlN2; (repeat' split) <;> first | rfl | omega | (simp_all)) (hret _ _ d_Mo_lengthOf_73)
  by_cases c_5 : m9 = 5
  · skip
    refine lv_tableIn (tgt := 74) (off := 73) hx hb d_Mo_lengthOf_1 (by rw [c_5]; decide) (by rw [c_5]; decide) (by rw [c_5]; rfl) (by decide) ?_
    refine lv_bipush (v := nI 31) hx hb d_Mo_lengthOf_74 (by decide) ?_
    exact mk_ti (by congr 1; unfold mlN2; (repeat' split) <;> first | rfl | omega | (simp_all)) (hret _ _ d_Mo_lengthOf_76)
  by_cases c_6 : m9 = 6
  · skip
    refine lv_tableIn (tgt := 71) (off := 70) hx hb d_Mo_lengthOf_1 (by rw [c_6]; decide) (by rw [c_6]; decide) (by rw [c_6]; rfl) (by decide) ?_
    refine lv_bipush (v := nI 30) hx hb d_Mo_lengthOf_71 (by decide) ?_
    exact mk_ti (by congr 1; unfold mlN2; (repeat' split) <;> first | rfl | omega | (simp_all)) (hret _ _ d_Mo_lengthOf_73)
  by_cases c_7 : m9 = 7
  · skip
    refine lv_tableIn (tgt := 74) (off := 73) hx hb d_Mo_lengthOf_1 (by rw [c_7]; decide) (by rw [c_7]; decide) (by rw [c_7]; rfl) (by decide) ?_
    refine lv_bipush (v := nI 31) hx hb d_Mo_lengthOf_74 (by decide) ?_
    exact mk_ti (by congr 1; unfold mlN2; (repeat' split) <;> first | rfl | omega | (simp_all)) (hret _ _ d_Mo_lengthOf_76)
  by_cases c_8 : m9 = 8
  · skip
    refine lv_tableIn (tgt := 74) (off := 73) hx hb d_Mo_lengthOf_1 (by rw [c_8]; decide) (by rw [c_8]; decide) (by rw [c_8]; rfl) (by decide) ?_
    refine lv_bipush (v := nI 31) hx hb d_Mo_lengthOf_74 (by decide) ?_
    exact mk_ti (by congr 1; unfold mlN2; (repeat' split) <;> first | rfl | omega | (simp_all)) (hret _ _ d_Mo_lengthOf_76)
  by_cases c_9 : m9 = 9
  · skip
    refine lv_tableIn (tgt := 71) (off := 70) hx hb d_Mo_lengthOf_1 (by rw [c_9]; decide) (by rw [c_9]; decide) (by rw [c_9]; rfl) (by decide) ?_
    refine lv_bipush (v := nI 30) hx hb d_Mo_lengthOf_71 (by decide) ?_
    exact mk_ti (by congr 1; unfold mlN2; (repeat' split) <;> first | rfl | omega | (simp_all)) (hret _ _ d_Mo_lengthOf_73)
  by_cases c_10 : m9 = 10
  · skip
    refine lv_tableIn (tgt := 74) (off := 73) hx hb d_Mo_lengthOf_1 (by rw [c_10]; decide) (by rw [c_10]; decide) (by rw [c_10]; rfl) (by decide) ?_
    refine lv_bipush (v := nI 31) hx hb d_Mo_lengthOf_74 (by decide) ?_
    exact mk_ti (by congr 1; unfold mlN2; (repeat' split) <;> first | rfl | omega | (simp_all)) (hret _ _ d_Mo_lengthOf_76)
  by_cases c_11 : m9 = 11
  · skip
    refine lv_tableIn (tgt := 71) (off := 70) hx hb d_Mo_lengthOf_1 (by rw [c_11]; decide) (by rw [c_11]; decide) (by rw [c_11]; rfl) (by decide) ?_
    refine lv_bipush (v := nI 30) hx hb d_Mo_lengthOf_71 (by decide) ?_
    exact mk_ti (by congr 1; unfold mlN2; (repeat' split) <;> first | rfl | omega | (simp_all)) (hret _ _ d_Mo_lengthOf_73)
  refine lv_tableOut (tgt := 74) hx hb d_Mo_lengthOf_1 (by rw [nI_toInt (by omega)]; omega) (by decide) ?_
  refine lv_bipush (v := nI 31) hx hb d_Mo_lengthOf_74 (by decide) ?_
  exact mk_ti (by congr 1; unfold mlN2; (repeat' split) <;> first | rfl | omega | (simp_all)) (hret _ _ d_Mo_lengthOf_76)

