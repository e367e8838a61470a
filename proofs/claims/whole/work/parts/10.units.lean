set_option maxHeartbeats 4000000 in
set_option maxRecDepth 100000 in
theorem c_Un_name (l : Launch) (dC : Nat → ClassId) (dI : Nat → Nat → Nat) (cI : ClassId) (u : Nat) (hu : u < 65536) : mR l y_Un_mayStandInName w_Un_mayStandInName ({ frames := 0, cells := 0, slots := 0, locals := 0 } : Room) [.int (nI u)] (dC, dI) vwCl [(cI, .int)] [] (some (.int (bI (okN u)))) := by
  refine mk_Ri (cc := b_Un_mayStandInName) (maxL := 1) (by decide) rfl (Nat.le_of_ble_eq_true rfl) (mk_nz _) ?_
  intro p e s m below meth c Q A ls S hP hK hT hS hl hret
  obtain ⟨hx, hb, hml, hown, hts⟩ := id S
  have hl : lv_has ls 1 [(0, .int (nI u))] := hl
  refine lv_iload_n hx hb d_Un_mayStandInName_0 rfl (lv_at hl 0 rfl) ?_
  refine lv_bipush (v := nI 32) hx hb d_Un_mayStandInName_1 (by decide) ?_
  refine lv_icmp_lt (tgt := 24) hx hb d_Un_mayStandInName_3 (by decide) (fun c_1 => ?_) (fun c_1 => ?_)
  · skip
    rw [nI_ltI (by omega) (by omega)] at c_1
    refine lv_iconst (v := nI 0) hx hb d_Un_mayStandInName_24 (by decide) ?_
    exact mk_ti (by exact mk_bf (by simp only [okN, decide_eq_false_iff_not]; omega)) (hret _ _ d_Un_mayStandInName_25)
  · skip
    rw [nI_ltI (by omega) (by omega)] at c_1
    refine lv_iload_n hx hb d_Un_mayStandInName_6 rfl (lv_at hl 0 rfl) ?_
    refine lv_ldc (v := nI 65533) hx hb hown (hts _ (List.mem_cons_of_mem _ k_147)) d_Un_mayStandInName_7 ?_
    refine lv_icmp_gt (tgt := 24) hx hb d_Un_mayStandInName_9 (by decide) (fun c_2 => ?_) (fun c_2 => ?_)
    · skip
      rw [nI_ltI (by omega) (by omega)] at c_2
      refine lv_iconst (v := nI 0) hx hb d_Un_mayStandInName_24 (by decide) ?_
      exact mk_ti (by exact mk_bf (by simp only [okN, decide_eq_false_iff_not]; omega)) (hret _ _ d_Un_mayStandInName_25)
    · skip
      rw [nI_ltI (by omega) (by omega)] at c_2
      refine lv_iload_n hx hb d_Un_mayStandInName_12 rfl (lv_at hl 0 rfl) ?_
      refine lv_ldc (v := nI 55296) hx hb hown (hts _ (List.mem_cons_of_mem _ k_148)) d_Un_mayStandInName_13 ?_
      refine lv_icmp_lt (tgt := 26) hx hb d_Un_mayStandInName_15 (by decide) (fun c_3 => ?_) (fun c_3 => ?_)
      · skip
        rw [nI_ltI (by omega) (by omega)] at c_3
        refine lv_iload_n hx hb d_Un_mayStandInName_26 rfl (lv_at hl 0 rfl) ?_
        by_cases c_4 : u = 34
        · skip
          refine lv_lookup (off := 89) (tgt := 116) hx hb d_Un_mayStandInName_27 (by decide) (by rw [c_4]; decide) (by decide) ?_
          refine lv_iconst (v := nI 0) hx hb d_Un_mayStandInName_116 (by decide) ?_
          exact mk_ti (by exact mk_bf (by simp only [okN, decide_eq_false_iff_not]; omega)) (hret _ _ d_Un_mayStandInName_117)
        by_cases c_5 : u = 42
        · skip
          refine lv_lookup (off := 89) (tgt := 116) hx hb d_Un_mayStandInName_27 (by decide) (by rw [c_5]; decide) (by decide) ?_
          refine lv_iconst (v := nI 0) hx hb d_Un_mayStandInName_116 (by decide) ?_
          exact mk_ti (by exact mk_bf (by simp only [okN, decide_eq_false_iff_not]; omega)) (hret _ _ d_Un_mayStandInName_117)
        by_cases c_6 : u = 47
        · skip
          refine lv_lookup (off := 89) (tgt := 116) hx hb d_Un_mayStandInName_27 (by decide) (by rw [c_6]; decide) (by decide) ?_
          refine lv_iconst (v := nI 0) hx hb d_Un_mayStandInName_116 (by decide) ?_
          exact mk_ti (by exact mk_bf (by simp only [okN, decide_eq_false_iff_not]; omega)) (hret _ _ d_Un_mayStandInName_117)
        by_cases c_7 : u = 58
        · skip
          refine lv_lookup (off := 89) (tgt := 116) hx hb d_Un_mayStandInName_27 (by decide) (by rw [c_7]; decide) (by decide) ?_
          refine lv_iconst (v := nI 0) hx hb d_Un_mayStandInName_116 (by decide) ?_
          exact mk_ti (by exact mk_bf (by simp only [okN, decide_eq_false_iff_not]; omega)) (hret _ _ d_Un_mayStandInName_117)
        by_cases c_8 : u = 60
        · skip
          refine lv_lookup (off := 89) (tgt := 116) hx hb d_Un_mayStandInName_27 (by decide) (by rw [c_8]; decide) (by decide) ?_
          refine lv_iconst (v := nI 0) hx hb d_Un_mayStandInName_116 (by decide) ?_
          exact mk_ti (by exact mk_bf (by simp only [okN, decide_eq_false_iff_not]; omega)) (hret _ _ d_Un_mayStandInName_117)
        by_cases c_9 : u = 62
        · skip
          refine lv_lookup (off := 89) (tgt := 116) hx hb d_Un_mayStandInName_27 (by decide) (by rw [c_9]; decide) (by decide) ?_
          refine lv_iconst (v := nI 0) hx hb d_Un_mayStandInName_116 (by decide) ?_
          exact mk_ti (by exact mk_bf (by simp only [okN, decide_eq_false_iff_not]; omega)) (hret _ _ d_Un_mayStandInName_117)
        by_cases c_10 : u = 63
        · skip
          refine lv_lookup (off := 89) (tgt := 116) hx hb d_Un_mayStandInName_27 (by decide) (by rw [c_10]; decide) (by decide) ?_
          refine lv_iconst (v := nI 0) hx hb d_Un_mayStandInName_116 (by decide) ?_
          exact mk_ti (by exact mk_bf (by simp only [okN, decide_eq_false_iff_not]; omega)) (hret _ _ d_Un_mayStandInName_117)
        by_cases c_11 : u = 92
        · skip
          refine lv_lookup (off := 89) (tgt := 116) hx hb d_Un_mayStandInName_27 (by decide) (by rw [c_11]; decide) (by decide) ?_
          refine lv_iconst (v := nI 0) hx hb d_Un_mayStandInName_116 (by decide) ?_
          exact mk_ti (by exact mk_bf (by simp only [okN, decide_eq_false_iff_not]; omega)) (hret _ _ d_Un_mayStandInName_117)
        by_cases c_12 : u = 124
        · skip
          refine lv_lookup (off := 89) (tgt := 116) hx hb d_Un_mayStandInName_27 (by decide) (by rw [c_12]; decide) (by decide) ?_
          refine lv_iconst (v := nI 0) hx hb d_Un_mayStandInName_116 (by decide) ?_
          exact mk_ti (by exact mk_bf (by simp only [okN, decide_eq_false_iff_not]; omega)) (hret _ _ d_Un_mayStandInName_117)
        by_cases c_13 : u = 127
        · skip
          refine lv_lookup (off := 89) (tgt := 116) hx hb d_Un_mayStandInName_27 (by decide) (by rw [c_13]; decide) (by decide) ?_
          refine lv_iconst (v := nI 0) hx hb d_Un_mayStandInName_116 (by decide) ?_
          exact mk_ti (by exact mk_bf (by simp only [okN, decide_eq_false_iff_not]; omega)) (hret _ _ d_Un_mayStandInName_117)
        refine lv_lookup (off := 91) (tgt := 118) hx hb d_Un_mayStandInName_27 (by decide) (by show Op.lookupswitch.offset [(34, 89), (42, 89), (47, 89), (58, 89), (60, 89), (62, 89), (63, 89), (92, 89), (124, 89), (127, 89)] 91 (nI u).toInt = 91; rw [lv_osw (mk_ne c_4 (by omega) (by decide)) (by decide)]; rw [lv_osw (mk_ne c_5 (by omega) (by decide)) (by decide)]; rw [lv_osw (mk_ne c_6 (by omega) (by decide)) (by decide)]; rw [lv_osw (mk_ne c_7 (by omega) (by decide)) (by decide)]; rw [lv_osw (mk_ne c_8 (by omega) (by decide)) (by decide)]; rw [lv_osw (mk_ne c_9 (by omega) (by decide)) (by decide)]; rw [lv_osw (mk_ne c_10 (by omega) (by decide)) (by decide)]; rw [lv_osw (mk_ne c_11 (by omega) (by decide)) (by decide)]; rw [lv_osw (mk_ne c_12 (by omega) (by decide)) (by decide)]; rw [lv_osw (mk_ne c_13 (by omega) (by decide)) (by decide)]; rfl) (by decide) ?_
        refine lv_iconst (v := nI 1) hx hb d_Un_mayStandInName_118 (by decide) ?_
        exact mk_ti (by exact mk_bt (by simp only [okN, decide_eq_true_eq]; omega)) (hret _ _ d_Un_mayStandInName_119)
      · skip
        rw [nI_ltI (by omega) (by omega)] at c_3
        refine lv_iload_n hx hb d_Un_mayStandInName_18 rfl (lv_at hl 0 rfl) ?_
        refine lv_ldc (v := nI 57343) hx hb hown (hts _ (List.mem_cons_of_mem _ k_149)) d_Un_mayStandInName_19 ?_
        refine lv_icmp_gt (tgt := 26) hx hb d_Un_mayStandInName_21 (by decide) (fun c_14 => ?_) (fun c_14 => ?_)
        · skip
          rw [nI_ltI (by omega) (by omega)] at c_14
          refine lv_iload_n hx hb d_Un_mayStandInName_26 rfl (lv_at hl 0 rfl) ?_
          by_cases c_15 : u = 34
          · skip
            refine lv_lookup (off := 89) (tgt := 116) hx hb d_Un_mayStandInName_27 (by decide) (by rw [c_15]; decide) (by decide) ?_
            refine lv_iconst (v := nI 0) hx hb d_Un_mayStandInName_116 (by decide) ?_
            exact mk_ti (by exact mk_bf (by simp only [okN, decide_eq_false_iff_not]; omega)) (hret _ _ d_Un_mayStandInName_117)
          by_cases c_16 : u = 42
          · skip
            refine lv_lookup (off := 89) (tgt := 116) hx hb d_Un_mayStandInName_27 (by decide) (by rw [c_16]; decide) (by decide) ?_
            refine lv_iconst (v := nI 0) hx hb d_Un_mayStandInName_116 (by decide) ?_
            exact mk_ti (by exact mk_bf (by simp only [okN, decide_eq_false_iff_not]; omega)) (hret _ _ d_Un_mayStandInName_117)
          by_cases c_17 : u = 47
          · skip
            refine lv_lookup (off := 89) (tgt := 116) hx hb d_Un_mayStandInName_27 (by decide) (by rw [c_17]; decide) (by decide) ?_
            refine lv_iconst (v := nI 0) hx hb d_Un_mayStandInName_116 (by decide) ?_
            exact mk_ti (by exact mk_bf (by simp only [okN, decide_eq_false_iff_not]; omega)) (hret _ _ d_Un_mayStandInName_117)
          by_cases c_18 : u = 58
          · skip
            refine lv_lookup (off := 89) (tgt := 116) hx hb d_Un_mayStandInName_27 (by decide) (by rw [c_18]; decide) (by decide) ?_
            refine lv_iconst (v := nI 0) hx hb d_Un_mayStandInName_116 (by decide) ?_
            exact mk_ti (by exact mk_bf (by simp only [okN, decide_eq_false_iff_not]; omega)) (hret _ _ d_Un_mayStandInName_117)
          by_cases c_19 : u = 60
          · skip
            refine lv_lookup (off := 89) (tgt := 116) hx hb d_Un_mayStandInName_27 (by decide) (by rw [c_19]; decide) (by decide) ?_
            refine lv_iconst (v := nI 0) hx hb d_Un_mayStandInName_116 (by decide) ?_
            exact mk_ti (by exact mk_bf (by simp only [okN, decide_eq_false_iff_not]; omega)) (hret _ _ d_Un_mayStandInName_117)
          by_cases c_20 : u = 62
          · skip
            refine lv_lookup (off := 89) (tgt := 116) hx hb d_Un_mayStandInName_27 (by decide) (by rw [c_20]; decide) (by decide) ?_
            refine lv_iconst (v := nI 0) hx hb d_Un_mayStandInName_116 (by decide) ?_
            exact mk_ti (by exact mk_bf (by simp only [okN, decide_eq_false_iff_not]; omega)) (hret _ _ d_Un_mayStandInName_117)
          by_cases c_21 : u = 63
          · skip
            refine lv_lookup (off := 89) (tgt := 116) hx hb d_Un_mayStandInName_27 (by decide) (by rw [c_21]; decide) (by decide) ?_
            refine lv_iconst (v := nI 0) hx hb d_Un_mayStandInName_116 (by decide) ?_
            exact mk_ti (by exact mk_bf (by simp only [okN, decide_eq_false_iff_not]; omega)) (hret _ _ d_Un_mayStandInName_117)
          by_cases c_22 : u = 92
          · skip
            refine lv_lookup (off := 89) (tgt := 116) hx hb d_Un_mayStandInName_27 (by decide) (by rw [c_22]; decide) (by decide) ?_
            refine lv_iconst (v := nI 0) hx hb d_Un_mayStandInName_116 (by decide) ?_
            exact mk_ti (by exact mk_bf (by simp only [okN, decide_eq_false_iff_not]; omega)) (hret _ _ d_Un_mayStandInName_117)
          by_cases c_23 : u = 124
          · skip
            refine lv_lookup (off := 89) (tgt := 116) hx hb d_Un_mayStandInName_27 (by decide) (by rw [c_23]; decide) (by decide) ?_
            refine lv_iconst (v := nI 0) hx hb d_Un_mayStandInName_116 (by decide) ?_
            exact mk_ti (by exact mk_bf (by simp only [okN, decide_eq_false_iff_not]; omega)) (hret _ _ d_Un_mayStandInName_117)
          by_cases c_24 : u = 127
          · skip
            refine lv_lookup (off := 89) (tgt := 116) hx hb d_Un_mayStandInName_27 (by decide) (by rw [c_24]; decide) (by decide) ?_
            refine lv_iconst (v := nI 0) hx hb d_Un_mayStandInName_116 (by decide) ?_
            exact mk_ti (by exact mk_bf (by simp only [okN, decide_eq_false_iff_not]; omega)) (hret _ _ d_Un_mayStandInName_117)
          refine lv_lookup (off := 91) (tgt := 118) hx hb d_Un_mayStandInName_27 (by decide) (by show Op.lookupswitch.offset [(34, 89), (42, 89), (47, 89), (58, 89), (60, 89), (62, 89), (63, 89), (92, 89), (124, 89), (127, 89)] 91 (nI u).toInt = 91; rw [lv_osw (mk_ne c_15 (by omega) (by decide)) (by decide)]; rw [lv_osw (mk_ne c_16 (by omega) (by decide)) (by decide)]; rw [lv_osw (mk_ne c_17 (by omega) (by decide)) (by decide)]; rw [lv_osw (mk_ne c_18 (by omega) (by decide)) (by decide)]; rw [lv_osw (mk_ne c_19 (by omega) (by decide)) (by decide)]; rw [lv_osw (mk_ne c_20 (by omega) (by decide)) (by decide)]; rw [lv_osw (mk_ne c_21 (by omega) (by decide)) (by decide)]; rw [lv_osw (mk_ne c_22 (by omega) (by decide)) (by decide)]; rw [lv_osw (mk_ne c_23 (by omega) (by decide)) (by decide)]; rw [lv_osw (mk_ne c_24 (by omega) (by decide)) (by decide)]; rfl) (by decide) ?_
          refine lv_iconst (v := nI 1) hx hb d_Un_mayStandInName_118 (by decide) ?_
          exact mk_ti (by exact mk_bt (by simp only [okN, decide_eq_true_eq]; omega)) (hret _ _ d_Un_mayStandInName_119)
        · skip
          rw [nI_ltI (by omega) (by omega)] at c_14
          refine lv_iconst (v := nI 0) hx hb d_Un_mayStandInName_24 (by decide) ?_
          exact mk_ti (by exact mk_bf (by simp only [okN, decide_eq_false_iff_not]; omega)) (hret _ _ d_Un_mayStandInName_25)

set_option maxHeartbeats 4000000 in
set_option maxRecDepth 100000 in
theorem c_Un_short (l : Launch) (dC : Nat → ClassId) (dI : Nat → Nat → Nat) (cI : ClassId) (u : Nat) (hu : u < 65536) : mR l y_Un_mayStandInShortName w_Un_mayStandInShortName ({ frames := 0, cells := 0, slots := 0, locals := 0 } : Room) [.int (nI u)] (dC, dI) vwCl [(cI, .int)] [] (some (.int (bI (okS u)))) := by
  refine mk_Ri (cc := b_Un_mayStandInShortName) (maxL := 1) (by decide) rfl (Nat.le_of_ble_eq_true rfl) (mk_nz _) ?_
  intro p e s m below meth c Q A ls S hP hK hT hS hl hret
  obtain ⟨hx, hb, hml, hown, hts⟩ := id S
  have hl : lv_has ls 1 [(0, .int (nI u))] := hl
  refine lv_iload_n hx hb d_Un_mayStandInShortName_0 rfl (lv_at hl 0 rfl) ?_
  refine lv_bipush (v := nI 65) hx hb d_Un_mayStandInShortName_1 (by decide) ?_
  refine lv_icmp_lt (tgt := 12) hx hb d_Un_mayStandInShortName_3 (by decide) (fun c_1 => ?_) (fun c_1 => ?_)
  · skip
    rw [nI_ltI (by omega) (by omega)] at c_1
    refine lv_iload_n hx hb d_Un_mayStandInShortName_12 rfl (lv_at hl 0 rfl) ?_
    refine lv_bipush (v := nI 48) hx hb d_Un_mayStandInShortName_13 (by decide) ?_
    refine lv_icmp_lt (tgt := 26) hx hb d_Un_mayStandInShortName_15 (by decide) (fun c_2 => ?_) (fun c_2 => ?_)
    · skip
      rw [nI_ltI (by omega) (by omega)] at c_2
      refine lv_iload_n hx hb d_Un_mayStandInShortName_26 rfl (lv_at hl 0 rfl) ?_
      by_cases c_3 : u = 33
      · skip
        refine lv_lookup (off := 137) (tgt := 164) hx hb d_Un_mayStandInShortName_27 (by decide) (by rw [c_3]; decide) (by decide) ?_
        refine lv_iconst (v := nI 1) hx hb d_Un_mayStandInShortName_164 (by decide) ?_
        exact mk_ti (by exact mk_bt (by simp only [okS, decide_eq_true_eq]; omega)) (hret _ _ d_Un_mayStandInShortName_165)
      by_cases c_4 : u = 35
      · skip
        refine lv_lookup (off := 137) (tgt := 164) hx hb d_Un_mayStandInShortName_27 (by decide) (by rw [c_4]; decide) (by decide) ?_
        refine lv_iconst (v := nI 1) hx hb d_Un_mayStandInShortName_164 (by decide) ?_
        exact mk_ti (by exact mk_bt (by simp only [okS, decide_eq_true_eq]; omega)) (hret _ _ d_Un_mayStandInShortName_165)
      by_cases c_5 : u = 36
      · skip
        refine lv_lookup (off := 137) (tgt := 164) hx hb d_Un_mayStandInShortName_27 (by decide) (by rw [c_5]; decide) (by decide) ?_
        refine lv_iconst (v := nI 1) hx hb d_Un_mayStandInShortName_164 (by decide) ?_
        exact mk_ti (by exact mk_bt (by simp only [okS, decide_eq_true_eq]; omega)) (hret _ _ d_Un_mayStandInShortName_165)
      by_cases c_6 : u = 37
      · skip
        refine lv_lookup (off := 137) (tgt := 164) hx hb d_Un_mayStandInShortName_27 (by decide) (by rw [c_6]; decide) (by decide) ?_
        refine lv_iconst (v := nI 1) hx hb d_Un_mayStandInShortName_164 (by decide) ?_
        exact mk_ti (by exact mk_bt (by simp only [okS, decide_eq_true_eq]; omega)) (hret _ _ d_Un_mayStandInShortName_165)
      by_cases c_7 : u = 38
      · skip
        refine lv_lookup (off := 137) (tgt := 164) hx hb d_Un_mayStandInShortName_27 (by decide) (by rw [c_7]; decide) (by decide) ?_
        refine lv_iconst (v := nI 1) hx hb d_Un_mayStandInShortName_164 (by decide) ?_
        exact mk_ti (by exact mk_bt (by simp only [okS, decide_eq_true_eq]; omega)) (hret _ _ d_Un_mayStandInShortName_165)
      by_cases c_8 : u = 39
      · skip
        refine lv_lookup (off := 137) (tgt := 164) hx hb d_Un_mayStandInShortName_27 (by decide) (by rw [c_8]; decide) (by decide) ?_
        refine lv_iconst (v := nI 1) hx hb d_Un_mayStandInShortName_164 (by decide) ?_
        exact mk_ti (by exact mk_bt (by simp only [okS, decide_eq_true_eq]; omega)) (hret _ _ d_Un_mayStandInShortName_165)
      by_cases c_9 : u = 40
      · skip
        refine lv_lookup (off := 137) (tgt := 164) hx hb d_Un_mayStandInShortName_27 (by decide) (by rw [c_9]; decide) (by decide) ?_
        refine lv_iconst (v := nI 1) hx hb d_Un_mayStandInShortName_164 (by decide) ?_
        exact mk_ti (by exact mk_bt (by simp only [okS, decide_eq_true_eq]; omega)) (hret _ _ d_Un_mayStandInShortName_165)
      by_cases c_10 : u = 41
      · skip
        refine lv_lookup (off := 137) (tgt := 164) hx hb d_Un_mayStandInShortName_27 (by decide) (by rw [c_10]; decide) (by decide) ?_
        refine lv_iconst (v := nI 1) hx hb d_Un_mayStandInShortName_164 (by decide) ?_
        exact mk_ti (by exact mk_bt (by simp only [okS, decide_eq_true_eq]; omega)) (hret _ _ d_Un_mayStandInShortName_165)
      by_cases c_11 : u = 45
      · skip
        refine lv_lookup (off := 137) (tgt := 164) hx hb d_Un_mayStandInShortName_27 (by decide) (by rw [c_11]; decide) (by decide) ?_
        refine lv_iconst (v := nI 1) hx hb d_Un_mayStandInShortName_164 (by decide) ?_
        exact mk_ti (by exact mk_bt (by simp only [okS, decide_eq_true_eq]; omega)) (hret _ _ d_Un_mayStandInShortName_165)
      by_cases c_12 : u = 64
      · skip
        refine lv_lookup (off := 137) (tgt := 164) hx hb d_Un_mayStandInShortName_27 (by decide) (by rw [c_12]; decide) (by decide) ?_
        refine lv_iconst (v := nI 1) hx hb d_Un_mayStandInShortName_164 (by decide) ?_
        exact mk_ti (by exact mk_bt (by simp only [okS, decide_eq_true_eq]; omega)) (hret _ _ d_Un_mayStandInShortName_165)
      by_cases c_13 : u = 94
      · skip
        refine lv_lookup (off := 137) (tgt := 164) hx hb d_Un_mayStandInShortName_27 (by decide) (by rw [c_13]; decide) (by decide) ?_
        refine lv_iconst (v := nI 1) hx hb d_Un_mayStandInShortName_164 (by decide) ?_
        exact mk_ti (by exact mk_bt (by simp only [okS, decide_eq_true_eq]; omega)) (hret _ _ d_Un_mayStandInShortName_165)
      by_cases c_14 : u = 95
      · skip
        refine lv_lookup (off := 137) (tgt := 164) hx hb d_Un_mayStandInShortName_27 (by decide) (by rw [c_14]; decide) (by decide) ?_
        refine lv_iconst (v := nI 1) hx hb d_Un_mayStandInShortName_164 (by decide) ?_
        exact mk_ti (by exact mk_bt (by simp only [okS, decide_eq_true_eq]; omega)) (hret _ _ d_Un_mayStandInShortName_165)
      by_cases c_15 : u = 96
      · skip
        refine lv_lookup (off := 137) (tgt := 164) hx hb d_Un_mayStandInShortName_27 (by decide) (by rw [c_15]; decide) (by decide) ?_
        refine lv_iconst (v := nI 1) hx hb d_Un_mayStandInShortName_164 (by decide) ?_
        exact mk_ti (by exact mk_bt (by simp only [okS, decide_eq_true_eq]; omega)) (hret _ _ d_Un_mayStandInShortName_165)
      by_cases c_16 : u = 123
      · skip
        refine lv_lookup (off := 137) (tgt := 164) hx hb d_Un_mayStandInShortName_27 (by decide) (by rw [c_16]; decide) (by decide) ?_
        refine lv_iconst (v := nI 1) hx hb d_Un_mayStandInShortName_164 (by decide) ?_
        exact mk_ti (by exact mk_bt (by simp only [okS, decide_eq_true_eq]; omega)) (hret _ _ d_Un_mayStandInShortName_165)
      by_cases c_17 : u = 125
      · skip
        refine lv_lookup (off := 137) (tgt := 164) hx hb d_Un_mayStandInShortName_27 (by decide) (by rw [c_17]; decide) (by decide) ?_
        refine lv_iconst (v := nI 1) hx hb d_Un_mayStandInShortName_164 (by decide) ?_
        exact mk_ti (by exact mk_bt (by simp only [okS, decide_eq_true_eq]; omega)) (hret _ _ d_Un_mayStandInShortName_165)
      by_cases c_18 : u = 126
      · skip
        refine lv_lookup (off := 137) (tgt := 164) hx hb d_Un_mayStandInShortName_27 (by decide) (by rw [c_18]; decide) (by decide) ?_
        refine lv_iconst (v := nI 1) hx hb d_Un_mayStandInShortName_164 (by decide) ?_
        exact mk_ti (by exact mk_bt (by simp only [okS, decide_eq_true_eq]; omega)) (hret _ _ d_Un_mayStandInShortName_165)
      refine lv_lookup (off := 139) (tgt := 166) hx hb d_Un_mayStandInShortName_27 (by decide) (by show Op.lookupswitch.offset [(33, 137), (35, 137), (36, 137), (37, 137), (38, 137), (39, 137), (40, 137), (41, 137), (45, 137), (64, 137), (94, 137), (95, 137), (96, 137), (123, 137), (125, 137), (126, 137)] 139 (nI u).toInt = 139; rw [lv_osw (mk_ne c_3 (by omega) (by decide)) (by decide)]; rw [lv_osw (mk_ne c_4 (by omega) (by decide)) (by decide)]; rw [lv_osw (mk_ne c_5 (by omega) (by decide)) (by decide)]; rw [lv_osw (mk_ne c_6 (by omega) (by decide)) (by decide)]; rw [lv_osw (mk_ne c_7 (by omega) (by decide)) (by decide)]; rw [lv_osw (mk_ne c_8 (by omega) (by decide)) (by decide)]; rw [lv_osw (mk_ne c_9 (by omega) (by decide)) (by decide)]; rw [lv_osw (mk_ne c_10 (by omega) (by decide)) (by decide)]; rw [lv_osw (mk_ne c_11 (by omega) (by decide)) (by decide)]; rw [lv_osw (mk_ne c_12 (by omega) (by decide)) (by decide)]; rw [lv_osw (mk_ne c_13 (by omega) (by decide)) (by decide)]; rw [lv_osw (mk_ne c_14 (by omega) (by decide)) (by decide)]; rw [lv_osw (mk_ne c_15 (by omega) (by decide)) (by decide)]; rw [lv_osw (mk_ne c_16 (by omega) (by decide)) (by decide)]; rw [lv_osw (mk_ne c_17 (by omega) (by decide)) (by decide)]; rw [lv_osw (mk_ne c_18 (by omega) (by decide)) (by decide)]; rfl) (by decide) ?_
      refine lv_iconst (v := nI 0) hx hb d_Un_mayStandInShortName_166 (by decide) ?_
      exact mk_ti (by exact mk_bf (by simp only [okS, decide_eq_false_iff_not]; omega)) (hret _ _ d_Un_mayStandInShortName_167)
    · skip
      rw [nI_ltI (by omega) (by omega)] at c_2
      refine lv_iload_n hx hb d_Un_mayStandInShortName_18 rfl (lv_at hl 0 rfl) ?_
      refine lv_bipush (v := nI 57) hx hb d_Un_mayStandInShortName_19 (by decide) ?_
      refine lv_icmp_gt (tgt := 26) hx hb d_Un_mayStandInShortName_21 (by decide) (fun c_19 => ?_) (fun c_19 => ?_)
      · skip
        rw [nI_ltI (by omega) (by omega)] at c_19
        refine lv_iload_n hx hb d_Un_mayStandInShortName_26 rfl (lv_at hl 0 rfl) ?_
        by_cases c_20 : u = 33
        · skip
          refine lv_lookup (off := 137) (tgt := 164) hx hb d_Un_mayStandInShortName_27 (by decide) (by rw [c_20]; decide) (by decide) ?_
          refine lv_iconst (v := nI 1) hx hb d_Un_mayStandInShortName_164 (by decide) ?_
          exact mk_ti (by exact mk_bt (by simp only [okS, decide_eq_true_eq]; omega)) (hret _ _ d_Un_mayStandInShortName_165)
        by_cases c_21 : u = 35
        · skip
          refine lv_lookup (off := 137) (tgt := 164) hx hb d_Un_mayStandInShortName_27 (by decide) (by rw [c_21]; decide) (by decide) ?_
          refine lv_iconst (v := nI 1) hx hb d_Un_mayStandInShortName_164 (by decide) ?_
          exact mk_ti (by exact mk_bt (by simp only [okS, decide_eq_true_eq]; omega)) (hret _ _ d_Un_mayStandInShortName_165)
        by_cases c_22 : u = 36
        · skip
          refine lv_lookup (off := 137) (tgt := 164) hx hb d_Un_mayStandInShortName_27 (by decide) (by rw [c_22]; decide) (by decide) ?_
          refine lv_iconst (v := nI 1) hx hb d_Un_mayStandInShortName_164 (by decide) ?_
          exact mk_ti (by exact mk_bt (by simp only [okS, decide_eq_true_eq]; omega)) (hret _ _ d_Un_mayStandInShortName_165)
        by_cases c_23 : u = 37
        · skip
          refine lv_lookup (off := 137) (tgt := 164) hx hb d_Un_mayStandInShortName_27 (by decide) (by rw [c_23]; decide) (by decide) ?_
          refine lv_iconst (v := nI 1) hx hb d_Un_mayStandInShortName_164 (by decide) ?_
          exact mk_ti (by exact mk_bt (by simp only [okS, decide_eq_true_eq]; omega)) (hret _ _ d_Un_mayStandInShortName_165)
        by_cases c_24 : u = 38
        · skip
          refine lv_lookup (off := 137) (tgt := 164) hx hb d_Un_mayStandInShortName_27 (by decide) (by rw [c_24]; decide) (by decide) ?_
          refine lv_iconst (v := nI 1) hx hb d_Un_mayStandInShortName_164 (by decide) ?_
          exact mk_ti (by exact mk_bt (by simp only [okS, decide_eq_true_eq]; omega)) (hret _ _ d_Un_mayStandInShortName_165)
        by_cases c_25 : u = 39
        · skip
          refine lv_lookup (off := 137) (tgt := 164) hx hb d_Un_mayStandInShortName_27 (by decide) (by rw [c_25]; decide) (by decide) ?_
          refine lv_iconst (v := nI 1) hx hb d_Un_mayStandInShortName_164 (by decide) ?_
          exact mk_ti (by exact mk_bt (by simp only [okS, decide_eq_true_eq]; omega)) (hret _ _ d_Un_mayStandInShortName_165)
        by_cases c_26 : u = 40
        · skip
          refine lv_lookup (off := 137) (tgt := 164) hx hb d_Un_mayStandInShortName_27 (by decide) (by rw [c_26]; decide) (by decide) ?_
          refine lv_iconst (v := nI 1) hx hb d_Un_mayStandInShortName_164 (by decide) ?_
          exact mk_ti (by exact mk_bt (by simp only [okS, decide_eq_true_eq]; omega)) (hret _ _ d_Un_mayStandInShortName_165)
        by_cases c_27 : u = 41
        · skip
          refine lv_lookup (off := 137) (tgt := 164) hx hb d_Un_mayStandInShortName_27 (by decide) (by rw [c_27]; decide) (by decide) ?_
          refine lv_iconst (v := nI 1) hx hb d_Un_mayStandInShortName_164 (by decide) ?_
          exact mk_ti (by exact mk_bt (by simp only [okS, decide_eq_true_eq]; omega)) (hret _ _ d_Un_mayStandInShortName_165)
        by_cases c_28 : u = 45
        · skip
          refine lv_lookup (off := 137) (tgt := 164) hx hb d_Un_mayStandInShortName_27 (by decide) (by rw [c_28]; decide) (by decide) ?_
          refine lv_iconst (v := nI 1) hx hb d_Un_mayStandInShortName_164 (by decide) ?_
          exact mk_ti (by exact mk_bt (by simp only [okS, decide_eq_true_eq]; omega)) (hret _ _ d_Un_mayStandInShortName_165)
        by_cases c_29 : u = 64
        · skip
          refine lv_lookup (off := 137) (tgt := 164) hx hb d_Un_mayStandInShortName_27 (by decide) (by rw [c_29]; decide) (by decide) ?_
          refine lv_iconst (v := nI 1) hx hb d_Un_mayStandInShortName_164 (by decide) ?_
          exact mk_ti (by exact mk_bt (by simp only [okS, decide_eq_true_eq]; omega)) (hret _ _ d_Un_mayStandInShortName_165)
        by_cases c_30 : u = 94
        · skip
          refine lv_lookup (off := 137) (tgt := 164) hx hb d_Un_mayStandInShortName_27 (by decide) (by rw [c_30]; decide) (by decide) ?_
          refine lv_iconst (v := nI 1) hx hb d_Un_mayStandInShortName_164 (by decide) ?_
          exact mk_ti (by exact mk_bt (by simp only [okS, decide_eq_true_eq]; omega)) (hret _ _ d_Un_mayStandInShortName_165)
        by_cases c_31 : u = 95
        · skip
          refine lv_lookup (off := 137) (tgt := 164) hx hb d_Un_mayStandInShortName_27 (by decide) (by rw [c_31]; decide) (by decide) ?_
          refine lv_iconst (v := nI 1) hx hb d_Un_mayStandInShortName_164 (by decide) ?_
          exact mk_ti (by exact mk_bt (by simp only [okS, decide_eq_true_eq]; omega)) (hret _ _ d_Un_mayStandInShortName_165)
        by_cases c_32 : u = 96
        · skip
          refine lv_lookup (off := 137) (tgt := 164) hx hb d_Un_mayStandInShortName_27 (by decide) (by rw [c_32]; decide) (by decide) ?_
          refine lv_iconst (v := nI 1) hx hb d_Un_mayStandInShortName_164 (by decide) ?_
          exact mk_ti (by exact mk_bt (by simp only [okS, decide_eq_true_eq]; omega)) (hret _ _ d_Un_mayStandInShortName_165)
        by_cases c_33 : u = 123
        · skip
          refine lv_lookup (off := 137) (tgt := 164) hx hb d_Un_mayStandInShortName_27 (by decide) (by rw [c_33]; decide) (by decide) ?_
          refine lv_iconst (v := nI 1) hx hb d_Un_mayStandInShortName_164 (by decide) ?_
          exact mk_ti (by exact mk_bt (by simp only [okS, decide_eq_true_eq]; omega)) (hret _ _ d_Un_mayStandInShortName_165)
        by_cases c_34 : u = 125
        · skip
          refine lv_lookup (off := 137) (tgt := 164) hx hb d_Un_mayStandInShortName_27 (by decide) (by rw [c_34]; decide) (by decide) ?_
          refine lv_iconst (v := nI 1) hx hb d_Un_mayStandInShortName_164 (by decide) ?_
          exact mk_ti (by exact mk_bt (by simp only [okS, decide_eq_true_eq]; omega)) (hret _ _ d_Un_mayStandInShortName_165)
        by_cases c_35 : u = 126
        · skip
          refine lv_lookup (off := 137) (tgt := 164) hx hb d_Un_mayStandInShortName_27 (by decide) (by rw [c_35]; decide) (by decide) ?_
          refine lv_iconst (v := nI 1) hx hb d_Un_mayStandInShortName_164 (by decide) ?_
          exact mk_ti (by exact mk_bt (by simp only [okS, decide_eq_true_eq]; omega)) (hret _ _ d_Un_mayStandInShortName_165)
        refine lv_lookup (off := 139) (tgt := 166) hx hb d_Un_mayStandInShortName_27 (by decide) (by show Op.lookupswitch.offset [(33, 137), (35, 137), (36, 137), (37, 137), (38, 137), (39, 137), (40, 137), (41, 137), (45, 137), (64, 137), (94, 137), (95, 137), (96, 137), (123, 137), (125, 137), (126, 137)] 139 (nI u).toInt = 139; rw [lv_osw (mk_ne c_20 (by omega) (by decide)) (by decide)]; rw [lv_osw (mk_ne c_21 (by omega) (by decide)) (by decide)]; rw [lv_osw (mk_ne c_22 (by omega) (by decide)) (by decide)]; rw [lv_osw (mk_ne c_23 (by omega) (by decide)) (by decide)]; rw [lv_osw (mk_ne c_24 (by omega) (by decide)) (by decide)]; rw [lv_osw (mk_ne c_25 (by omega) (by decide)) (by decide)]; rw [lv_osw (mk_ne c_26 (by omega) (by decide)) (by decide)]; rw [lv_osw (mk_ne c_27 (by omega) (by decide)) (by decide)]; rw [lv_osw (mk_ne c_28 (by omega) (by decide)) (by decide)]; rw [lv_osw (mk_ne c_29 (by omega) (by decide)) (by decide)]; rw [lv_osw (mk_ne c_30 (by omega) (by decide)) (by decide)]; rw [lv_osw (mk_ne c_31 (by omega) (by decide)) (by decide)]; rw [lv_osw (mk_ne c_32 (by omega) (by decide)) (by decide)]; rw [lv_osw (mk_ne c_33 (by omega) (by decide)) (by decide)]; rw [lv_osw (mk_ne c_34 (by omega) (by decide)) (by decide)]; rw [lv_osw (mk_ne c_35 (by omega) (by decide)) (by decide)]; rfl) (by decide) ?_
        refine lv_iconst (v := nI 0) hx hb d_Un_mayStandInShortName_166 (by decide) ?_
        exact mk_ti (by exact mk_bf (by simp only [okS, decide_eq_false_iff_not]; omega)) (hret _ _ d_Un_mayStandInShortName_167)
      · skip
        rw [nI_ltI (by omega) (by omega)] at c_19
        refine lv_iconst (v := nI 1) hx hb d_Un_mayStandInShortName_24 (by decide) ?_
        exact mk_ti (by exact mk_bt (by simp only [okS, decide_eq_true_eq]; omega)) (hret _ _ d_Un_mayStandInShortName_25)
  · skip
    rw [nI_ltI (by omega) (by omega)] at c_1
    refine lv_iload_n hx hb d_Un_mayStandInShortName_6 rfl (lv_at hl 0 rfl) ?_
    refine lv_bipush (v := nI 90) hx hb d_Un_mayStandInShortName_7 (by decide) ?_
    refine lv_icmp_le (tgt := 24) hx hb d_Un_mayStandInShortName_9 (by decide) (fun c_36 => ?_) (fun c_36 => ?_)
    · skip
      rw [nI_leI (by omega) (by omega)] at c_36
      refine lv_iconst (v := nI 1) hx hb d_Un_mayStandInShortName_24 (by decide) ?_
      exact mk_ti (by exact mk_bt (by simp only [okS, decide_eq_true_eq]; omega)) (hret _ _ d_Un_mayStandInShortName_25)
    · skip
      rw [nI_leI (by omega) (by omega)] at c_36
      refine lv_iload_n hx hb d_Un_mayStandInShortName_12 rfl (lv_at hl 0 rfl) ?_
      refine lv_bipush (v := nI 48) hx hb d_Un_mayStandInShortName_13 (by decide) ?_
      refine lv_icmp_lt (tgt := 26) hx hb d_Un_mayStandInShortName_15 (by decide) (fun c_37 => ?_) (fun c_37 => ?_)
      · skip
        rw [nI_ltI (by omega) (by omega)] at c_37
        refine lv_iload_n hx hb d_Un_mayStandInShortName_26 rfl (lv_at hl 0 rfl) ?_
        by_cases c_38 : u = 33
        · skip
          refine lv_lookup (off := 137) (tgt := 164) hx hb d_Un_mayStandInShortName_27 (by decide) (by rw [c_38]; decide) (by decide) ?_
          refine lv_iconst (v := nI 1) hx hb d_Un_mayStandInShortName_164 (by decide) ?_
          exact mk_ti (by exact mk_bt (by simp only [okS, decide_eq_true_eq]; omega)) (hret _ _ d_Un_mayStandInShortName_165)
        by_cases c_39 : u = 35
        · skip
          refine lv_lookup (off := 137) (tgt := 164) hx hb d_Un_mayStandInShortName_27 (by decide) (by rw [c_39]; decide) (by decide) ?_
          refine lv_iconst (v := nI 1) hx hb d_Un_mayStandInShortName_164 (by decide) ?_
          exact mk_ti (by exact mk_bt (by simp only [okS, decide_eq_true_eq]; omega)) (hret _ _ d_Un_mayStandInShortName_165)
        by_cases c_40 : u = 36
        · skip
          refine lv_lookup (off := 137) (tgt := 164) hx hb d_Un_mayStandInShortName_27 (by decide) (by rw [c_40]; decide) (by decide) ?_
          refine lv_iconst (v := nI 1) hx hb d_Un_mayStandInShortName_164 (by decide) ?_
          exact mk_ti (by exact mk_bt (by simp only [okS, decide_eq_true_eq]; omega)) (hret _ _ d_Un_mayStandInShortName_165)
        by_cases c_41 : u = 37
        · skip
          refine lv_lookup (off := 137) (tgt := 164) hx hb d_Un_mayStandInShortName_27 (by decide) (by rw [c_41]; decide) (by decide) ?_
          refine lv_iconst (v := nI 1) hx hb d_Un_mayStandInShortName_164 (by decide) ?_
          exact mk_ti (by exact mk_bt (by simp only [okS, decide_eq_true_eq]; omega)) (hret _ _ d_Un_mayStandInShortName_165)
        by_cases c_42 : u = 38
        · skip
          refine lv_lookup (off := 137) (tgt := 164) hx hb d_Un_mayStandInShortName_27 (by decide) (by rw [c_42]; decide) (by decide) ?_
          refine lv_iconst (v := nI 1) hx hb d_Un_mayStandInShortName_164 (by decide) ?_
          exact mk_ti (by exact mk_bt (by simp only [okS, decide_eq_true_eq]; omega)) (hret _ _ d_Un_mayStandInShortName_165)
        by_cases c_43 : u = 39
        · skip
          refine lv_lookup (off := 137) (tgt := 164) hx hb d_Un_mayStandInShortName_27 (by decide) (by rw [c_43]; decide) (by decide) ?_
          refine lv_iconst (v := nI 1) hx hb d_Un_mayStandInShortName_164 (by decide) ?_
          exact mk_ti (by exact mk_bt (by simp only [okS, decide_eq_true_eq]; omega)) (hret _ _ d_Un_mayStandInShortName_165)
        by_cases c_44 : u = 40
        · skip
          refine lv_lookup (off := 137) (tgt := 164) hx hb d_Un_mayStandInShortName_27 (by decide) (by rw [c_44]; decide) (by decide) ?_
          refine lv_iconst (v := nI 1) hx hb d_Un_mayStandInShortName_164 (by decide) ?_
          exact mk_ti (by exact mk_bt (by simp only [okS, decide_eq_true_eq]; omega)) (hret _ _ d_Un_mayStandInShortName_165)
        by_cases c_45 : u = 41
        · skip
          refine lv_lookup (off := 137) (tgt := 164) hx hb d_Un_mayStandInShortName_27 (by decide) (by rw [c_45]; decide) (by decide) ?_
          refine lv_iconst (v := nI 1) hx hb d_Un_mayStandInShortName_164 (by decide) ?_
          exact mk_ti (by exact mk_bt (by simp only [okS, decide_eq_true_eq]; omega)) (hret _ _ d_Un_mayStandInShortName_165)
        by_cases c_46 : u = 45
        · skip
          refine lv_lookup (off := 137) (tgt := 164) hx hb d_Un_mayStandInShortName_27 (by decide) (by rw [c_46]; decide) (by decide) ?_
          refine lv_iconst (v := nI 1) hx hb d_Un_mayStandInShortName_164 (by decide) ?_
          exact mk_ti (by exact mk_bt (by simp only [okS, decide_eq_true_eq]; omega)) (hret _ _ d_Un_mayStandInShortName_165)
        by_cases c_47 : u = 64
        · skip
          refine lv_lookup (off := 137) (tgt := 164) hx hb d_Un_mayStandInShortName_27 (by decide) (by rw [c_47]; decide) (by decide) ?_
          refine lv_iconst (v := nI 1) hx hb d_Un_mayStandInShortName_164 (by decide) ?_
          exact mk_ti (by exact mk_bt (by simp only [okS, decide_eq_true_eq]; omega)) (hret _ _ d_Un_mayStandInShortName_165)
        by_cases c_48 : u = 94
        · skip
          refine lv_lookup (off := 137) (tgt := 164) hx hb d_Un_mayStandInShortName_27 (by decide) (by rw [c_48]; decide) (by decide) ?_
          refine lv_iconst (v := nI 1) hx hb d_Un_mayStandInShortName_164 (by decide) ?_
          exact mk_ti (by exact mk_bt (by simp only [okS, decide_eq_true_eq]; omega)) (hret _ _ d_Un_mayStandInShortName_165)
        by_cases c_49 : u = 95
        · skip
          refine lv_lookup (off := 137) (tgt := 164) hx hb d_Un_mayStandInShortName_27 (by decide) (by rw [c_49]; decide) (by decide) ?_
          refine lv_iconst (v := nI 1) hx hb d_Un_mayStandInShortName_164 (by decide) ?_
          exact mk_ti (by exact mk_bt (by simp only [okS, decide_eq_true_eq]; omega)) (hret _ _ d_Un_mayStandInShortName_165)
        by_cases c_50 : u = 96
        · skip
          refine lv_lookup (off := 137) (tgt := 164) hx hb d_Un_mayStandInShortName_27 (by decide) (by rw [c_50]; decide) (by decide) ?_
          refine lv_iconst (v := nI 1) hx hb d_Un_mayStandInShortName_164 (by decide) ?_
          exact mk_ti (by exact mk_bt (by simp only [okS, decide_eq_true_eq]; omega)) (hret _ _ d_Un_mayStandInShortName_165)
        by_cases c_51 : u = 123
        · skip
          refine lv_lookup (off := 137) (tgt := 164) hx hb d_Un_mayStandInShortName_27 (by decide) (by rw [c_51]; decide) (by decide) ?_
          refine lv_iconst (v := nI 1) hx hb d_Un_mayStandInShortName_164 (by decide) ?_
          exact mk_ti (by exact mk_bt (by simp only [okS, decide_eq_true_eq]; omega)) (hret _ _ d_Un_mayStandInShortName_165)
        by_cases c_52 : u = 125
        · skip
          refine lv_lookup (off := 137) (tgt := 164) hx hb d_Un_mayStandInShortName_27 (by decide) (by rw [c_52]; decide) (by decide) ?_
          refine lv_iconst (v := nI 1) hx hb d_Un_mayStandInShortName_164 (by decide) ?_
          exact mk_ti (by exact mk_bt (by simp only [okS, decide_eq_true_eq]; omega)) (hret _ _ d_Un_mayStandInShortName_165)
        by_cases c_53 : u = 126
        · skip
          refine lv_lookup (off := 137) (tgt := 164) hx hb d_Un_mayStandInShortName_27 (by decide) (by rw [c_53]; decide) (by decide) ?_
          refine lv_iconst (v := nI 1) hx hb d_Un_mayStandInShortName_164 (by decide) ?_
          exact mk_ti (by exact mk_bt (by simp only [okS, decide_eq_true_eq]; omega)) (hret _ _ d_Un_mayStandInShortName_165)
        refine lv_lookup (off := 139) (tgt := 166) hx hb d_Un_mayStandInShortName_27 (by decide) (by show Op.lookupswitch.offset [(33, 137), (35, 137), (36, 137), (37, 137), (38, 137), (39, 137), (40, 137), (41, 137), (45, 137), (64, 137), (94, 137), (95, 137), (96, 137), (123, 137), (125, 137), (126, 137)] 139 (nI u).toInt = 139; rw [lv_osw (mk_ne c_38 (by omega) (by decide)) (by decide)]; rw [lv_osw (mk_ne c_39 (by omega) (by decide)) (by decide)]; rw [lv_osw (mk_ne c_40 (by omega) (by decide)) (by decide)]; rw [lv_osw (mk_ne c_41 (by omega) (by decide)) (by decide)]; rw [lv_osw (mk_ne c_42 (by omega) (by decide)) (by decide)]; rw [lv_osw (mk_ne c_43 (by omega) (by decide)) (by decide)]; rw [lv_osw (mk_ne c_44 (by omega) (by decide)) (by decide)]; rw [lv_osw (mk_ne c_45 (by omega) (by decide)) (by decide)]; rw [lv_osw (mk_ne c_46 (by omega) (by decide)) (by decide)]; rw [lv_osw (mk_ne c_47 (by omega) (by decide)) (by decide)]; rw [lv_osw (mk_ne c_48 (by omega) (by decide)) (by decide)]; rw [lv_osw (mk_ne c_49 (by omega) (by decide)) (by decide)]; rw [lv_osw (mk_ne c_50 (by omega) (by decide)) (by decide)]; rw [lv_osw (mk_ne c_51 (by omega) (by decide)) (by decide)]; rw [lv_osw (mk_ne c_52 (by omega) (by decide)) (by decide)]; rw [lv_osw (mk_ne c_53 (by omega) (by decide)) (by decide)]; rfl) (by decide) ?_
        refine lv_iconst (v := nI 0) hx hb d_Un_mayStandInShortName_166 (by decide) ?_
        exact mk_ti (by exact mk_bf (by simp only [okS, decide_eq_false_iff_not]; omega)) (hret _ _ d_Un_mayStandInShortName_167)
      · skip
        rw [nI_ltI (by omega) (by omega)] at c_37
        refine lv_iload_n hx hb d_Un_mayStandInShortName_18 rfl (lv_at hl 0 rfl) ?_
        refine lv_bipush (v := nI 57) hx hb d_Un_mayStandInShortName_19 (by decide) ?_
        refine lv_icmp_gt (tgt := 26) hx hb d_Un_mayStandInShortName_21 (by decide) (fun c_54 => ?_) (fun c_54 => ?_)
        · skip
          rw [nI_ltI (by omega) (by omega)] at c_54
          refine lv_iload_n hx hb d_Un_mayStandInShortName_26 rfl (lv_at hl 0 rfl) ?_
          by_cases c_55 : u = 33
          · skip
            refine lv_lookup (off := 137) (tgt := 164) hx hb d_Un_mayStandInShortName_27 (by decide) (by rw [c_55]; decide) (by decide) ?_
            refine lv_iconst (v := nI 1) hx hb d_Un_mayStandInShortName_164 (by decide) ?_
            exact mk_ti (by exact mk_bt (by simp only [okS, decide_eq_true_eq]; omega)) (hret _ _ d_Un_mayStandInShortName_165)
          by_cases c_56 : u = 35
          · skip
            refine lv_lookup (off := 137) (tgt := 164) hx hb d_Un_mayStandInShortName_27 (by decide) (by rw [c_56]; decide) (by decide) ?_
            refine lv_iconst (v := nI 1) hx hb d_Un_mayStandInShortName_164 (by decide) ?_
            exact mk_ti (by exact mk_bt (by simp only [okS, decide_eq_true_eq]; omega)) (hret _ _ d_Un_mayStandInShortName_165)
          by_cases c_57 : u = 36
          · skip
            refine lv_lookup (off := 137) (tgt := 164) hx hb d_Un_mayStandInShortName_27 (by decide) (by rw [c_57]; decide) (by decide) ?_
            refine lv_iconst (v := nI 1) hx hb d_Un_mayStandInShortName_164 (by decide) ?_
            exact mk_ti (by exact mk_bt (by simp only [okS, decide_eq_true_eq]; omega)) (hret _ _ d_Un_mayStandInShortName_165)
          by_cases c_58 : u = 37
          · skip
            refine lv_lookup (off := 137) (tgt := 164) hx hb d_Un_mayStandInShortName_27 (by decide) (by rw [c_58]; decide) (by decide) ?_
            refine lv_iconst (v := nI 1) hx hb d_Un_mayStandInShortName_164 (by decide) ?_
            exact mk_ti (by exact mk_bt (by simp only [okS, decide_eq_true_eq]; omega)) (hret _ _ d_Un_mayStandInShortName_165)
          by_cases c_59 : u = 38
          · skip
            refine lv_lookup (off := 137) (tgt := 164) hx hb d_Un_mayStandInShortName_27 (by decide) (by rw [c_59]; decide) (by decide) ?_
            refine lv_iconst (v := nI 1) hx hb d_Un_mayStandInShortName_164 (by decide) ?_
            exact mk_ti (by exact mk_bt (by simp only [okS, decide_eq_true_eq]; omega)) (hret _ _ d_Un_mayStandInShortName_165)
          by_cases c_60 : u = 39
          · skip
            refine lv_lookup (off := 137) (tgt := 164) hx hb d_Un_mayStandInShortName_27 (by decide) (by rw [c_60]; decide) (by decide) ?_
            refine lv_iconst (v := nI 1) hx hb d_Un_mayStandInShortName_164 (by decide) ?_
            exact mk_ti (by exact mk_bt (by simp only [okS, decide_eq_true_eq]; omega)) (hret _ _ d_Un_mayStandInShortName_165)
          by_cases c_61 : u = 40
          · skip
            refine lv_lookup (off := 137) (tgt := 164) hx hb d_Un_mayStandInShortName_27 (by decide) (by rw [c_61]; decide) (by decide) ?_
            refine lv_iconst (v := nI 1) hx hb d_Un_mayStandInShortName_164 (by decide) ?_
            exact mk_ti (by exact mk_bt (by simp only [okS, decide_eq_true_eq]; omega)) (hret _ _ d_Un_mayStandInShortName_165)
          by_cases c_62 : u = 41
          · skip
            refine lv_lookup (off := 137) (tgt := 164) hx hb d_Un_mayStandInShortName_27 (by decide) (by rw [c_62]; decide) (by decide) ?_
            refine lv_iconst (v := nI 1) hx hb d_Un_mayStandInShortName_164 (by decide) ?_
            exact mk_ti (by exact mk_bt (by simp only [okS, decide_eq_true_eq]; omega)) (hret _ _ d_Un_mayStandInShortName_165)
          by_cases c_63 : u = 45
          · skip
            refine lv_lookup (off := 137) (tgt := 164) hx hb d_Un_mayStandInShortName_27 (by decide) (by rw [c_63]; decide) (by decide) ?_
            refine lv_iconst (v := nI 1) hx hb d_Un_mayStandInShortName_164 (by decide) ?_
            exact mk_ti (by exact mk_bt (by simp only [okS, decide_eq_true_eq]; omega)) (hret _ _ d_Un_mayStandInShortName_165)
          by_cases c_64 : u = 64
          · skip
            refine lv_lookup (off := 137) (tgt := 164) hx hb d_Un_mayStandInShortName_27 (by decide) (by rw [c_64]; decide) (by decide) ?_
            refine lv_iconst (v := nI 1) hx hb d_Un_mayStandInShortName_164 (by decide) ?_
            exact mk_ti (by exact mk_bt (by simp only [okS, decide_eq_true_eq]; omega)) (hret _ _ d_Un_mayStandInShortName_165)
          by_cases c_65 : u = 94
          · skip
            refine lv_lookup (off := 137) (tgt := 164) hx hb d_Un_mayStandInShortName_27 (by decide) (by rw [c_65]; decide) (by decide) ?_
            refine lv_iconst (v := nI 1) hx hb d_Un_mayStandInShortName_164 (by decide) ?_
            exact mk_ti (by exact mk_bt (by simp only [okS, decide_eq_true_eq]; omega)) (hret _ _ d_Un_mayStandInShortName_165)
          by_cases c_66 : u = 95
          · skip
            refine lv_lookup (off := 137) (tgt := 164) hx hb d_Un_mayStandInShortName_27 (by decide) (by rw [c_66]; decide) (by decide) ?_
            refine lv_iconst (v := nI 1) hx hb d_Un_mayStandInShortName_164 (by decide) ?_
            exact mk_ti (by exact mk_bt (by simp only [okS, decide_eq_true_eq]; omega)) (hret _ _ d_Un_mayStandInShortName_165)
          by_cases c_67 : u = 96
          · skip
            refine lv_lookup (off := 137) (tgt := 164) hx hb d_Un_mayStandInShortName_27 (by decide) (by rw [c_67]; decide) (by decide) ?_
            refine lv_iconst (v := nI 1) hx hb d_Un_mayStandInShortName_164 (by decide) ?_
            exact mk_ti (by exact mk_bt (by simp only [okS, decide_eq_true_eq]; omega)) (hret _ _ d_Un_mayStandInShortName_165)
          by_cases c_68 : u = 123
          · skip
            refine lv_lookup (off := 137) (tgt := 164) hx hb d_Un_mayStandInShortName_27 (by decide) (by rw [c_68]; decide) (by decide) ?_
            refine lv_iconst (v := nI 1) hx hb d_Un_mayStandInShortName_164 (by decide) ?_
            exact mk_ti (by exact mk_bt (by simp only [okS, decide_eq_true_eq]; omega)) (hret _ _ d_Un_mayStandInShortName_165)
          by_cases c_69 : u = 125
          · skip
            refine lv_lookup (off := 137) (tgt := 164) hx hb d_Un_mayStandInShortName_27 (by decide) (by rw [c_69]; decide) (by decide) ?_
            refine lv_iconst (v := nI 1) hx hb d_Un_mayStandInShortName_164 (by decide) ?_
            exact mk_ti (by exact mk_bt (by simp only [okS, decide_eq_true_eq]; omega)) (hret _ _ d_Un_mayStandInShortName_165)
          by_cases c_70 : u = 126
          · skip
            refine lv_lookup (off := 137) (tgt := 164) hx hb d_Un_mayStandInShortName_27 (by decide) (by rw [c_70]; decide) (by decide) ?_
            refine lv_iconst (v := nI 1) hx hb d_Un_mayStandInShortName_164 (by decide) ?_
            exact mk_ti (by exact mk_bt (by simp only [okS, decide_eq_true_eq]; omega)) (hret _ _ d_Un_mayStandInShortName_165)
          refine lv_lookup (off := 139) (tgt := 166) hx hb d_Un_mayStandInShortName_27 (by decide) (by show Op.lookupswitch.offset [(33, 137), (35, 137), (36, 137), (37, 137), (38, 137), (39, 137), (40, 137), (41, 137), (45, 137), (64, 137), (94, 137), (95, 137), (96, 137), (123, 137), (125, 137), (126, 137)] 139 (nI u).toInt = 139; rw [lv_osw (mk_ne c_55 (by omega) (by decide)) (by decide)]; rw [lv_osw (mk_ne c_56 (by omega) (by decide)) (by decide)]; rw [lv_osw (mk_ne c_57 (by omega) (by decide)) (by decide)]; rw [lv_osw (mk_ne c_58 (by omega) (by decide)) (by decide)]; rw [lv_osw (mk_ne c_59 (by omega) (by decide)) (by decide)]; rw [lv_osw (mk_ne c_60 (by omega) (by decide)) (by decide)]; rw [lv_osw (mk_ne c_61 (by omega) (by decide)) (by decide)]; rw [lv_osw (mk_ne c_62 (by omega) (by decide)) (by decide)]; rw [lv_osw (mk_ne c_63 (by omega) (by decide)) (by decide)]; rw [lv_osw (mk_ne c_64 (by omega) (by decide)) (by decide)]; rw [lv_osw (mk_ne c_65 (by omega) (by decide)) (by decide)]; rw [lv_osw (mk_ne c_66 (by omega) (by decide)) (by decide)]; rw [lv_osw (mk_ne c_67 (by omega) (by decide)) (by decide)]; rw [lv_osw (mk_ne c_68 (by omega) (by decide)) (by decide)]; rw [lv_osw (mk_ne c_69 (by omega) (by decide)) (by decide)]; rw [lv_osw (mk_ne c_70 (by omega) (by decide)) (by decide)]; rfl) (by decide) ?_
          refine lv_iconst (v := nI 0) hx hb d_Un_mayStandInShortName_166 (by decide) ?_
          exact mk_ti (by exact mk_bf (by simp only [okS, decide_eq_false_iff_not]; omega)) (hret _ _ d_Un_mayStandInShortName_167)
        · skip
          rw [nI_ltI (by omega) (by omega)] at c_54
          refine lv_iconst (v := nI 1) hx hb d_Un_mayStandInShortName_24 (by decide) ?_
          exact mk_ti (by exact mk_bt (by simp only [okS, decide_eq_true_eq]; omega)) (hret _ _ d_Un_mayStandInShortName_25)

set_option maxHeartbeats 4000000 in
set_option maxRecDepth 100000 in
theorem c_Un_cap (l : Launch) (dC : Nat → ClassId) (dI : Nat → Nat → Nat) (cI : ClassId) (u : Nat) (hu : u < 65536) : mR l y_Un_capital w_Un_capital ({ frames := 0, cells := 0, slots := 0, locals := 0 } : Room) [.int (nI u)] (dC, dI) vwCl [(cI, .int)] [] (some (.int (nI (capN u)))) := by
  refine mk_Ri (cc := b_Un_capital) (maxL := 1) (by decide) rfl (Nat.le_of_ble_eq_true rfl) rfl ?_
  intro p e s m below meth c Q A ls S hP hK hT hS hl hret
  obtain ⟨hx, hb, hml, hown, hts⟩ := id S
  have hl : lv_has ls 1 [(0, .int (nI u))] := hl
  refine lv_iload_n hx hb d_Un_capital_0 rfl (lv_at hl 0 rfl) ?_
  refine lv_bipush (v := nI 97) hx hb d_Un_capital_1 (by decide) ?_
  refine lv_icmp_lt (tgt := 22) hx hb d_Un_capital_3 (by decide) (fun c_1 => ?_) (fun c_1 => ?_)
  · skip
    rw [nI_ltI (by omega) (by omega)] at c_1
    refine lv_iload_n hx hb d_Un_capital_22 rfl (lv_at hl 0 rfl) ?_
    exact mk_ti (by congr 1; unfold capN; (repeat' split) <;> omega) (hret _ _ d_Un_capital_23)
  · skip
    rw [nI_ltI (by omega) (by omega)] at c_1
    refine lv_iload_n hx hb d_Un_capital_6 rfl (lv_at hl 0 rfl) ?_
    refine lv_bipush (v := nI 122) hx hb d_Un_capital_7 (by decide) ?_
    refine lv_icmp_gt (tgt := 22) hx hb d_Un_capital_9 (by decide) (fun c_2 => ?_) (fun c_2 => ?_)
    · skip
      rw [nI_ltI (by omega) (by omega)] at c_2
      refine lv_iload_n hx hb d_Un_capital_22 rfl (lv_at hl 0 rfl) ?_
      exact mk_ti (by congr 1; unfold capN; (repeat' split) <;> omega) (hret _ _ d_Un_capital_23)
    · skip
      rw [nI_ltI (by omega) (by omega)] at c_2
      refine lv_iload_n hx hb d_Un_capital_12 rfl (lv_at hl 0 rfl) ?_
      refine lv_bipush (v := nI 97) hx hb d_Un_capital_13 (by decide) ?_
      refine lv_isub hx hb d_Un_capital_15 ?_
      refine mk_ti (y := nI (u - 97)) (pk_sub (by omega)) ?_
      refine lv_bipush (v := nI 65) hx hb d_Un_capital_16 (by decide) ?_
      refine lv_iadd hx hb d_Un_capital_18 ?_
      refine mk_ti (y := nI (u - 97 + 65)) (nI_add (u - 97) 65) ?_
      refine lv_goto (tgt := 23) hx hb d_Un_capital_19 (by decide) ?_
      exact mk_ti (by congr 1; unfold capN; (repeat' split) <;> omega) (hret _ _ d_Un_capital_23)

set_option maxHeartbeats 4000000 in
set_option maxRecDepth 100000 in
theorem c_Un_sho (l : Launch) (dC : Nat → ClassId) (dI : Nat → Nat → Nat) (cI : ClassId) (u : Nat) (hu : u < 65536) : mR l y_Un_shortened w_Un_shortened ({ frames := 1, cells := 0, slots := 0, locals := 20 } : Room) [.int (nI u)] (dC, dI) vwCl [(cI, .int)] [] (some (.int (nI (shoN u)))) := by
  have := capN_le u
  refine mk_Ri (cc := b_Un_shortened) (maxL := 2) (by decide) rfl (Nat.le_of_ble_eq_true rfl) rfl ?_
  intro p e s m below meth c Q A ls S hP hK hT hS hl hret
  obtain ⟨hx, hb, hml, hown, hts⟩ := id S
  have hl : lv_has ls 2 [(0, .int (nI u))] := hl
  refine lv_iload_n hx hb d_Un_shortened_0 rfl (lv_at hl 0 rfl) ?_
  refine mk_r1 (W.runS (As := [.int (nI u)]) (rest := []) S (c_Un_cap l dC dI cI u (by first | assumption | omega)) (gS 1 hts k_389 k_193 k_30 k_194 (by decide +kernel) ⟨Nat.le_of_ble_eq_true rfl, Nat.le_of_ble_eq_true rfl⟩) (mk_sR hP hK hT hS [] rfl) rfl rfl hl.1 rfl (lv_room (Nat.le_of_ble_eq_true rfl)) d_Un_shortened_1 ⟨Nat.zero_le _, Nat.zero_le _⟩) ?_
  have b_1 := capN_le u
  refine lv_istore_n (lv' := [(1, .int (nI (capN u))), (0, .int (nI u))]) hx hb d_Un_shortened_4 rfl hl (by decide) rfl (fun ls hl => ?_)
  refine lv_iload_n hx hb d_Un_shortened_5 rfl (lv_at hl 0 rfl) ?_
  refine mk_r1 (W.runS (As := [.int (nI (capN u))]) (rest := []) S (c_Un_short l dC dI cI (capN u) (by first | assumption | omega)) (gS 1 hts k_390 k_159 k_30 k_160 (by decide +kernel) ⟨Nat.le_of_ble_eq_true rfl, Nat.le_of_ble_eq_true rfl⟩) (mk_sR hP hK hT hS [] rfl) rfl rfl hl.1 rfl (lv_room (Nat.le_of_ble_eq_true rfl)) d_Un_shortened_6 ⟨Nat.zero_le _, Nat.zero_le _⟩) ?_
  refine lv_if_eq (tgt := 16) hx hb d_Un_shortened_9 (by decide) (fun c_2 => ?_) (fun c_2 => ?_)
  · skip
    have c_2 := bI_0 c_2
    refine lv_bipush (v := nI 95) hx hb d_Un_shortened_16 (by decide) ?_
    exact mk_ti (by rw [shoN, if_neg (by simp [c_2])]) (hret _ _ d_Un_shortened_18)
  · skip
    have c_2 := bI_1 c_2
    refine lv_iload_n hx hb d_Un_shortened_12 rfl (lv_at hl 0 rfl) ?_
    refine lv_goto (tgt := 18) hx hb d_Un_shortened_13 (by decide) ?_
    exact mk_ti (by rw [shoN, if_pos (by simp [c_2])]) (hret _ _ d_Un_shortened_18)

set_option maxHeartbeats 4000000 in
set_option maxRecDepth 100000 in
theorem c_Un_wd (l : Launch) (dC : Nat → ClassId) (dI : Nat → Nat → Nat) (cI : ClassId) (u : Nat) (hu : u < 65536) : mR l y_Un_encodedWidth w_Un_encodedWidth ({ frames := 0, cells := 0, slots := 0, locals := 0 } : Room) [.int (nI u)] (dC, dI) vwCl [(cI, .int)] [] (some (.int (nI (wdN u)))) := by
  refine mk_Ri (cc := b_Un_encodedWidth) (maxL := 1) (by decide) rfl (Nat.le_of_ble_eq_true rfl) rfl ?_
  intro p e s m below meth c Q A ls S hP hK hT hS hl hret
  obtain ⟨hx, hb, hml, hown, hts⟩ := id S
  have hl : lv_has ls 1 [(0, .int (nI u))] := hl
  refine lv_iload_n hx hb d_Un_encodedWidth_0 rfl (lv_at hl 0 rfl) ?_
  refine lv_sipush (v := nI 128) hx hb d_Un_encodedWidth_1 (by decide) ?_
  refine lv_icmp_ge (tgt := 9) hx hb d_Un_encodedWidth_4 (by decide) (fun c_1 => ?_) (fun c_1 => ?_)
  · skip
    rw [nI_leI (by omega) (by omega)] at c_1
    refine lv_iload_n hx hb d_Un_encodedWidth_9 rfl (lv_at hl 0 rfl) ?_
    refine lv_sipush (v := nI 2048) hx hb d_Un_encodedWidth_10 (by decide) ?_
    refine lv_icmp_ge (tgt := 20) hx hb d_Un_encodedWidth_13 (by decide) (fun c_2 => ?_) (fun c_2 => ?_)
    · skip
      rw [nI_leI (by omega) (by omega)] at c_2
      refine lv_iconst (v := nI 3) hx hb d_Un_encodedWidth_20 (by decide) ?_
      exact mk_ti (by congr 1; unfold wdN; (repeat' split) <;> omega) (hret _ _ d_Un_encodedWidth_21)
    · skip
      rw [nI_leI (by omega) (by omega)] at c_2
      refine lv_iconst (v := nI 2) hx hb d_Un_encodedWidth_16 (by decide) ?_
      refine lv_goto (tgt := 21) hx hb d_Un_encodedWidth_17 (by decide) ?_
      exact mk_ti (by congr 1; unfold wdN; (repeat' split) <;> omega) (hret _ _ d_Un_encodedWidth_21)
  · skip
    rw [nI_leI (by omega) (by omega)] at c_1
    refine lv_iconst (v := nI 1) hx hb d_Un_encodedWidth_7 (by decide) ?_
    exact mk_ti (by congr 1; unfold wdN; (repeat' split) <;> omega) (hret _ _ d_Un_encodedWidth_8)

set_option maxHeartbeats 4000000 in
set_option maxRecDepth 100000 in
theorem c_Un_eb1 (l : Launch) (dC : Nat → ClassId) (dI : Nat → Nat → Nat) (cI : ClassId) (u : Nat) (hu : u < 65536) (hu1 : u < 128) : mR l y_Un_encodedByte w_Un_encodedByte ({ frames := 1, cells := 0, slots := 0, locals := 20 } : Room) [.int (nI u), .int (nI 0)] (dC, dI) vwCl [(cI, .int)] [] (some (.int (nI (u)))) := by
  refine mk_Ri (cc := b_Un_encodedByte) (maxL := 4) (by decide) rfl (Nat.le_of_ble_eq_true rfl) rfl ?_
  intro p e s m below meth c Q A ls S hP hK hT hS hl hret
  obtain ⟨hx, hb, hml, hown, hts⟩ := id S
  have hl : lv_has ls 4 [(0, .int (nI u)), (1, .int (nI 0))] := hl
  refine lv_iload_n hx hb d_Un_encodedByte_0 rfl (lv_at hl 0 rfl) ?_
  refine mk_r1 (W.runS (As := [.int (nI u)]) (rest := []) S (c_Un_wd l dC dI cI u (by first | assumption | omega)) (gS 1 hts k_183 k_170 k_30 k_171 (by decide +kernel) ⟨Nat.le_of_ble_eq_true rfl, Nat.le_of_ble_eq_true rfl⟩) (mk_sR hP hK hT hS [] rfl) rfl rfl hl.1 rfl (lv_room (Nat.le_of_ble_eq_true rfl)) d_Un_encodedByte_1 ⟨Nat.zero_le _, Nat.zero_le _⟩) ?_
  refine mk_ti (y := nI 1) (by rw [show wdN u = 1 from (by unfold wdN; (repeat' split) <;> omega)]) ?_
  have b_1 := wdN_in u
  refine lv_istore_n (lv' := [(2, .int (nI 1)), (0, .int (nI u)), (1, .int (nI 0))]) hx hb d_Un_encodedByte_4 rfl hl (by decide) rfl (fun ls hl => ?_)
  refine lv_iload_n hx hb d_Un_encodedByte_5 rfl (lv_at hl 0 rfl) ?_
  refine lv_iconst (v := nI 1) hx hb d_Un_encodedByte_6 (by decide) ?_
  refine lv_icmp_ne (tgt := 12) hx hb d_Un_encodedByte_7 (by decide) (fun c_2 => ?_) (fun c_2 => ?_)
  · skip
    rw [nI_eq (by omega) (by omega)] at c_2
    omega
  · skip
    rw [nI_eq (by omega) (by omega)] at c_2
    refine lv_iload_n hx hb d_Un_encodedByte_10 rfl (lv_at hl 1 rfl) ?_
    exact mk_ti (by rfl) (hret _ _ d_Un_encodedByte_11)

set_option maxHeartbeats 4000000 in
set_option maxRecDepth 100000 in
theorem c_Un_eb20 (l : Launch) (dC : Nat → ClassId) (dI : Nat → Nat → Nat) (cI : ClassId) (u : Nat) (hu : u < 65536) (hu1 : 128 ≤ u ∧ u < 2048) : mR l y_Un_encodedByte w_Un_encodedByte ({ frames := 1, cells := 0, slots := 0, locals := 20 } : Room) [.int (nI u), .int (nI 0)] (dC, dI) vwCl [(cI, .int)] [] (some (.int (nI (192 + u / 2 ^ 6)))) := by
  refine mk_Ri (cc := b_Un_encodedByte) (maxL := 4) (by decide) rfl (Nat.le_of_ble_eq_true rfl) rfl ?_
  intro p e s m below meth c Q A ls S hP hK hT hS hl hret
  obtain ⟨hx, hb, hml, hown, hts⟩ := id S
  have hl : lv_has ls 4 [(0, .int (nI u)), (1, .int (nI 0))] := hl
  refine lv_iload_n hx hb d_Un_encodedByte_0 rfl (lv_at hl 0 rfl) ?_
  refine mk_r1 (W.runS (As := [.int (nI u)]) (rest := []) S (c_Un_wd l dC dI cI u (by first | assumption | omega)) (gS 1 hts k_183 k_170 k_30 k_171 (by decide +kernel) ⟨Nat.le_of_ble_eq_true rfl, Nat.le_of_ble_eq_true rfl⟩) (mk_sR hP hK hT hS [] rfl) rfl rfl hl.1 rfl (lv_room (Nat.le_of_ble_eq_true rfl)) d_Un_encodedByte_1 ⟨Nat.zero_le _, Nat.zero_le _⟩) ?_
  refine mk_ti (y := nI 2) (by rw [show wdN u = 2 from (by unfold wdN; (repeat' split) <;> omega)]) ?_
  have b_1 := wdN_in u
  refine lv_istore_n (lv' := [(2, .int (nI 2)), (0, .int (nI u)), (1, .int (nI 0))]) hx hb d_Un_encodedByte_4 rfl hl (by decide) rfl (fun ls hl => ?_)
  refine lv_iload_n hx hb d_Un_encodedByte_5 rfl (lv_at hl 0 rfl) ?_
  refine lv_iconst (v := nI 1) hx hb d_Un_encodedByte_6 (by decide) ?_
  refine lv_icmp_ne (tgt := 12) hx hb d_Un_encodedByte_7 (by decide) (fun c_2 => ?_) (fun c_2 => ?_)
  · skip
    rw [nI_eq (by omega) (by omega)] at c_2
    refine lv_iload_n hx hb d_Un_encodedByte_12 rfl (lv_at hl 1 rfl) ?_
    refine lv_bipush (v := nI 6) hx hb d_Un_encodedByte_13 (by decide) ?_
    refine lv_iload_n hx hb d_Un_encodedByte_15 rfl (lv_at hl 0 rfl) ?_
    refine lv_iconst (v := nI 1) hx hb d_Un_encodedByte_16 (by decide) ?_
    refine lv_isub hx hb d_Un_encodedByte_17 ?_
    refine mk_ti (y := nI 1) (pk_sub (by omega)) ?_
    refine lv_iload_n hx hb d_Un_encodedByte_18 rfl (lv_at hl 2 rfl) ?_
    refine lv_isub hx hb d_Un_encodedByte_19 ?_
    refine mk_ti (y := nI 1) (pk_sub (by omega)) ?_
    refine lv_imul hx hb d_Un_encodedByte_20 ?_
    refine mk_ti (y := nI 6) (by decide) ?_
    refine lv_ishr hx hb d_Un_encodedByte_21 ?_
    refine mk_ti (y := nI (u / 2 ^ 6)) (pk_shrN (by omega) _ 6 (by decide)) ?_
    refine lv_istore_n (lv' := [(3, .int (nI (u / 2 ^ 6))), (2, .int (nI 2)), (0, .int (nI u)), (1, .int (nI 0))]) hx hb d_Un_encodedByte_22 rfl hl (by decide) rfl (fun ls hl => ?_)
    refine lv_iload_n hx hb d_Un_encodedByte_23 rfl (lv_at hl 3 rfl) ?_
    refine lv_if_le (tgt := 36) hx hb d_Un_encodedByte_24 (by decide) (fun c_3 => ?_) (fun c_3 => ?_)
    · skip
      rw [mk_cle (by omega)] at c_3
      refine lv_iload_n hx hb d_Un_encodedByte_36 rfl (lv_at hl 1 rfl) ?_
      refine lv_iconst (v := nI 2) hx hb d_Un_encodedByte_37 (by decide) ?_
      refine lv_icmp_ne (tgt := 47) hx hb d_Un_encodedByte_38 (by decide) (fun c_4 => ?_) (fun c_4 => ?_)
      · skip
        rw [nI_eq (by omega) (by omega)] at c_4
        omega
      · skip
        rw [nI_eq (by omega) (by omega)] at c_4
        refine lv_sipush (v := nI 192) hx hb d_Un_encodedByte_41 (by decide) ?_
        refine lv_goto (tgt := 50) hx hb d_Un_encodedByte_44 (by decide) ?_
        refine lv_iload_n hx hb d_Un_encodedByte_50 rfl (lv_at hl 0 rfl) ?_
        refine lv_iadd hx hb d_Un_encodedByte_51 ?_
        refine mk_ti (y := nI (192 + u / 2 ^ 6)) (nI_add 192 (u / 2 ^ 6)) ?_
        exact hret _ _ d_Un_encodedByte_52
    · skip
      rw [mk_cle (by omega)] at c_3
      omega
  · skip
    rw [nI_eq (by omega) (by omega)] at c_2
    omega

set_option maxHeartbeats 4000000 in
set_option maxRecDepth 100000 in
theorem c_Un_eb21 (l : Launch) (dC : Nat → ClassId) (dI : Nat → Nat → Nat) (cI : ClassId) (u : Nat) (hu : u < 65536) (hu1 : 128 ≤ u ∧ u < 2048) : mR l y_Un_encodedByte w_Un_encodedByte ({ frames := 1, cells := 0, slots := 0, locals := 20 } : Room) [.int (nI u), .int (nI 1)] (dC, dI) vwCl [(cI, .int)] [] (some (.int (nI (128 + u / 2 ^ 0 % 2 ^ 6)))) := by
  refine mk_Ri (cc := b_Un_encodedByte) (maxL := 4) (by decide) rfl (Nat.le_of_ble_eq_true rfl) rfl ?_
  intro p e s m below meth c Q A ls S hP hK hT hS hl hret
  obtain ⟨hx, hb, hml, hown, hts⟩ := id S
  have hl : lv_has ls 4 [(0, .int (nI u)), (1, .int (nI 1))] := hl
  refine lv_iload_n hx hb d_Un_encodedByte_0 rfl (lv_at hl 0 rfl) ?_
  refine mk_r1 (W.runS (As := [.int (nI u)]) (rest := []) S (c_Un_wd l dC dI cI u (by first | assumption | omega)) (gS 1 hts k_183 k_170 k_30 k_171 (by decide +kernel) ⟨Nat.le_of_ble_eq_true rfl, Nat.le_of_ble_eq_true rfl⟩) (mk_sR hP hK hT hS [] rfl) rfl rfl hl.1 rfl (lv_room (Nat.le_of_ble_eq_true rfl)) d_Un_encodedByte_1 ⟨Nat.zero_le _, Nat.zero_le _⟩) ?_
  refine mk_ti (y := nI 2) (by rw [show wdN u = 2 from (by unfold wdN; (repeat' split) <;> omega)]) ?_
  have b_1 := wdN_in u
  refine lv_istore_n (lv' := [(2, .int (nI 2)), (0, .int (nI u)), (1, .int (nI 1))]) hx hb d_Un_encodedByte_4 rfl hl (by decide) rfl (fun ls hl => ?_)
  refine lv_iload_n hx hb d_Un_encodedByte_5 rfl (lv_at hl 0 rfl) ?_
  refine lv_iconst (v := nI 1) hx hb d_Un_encodedByte_6 (by decide) ?_
  refine lv_icmp_ne (tgt := 12) hx hb d_Un_encodedByte_7 (by decide) (fun c_2 => ?_) (fun c_2 => ?_)
  · skip
    rw [nI_eq (by omega) (by omega)] at c_2
    refine lv_iload_n hx hb d_Un_encodedByte_12 rfl (lv_at hl 1 rfl) ?_
    refine lv_bipush (v := nI 6) hx hb d_Un_encodedByte_13 (by decide) ?_
    refine lv_iload_n hx hb d_Un_encodedByte_15 rfl (lv_at hl 0 rfl) ?_
    refine lv_iconst (v := nI 1) hx hb d_Un_encodedByte_16 (by decide) ?_
    refine lv_isub hx hb d_Un_encodedByte_17 ?_
    refine mk_ti (y := nI 1) (pk_sub (by omega)) ?_
    refine lv_iload_n hx hb d_Un_encodedByte_18 rfl (lv_at hl 2 rfl) ?_
    refine lv_isub hx hb d_Un_encodedByte_19 ?_
    refine mk_ti (y := nI 0) (pk_sub (by omega)) ?_
    refine lv_imul hx hb d_Un_encodedByte_20 ?_
    refine mk_ti (y := nI 0) (by decide) ?_
    refine lv_ishr hx hb d_Un_encodedByte_21 ?_
    refine mk_ti (y := nI (u / 2 ^ 0)) (pk_shrN (by omega) _ 0 (by decide)) ?_
    refine lv_istore_n (lv' := [(3, .int (nI (u / 2 ^ 0))), (2, .int (nI 2)), (0, .int (nI u)), (1, .int (nI 1))]) hx hb d_Un_encodedByte_22 rfl hl (by decide) rfl (fun ls hl => ?_)
    refine lv_iload_n hx hb d_Un_encodedByte_23 rfl (lv_at hl 3 rfl) ?_
    refine lv_if_le (tgt := 36) hx hb d_Un_encodedByte_24 (by decide) (fun c_3 => ?_) (fun c_3 => ?_)
    · skip
      rw [mk_cle (by omega)] at c_3
      omega
    · skip
      rw [mk_cle (by omega)] at c_3
      refine lv_sipush (v := nI 128) hx hb d_Un_encodedByte_27 (by decide) ?_
      refine lv_iload_n hx hb d_Un_encodedByte_30 rfl (lv_at hl 0 rfl) ?_
      refine lv_bipush (v := nI 63) hx hb d_Un_encodedByte_31 (by decide) ?_
      refine lv_iand hx hb d_Un_encodedByte_33 ?_
      refine mk_ti (y := nI (u / 2 ^ 0 % 2 ^ 6)) (pk_andN (by omega) 6 (by decide)) ?_
      refine lv_iadd hx hb d_Un_encodedByte_34 ?_
      refine mk_ti (y := nI (128 + u / 2 ^ 0 % 2 ^ 6)) (nI_add 128 (u / 2 ^ 0 % 2 ^ 6)) ?_
      exact hret _ _ d_Un_encodedByte_35
  · skip
    rw [nI_eq (by omega) (by omega)] at c_2
    omega

set_option maxHeartbeats 4000000 in
set_option maxRecDepth 100000 in
theorem c_Un_eb30 (l : Launch) (dC : Nat → ClassId) (dI : Nat → Nat → Nat) (cI : ClassId) (u : Nat) (hu : u < 65536) (hu1 : 2048 ≤ u) : mR l y_Un_encodedByte w_Un_encodedByte ({ frames := 1, cells := 0, slots := 0, locals := 20 } : Room) [.int (nI u), .int (nI 0)] (dC, dI) vwCl [(cI, .int)] [] (some (.int (nI (224 + u / 2 ^ 12)))) := by
  refine mk_Ri (cc := b_Un_encodedByte) (maxL := 4) (by decide) rfl (Nat.le_of_ble_eq_true rfl) rfl ?_
  intro p e s m below meth c Q A ls S hP hK hT hS hl hret
  obtain ⟨hx, hb, hml, hown, hts⟩ := id S
  have hl : lv_has ls 4 [(0, .int (nI u)), (1, .int (nI 0))] := hl
  refine lv_iload_n hx hb d_Un_encodedByte_0 rfl (lv_at hl 0 rfl) ?_
  refine mk_r1 (W.runS (As := [.int (nI u)]) (rest := []) S (c_Un_wd l dC dI cI u (by first | assumption | omega)) (gS 1 hts k_183 k_170 k_30 k_171 (by decide +kernel) ⟨Nat.le_of_ble_eq_true rfl, Nat.le_of_ble_eq_true rfl⟩) (mk_sR hP hK hT hS [] rfl) rfl rfl hl.1 rfl (lv_room (Nat.le_of_ble_eq_true rfl)) d_Un_encodedByte_1 ⟨Nat.zero_le _, Nat.zero_le _⟩) ?_
  refine mk_ti (y := nI 3) (by rw [show wdN u = 3 from (by unfold wdN; (repeat' split) <;> omega)]) ?_
  have b_1 := wdN_in u
  refine lv_istore_n (lv' := [(2, .int (nI 3)), (0, .int (nI u)), (1, .int (nI 0))]) hx hb d_Un_encodedByte_4 rfl hl (by decide) rfl (fun ls hl => ?_)
  refine lv_iload_n hx hb d_Un_encodedByte_5 rfl (lv_at hl 0 rfl) ?_
  refine lv_iconst (v := nI 1) hx hb d_Un_encodedByte_6 (by decide) ?_
  refine lv_icmp_ne (tgt := 12) hx hb d_Un_encodedByte_7 (by decide) (fun c_2 => ?_) (fun c_2 => ?_)
  · skip
    rw [nI_eq (by omega) (by omega)] at c_2
    refine lv_iload_n hx hb d_Un_encodedByte_12 rfl (lv_at hl 1 rfl) ?_
    refine lv_bipush (v := nI 6) hx hb d_Un_encodedByte_13 (by decide) ?_
    refine lv_iload_n hx hb d_Un_encodedByte_15 rfl (lv_at hl 0 rfl) ?_
    refine lv_iconst (v := nI 1) hx hb d_Un_encodedByte_16 (by decide) ?_
    refine lv_isub hx hb d_Un_encodedByte_17 ?_
    refine mk_ti (y := nI 2) (pk_sub (by omega)) ?_
    refine lv_iload_n hx hb d_Un_encodedByte_18 rfl (lv_at hl 2 rfl) ?_
    refine lv_isub hx hb d_Un_encodedByte_19 ?_
    refine mk_ti (y := nI 2) (pk_sub (by omega)) ?_
    refine lv_imul hx hb d_Un_encodedByte_20 ?_
    refine mk_ti (y := nI 12) (by decide) ?_
    refine lv_ishr hx hb d_Un_encodedByte_21 ?_
    refine mk_ti (y := nI (u / 2 ^ 12)) (pk_shrN (by omega) _ 12 (by decide)) ?_
    refine lv_istore_n (lv' := [(3, .int (nI (u / 2 ^ 12))), (2, .int (nI 3)), (0, .int (nI u)), (1, .int (nI 0))]) hx hb d_Un_encodedByte_22 rfl hl (by decide) rfl (fun ls hl => ?_)
    refine lv_iload_n hx hb d_Un_encodedByte_23 rfl (lv_at hl 3 rfl) ?_
    refine lv_if_le (tgt := 36) hx hb d_Un_encodedByte_24 (by decide) (fun c_3 => ?_) (fun c_3 => ?_)
    · skip
      rw [mk_cle (by omega)] at c_3
      refine lv_iload_n hx hb d_Un_encodedByte_36 rfl (lv_at hl 1 rfl) ?_
      refine lv_iconst (v := nI 2) hx hb d_Un_encodedByte_37 (by decide) ?_
      refine lv_icmp_ne (tgt := 47) hx hb d_Un_encodedByte_38 (by decide) (fun c_4 => ?_) (fun c_4 => ?_)
      · skip
        rw [nI_eq (by omega) (by omega)] at c_4
        refine lv_sipush (v := nI 224) hx hb d_Un_encodedByte_47 (by decide) ?_
        refine lv_iload_n hx hb d_Un_encodedByte_50 rfl (lv_at hl 0 rfl) ?_
        refine lv_iadd hx hb d_Un_encodedByte_51 ?_
        refine mk_ti (y := nI (224 + u / 2 ^ 12)) (nI_add 224 (u / 2 ^ 12)) ?_
        exact hret _ _ d_Un_encodedByte_52
      · skip
        rw [nI_eq (by omega) (by omega)] at c_4
        omega
    · skip
      rw [mk_cle (by omega)] at c_3
      omega
  · skip
    rw [nI_eq (by omega) (by omega)] at c_2
    omega

set_option maxHeartbeats 4000000 in
set_option maxRecDepth 100000 in
theorem c_Un_eb31 (l : Launch) (dC : Nat → ClassId) (dI : Nat → Nat → Nat) (cI : ClassId) (u : Nat) (hu : u < 65536) (hu1 : 2048 ≤ u) : mR l y_Un_encodedByte w_Un_encodedByte ({ frames := 1, cells := 0, slots := 0, locals := 20 } : Room) [.int (nI u), .int (nI 1)] (dC, dI) vwCl [(cI, .int)] [] (some (.int (nI (128 + u / 2 ^ 6 % 2 ^ 6)))) := by
  refine mk_Ri (cc := b_Un_encodedByte) (maxL := 4) (by decide) rfl (Nat.le_of_ble_eq_true rfl) rfl ?_
  intro p e s m below meth c Q A ls S hP hK hT hS hl hret
  obtain ⟨hx, hb, hml, hown, hts⟩ := id S
  have hl : lv_has ls 4 [(0, .int (nI u)), (1, .int (nI 1))] := hl
  refine lv_iload_n hx hb d_Un_encodedByte_0 rfl (lv_at hl 0 rfl) ?_
  refine mk_r1 (W.runS (As := [.int (nI u)]) (rest := []) S (c_Un_wd l dC dI cI u (by first | assumption | omega)) (gS 1 hts k_183 k_170 k_30 k_171 (by decide +kernel) ⟨Nat.le_of_ble_eq_true rfl, Nat.le_of_ble_eq_true rfl⟩) (mk_sR hP hK hT hS [] rfl) rfl rfl hl.1 rfl (lv_room (Nat.le_of_ble_eq_true rfl)) d_Un_encodedByte_1 ⟨Nat.zero_le _, Nat.zero_le _⟩) ?_
  refine mk_ti (y := nI 3) (by rw [show wdN u = 3 from (by unfold wdN; (repeat' split) <;> omega)]) ?_
  have b_1 := wdN_in u
  refine lv_istore_n (lv' := [(2, .int (nI 3)), (0, .int (nI u)), (1, .int (nI 1))]) hx hb d_Un_encodedByte_4 rfl hl (by decide) rfl (fun ls hl => ?_)
  refine lv_iload_n hx hb d_Un_encodedByte_5 rfl (lv_at hl 0 rfl) ?_
  refine lv_iconst (v := nI 1) hx hb d_Un_encodedByte_6 (by decide) ?_
  refine lv_icmp_ne (tgt := 12) hx hb d_Un_encodedByte_7 (by decide) (fun c_2 => ?_) (fun c_2 => ?_)
  · skip
    rw [nI_eq (by omega) (by omega)] at c_2
    refine lv_iload_n hx hb d_Un_encodedByte_12 rfl (lv_at hl 1 rfl) ?_
    refine lv_bipush (v := nI 6) hx hb d_Un_encodedByte_13 (by decide) ?_
    refine lv_iload_n hx hb d_Un_encodedByte_15 rfl (lv_at hl 0 rfl) ?_
    refine lv_iconst (v := nI 1) hx hb d_Un_encodedByte_16 (by decide) ?_
    refine lv_isub hx hb d_Un_encodedByte_17 ?_
    refine mk_ti (y := nI 2) (pk_sub (by omega)) ?_
    refine lv_iload_n hx hb d_Un_encodedByte_18 rfl (lv_at hl 2 rfl) ?_
    refine lv_isub hx hb d_Un_encodedByte_19 ?_
    refine mk_ti (y := nI 1) (pk_sub (by omega)) ?_
    refine lv_imul hx hb d_Un_encodedByte_20 ?_
    refine mk_ti (y := nI 6) (by decide) ?_
    refine lv_ishr hx hb d_Un_encodedByte_21 ?_
    refine mk_ti (y := nI (u / 2 ^ 6)) (pk_shrN (by omega) _ 6 (by decide)) ?_
    refine lv_istore_n (lv' := [(3, .int (nI (u / 2 ^ 6))), (2, .int (nI 3)), (0, .int (nI u)), (1, .int (nI 1))]) hx hb d_Un_encodedByte_22 rfl hl (by decide) rfl (fun ls hl => ?_)
    refine lv_iload_n hx hb d_Un_encodedByte_23 rfl (lv_at hl 3 rfl) ?_
    refine lv_if_le (tgt := 36) hx hb d_Un_encodedByte_24 (by decide) (fun c_3 => ?_) (fun c_3 => ?_)
    · skip
      rw [mk_cle (by omega)] at c_3
      omega
    · skip
      rw [mk_cle (by omega)] at c_3
      refine lv_sipush (v := nI 128) hx hb d_Un_encodedByte_27 (by decide) ?_
      refine lv_iload_n hx hb d_Un_encodedByte_30 rfl (lv_at hl 0 rfl) ?_
      refine lv_bipush (v := nI 63) hx hb d_Un_encodedByte_31 (by decide) ?_
      refine lv_iand hx hb d_Un_encodedByte_33 ?_
      refine mk_ti (y := nI (u / 2 ^ 6 % 2 ^ 6)) (pk_andN (by omega) 6 (by decide)) ?_
      refine lv_iadd hx hb d_Un_encodedByte_34 ?_
      refine mk_ti (y := nI (128 + u / 2 ^ 6 % 2 ^ 6)) (nI_add 128 (u / 2 ^ 6 % 2 ^ 6)) ?_
      exact hret _ _ d_Un_encodedByte_35
  · skip
    rw [nI_eq (by omega) (by omega)] at c_2
    omega

set_option maxHeartbeats 4000000 in
set_option maxRecDepth 100000 in
theorem c_Un_eb32 (l : Launch) (dC : Nat → ClassId) (dI : Nat → Nat → Nat) (cI : ClassId) (u : Nat) (hu : u < 65536) (hu1 : 2048 ≤ u) : mR l y_Un_encodedByte w_Un_encodedByte ({ frames := 1, cells := 0, slots := 0, locals := 20 } : Room) [.int (nI u), .int (nI 2)] (dC, dI) vwCl [(cI, .int)] [] (some (.int (nI (128 + u / 2 ^ 0 % 2 ^ 6)))) := by
  refine mk_Ri (cc := b_Un_encodedByte) (maxL := 4) (by decide) rfl (Nat.le_of_ble_eq_true rfl) rfl ?_
  intro p e s m below meth c Q A ls S hP hK hT hS hl hret
  obtain ⟨hx, hb, hml, hown, hts⟩ := id S
  have hl : lv_has ls 4 [(0, .int (nI u)), (1, .int (nI 2))] := hl
  refine lv_iload_n hx hb d_Un_encodedByte_0 rfl (lv_at hl 0 rfl) ?_
  refine mk_r1 (W.runS (As := [.int (nI u)]) (rest := []) S (c_Un_wd l dC dI cI u (by first | assumption | omega)) (gS 1 hts k_183 k_170 k_30 k_171 (by decide +kernel) ⟨Nat.le_of_ble_eq_true rfl, Nat.le_of_ble_eq_true rfl⟩) (mk_sR hP hK hT hS [] rfl) rfl rfl hl.1 rfl (lv_room (Nat.le_of_ble_eq_true rfl)) d_Un_encodedByte_1 ⟨Nat.zero_le _, Nat.zero_le _⟩) ?_
  refine mk_ti (y := nI 3) (by rw [show wdN u = 3 from (by unfold wdN; (repeat' split) <;> omega)]) ?_
  have b_1 := wdN_in u
  refine lv_istore_n (lv' := [(2, .int (nI 3)), (0, .int (nI u)), (1, .int (nI 2))]) hx hb d_Un_encodedByte_4 rfl hl (by decide) rfl (fun ls hl => ?_)
  refine lv_iload_n hx hb d_Un_encodedByte_5 rfl (lv_at hl 0 rfl) ?_
  refine lv_iconst (v := nI 1) hx hb d_Un_encodedByte_6 (by decide) ?_
  refine lv_icmp_ne (tgt := 12) hx hb d_Un_encodedByte_7 (by decide) (fun c_2 => ?_) (fun c_2 => ?_)
  · skip
    rw [nI_eq (by omega) (by omega)] at c_2
    refine lv_iload_n hx hb d_Un_encodedByte_12 rfl (lv_at hl 1 rfl) ?_
    refine lv_bipush (v := nI 6) hx hb d_Un_encodedByte_13 (by decide) ?_
    refine lv_iload_n hx hb d_Un_encodedByte_15 rfl (lv_at hl 0 rfl) ?_
    refine lv_iconst (v := nI 1) hx hb d_Un_encodedByte_16 (by decide) ?_
    refine lv_isub hx hb d_Un_encodedByte_17 ?_
    refine mk_ti (y := nI 2) (pk_sub (by omega)) ?_
    refine lv_iload_n hx hb d_Un_encodedByte_18 rfl (lv_at hl 2 rfl) ?_
    refine lv_isub hx hb d_Un_encodedByte_19 ?_
    refine mk_ti (y := nI 0) (pk_sub (by omega)) ?_
    refine lv_imul hx hb d_Un_encodedByte_20 ?_
    refine mk_ti (y := nI 0) (by decide) ?_
    refine lv_ishr hx hb d_Un_encodedByte_21 ?_
    refine mk_ti (y := nI (u / 2 ^ 0)) (pk_shrN (by omega) _ 0 (by decide)) ?_
    refine lv_istore_n (lv' := [(3, .int (nI (u / 2 ^ 0))), (2, .int (nI 3)), (0, .int (nI u)), (1, .int (nI 2))]) hx hb d_Un_encodedByte_22 rfl hl (by decide) rfl (fun ls hl => ?_)
    refine lv_iload_n hx hb d_Un_encodedByte_23 rfl (lv_at hl 3 rfl) ?_
    refine lv_if_le (tgt := 36) hx hb d_Un_encodedByte_24 (by decide) (fun c_3 => ?_) (fun c_3 => ?_)
    · skip
      rw [mk_cle (by omega)] at c_3
      omega
    · skip
      rw [mk_cle (by omega)] at c_3
      refine lv_sipush (v := nI 128) hx hb d_Un_encodedByte_27 (by decide) ?_
      refine lv_iload_n hx hb d_Un_encodedByte_30 rfl (lv_at hl 0 rfl) ?_
      refine lv_bipush (v := nI 63) hx hb d_Un_encodedByte_31 (by decide) ?_
      refine lv_iand hx hb d_Un_encodedByte_33 ?_
      refine mk_ti (y := nI (u / 2 ^ 0 % 2 ^ 6)) (pk_andN (by omega) 6 (by decide)) ?_
      refine lv_iadd hx hb d_Un_encodedByte_34 ?_
      refine mk_ti (y := nI (128 + u / 2 ^ 0 % 2 ^ 6)) (nI_add 128 (u / 2 ^ 0 % 2 ^ 6)) ?_
      exact hret _ _ d_Un_encodedByte_35
  · skip
    rw [nI_eq (by omega) (by omega)] at c_2
    omega

theorem c_Un_eb (l : Launch) (dC : Nat → ClassId) (dI : Nat → Nat → Nat) (cI : ClassId) (u t : Nat) (hu : u < 65536) (ht : t < wdN u) : mR l y_Un_encodedByte w_Un_encodedByte ({ frames := 1, cells := 0, slots := 0, locals := 20 } : Room) [.int (nI u), .int (nI t)] (dC, dI) vwCl [(cI, .int)] [] (some (.int (nI (ebN u t)))) := by
  have h6 : (t = 0 ∧ u < 128) ∨ (t = 0 ∧ 128 ≤ u ∧ u < 2048) ∨ (t = 1 ∧ 128 ≤ u ∧ u < 2048) ∨ (t = 0 ∧ 2048 ≤ u) ∨ (t = 1 ∧ 2048 ≤ u) ∨ (t = 2 ∧ 2048 ≤ u) := by
    revert ht; unfold wdN; (repeat' split) <;> omega
  rcases h6 with ⟨rfl, h7⟩ | ⟨rfl, h7⟩ | ⟨rfl, h7⟩ | ⟨rfl, h7⟩ | ⟨rfl, h7⟩ | ⟨rfl, h7⟩
  · rw [show ebN u 0 = u from (by unfold ebN; (repeat' split) <;> omega)]; exact c_Un_eb1 l dC dI cI u hu h7
  · rw [show ebN u 0 = 192 + u / 2 ^ 6 from (by unfold ebN; (repeat' split) <;> omega)]; exact c_Un_eb20 l dC dI cI u hu h7
  · rw [show ebN u 1 = 128 + u / 2 ^ 0 % 2 ^ 6 from (by unfold ebN; (repeat' split) <;> omega)]; exact c_Un_eb21 l dC dI cI u hu h7
  · rw [show ebN u 0 = 224 + u / 2 ^ 12 from (by unfold ebN; (repeat' split) <;> omega)]; exact c_Un_eb30 l dC dI cI u hu h7
  · rw [show ebN u 1 = 128 + u / 2 ^ 6 % 2 ^ 6 from (by unfold ebN; (repeat' split) <;> omega)]; exact c_Un_eb31 l dC dI cI u hu h7
  · rw [show ebN u 2 = 128 + u / 2 ^ 0 % 2 ^ 6 from (by unfold ebN; (repeat' split) <;> omega)]; exact c_Un_eb32 l dC dI cI u hu h7

