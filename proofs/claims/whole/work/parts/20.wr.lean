set_option maxHeartbeats 4000000 in
set_option maxRecDepth 100000 in
theorem c_LN_writeS0 (l : Launch) (dC : Nat → ClassId) (dI : Nat → Nat → Nat) (cI : ClassId) (x f0 a0 n0 : Nat) (v0 : Nat → Nat) (f1 a1 n1 : Nat) (v1 : Nat → Nat) (h a : Nat) (b : Nat → Nat) (hp ap : Nat) (pb : Nat → Nat) (hs as : Nat) (B : Nat → Nat) (q : Nat) (hn0 : n0 ≤ 255) (hv0 : ∀ j, v0 j < 65536) (hn1 : n1 ≤ 255) (hv1 : ∀ j, v1 j < 65536) (hb9 : ∀ j, b j < 65536) (hpb : ∀ j, pb j < 65536) (hB : ∀ j, B j < 256) (h1 : nameN v0 n0 = true) (h2 : shortN v0 n0 = true) (hq : q < 32) : mM l y_LN_write w_LN_write ({ frames := 5, cells := 0, slots := 0, locals := 112 } : Room) [.ref x, .int (nI 0), .int (nI q), .int (nI 0)] (dC, dI) vwCl [(cI, .int)] [(x, .inr (0, [.ref f0, .ref f1, .ref h, .ref hp, .ref hs])), (f0, .inr (1, [.ref a0, .int (nI n0)])), (a0, .inl (cI, 255, .inl (nf v0))), (f1, .inr (1, [.ref a1, .int (nI n1)])), (a1, .inl (cI, 255, .inl (nf v1))), (h, .inr (2, [.ref a])), (a, .inl (cI, 11, .inl (nf b))), (hp, .inr (3, [.ref ap])), (ap, .inl (cI, 32, .inl (nf pb))), (hs, .inr (4, [.ref as])), (as, .inl (cI, 1024, .inl (nf B)))] (some (.int (nI (0 + 1)))) [(x, .inr (0, [.ref f0, .ref f1, .ref h, .ref hp, .ref hs])), (f0, .inr (1, [.ref a0, .int (nI n0)])), (a0, .inl (cI, 255, .inl (nf v0))), (f1, .inr (1, [.ref a1, .int (nI n1)])), (a1, .inl (cI, 255, .inl (nf v1))), (h, .inr (2, [.ref a])), (a, .inl (cI, 11, .inl (nf (tsN v0 n0 b)))), (hp, .inr (3, [.ref ap])), (ap, .inl (cI, 32, .inl (nf (wpB v0 n0 (suN (stN B (enN (tsN v0 n0 b)) ((q + 0) * 32) 32) ((q + 0) * 32) 11) pb 0)))), (hs, .inr (4, [.ref as])), (as, .inl (cI, 1024, .inl (nf (wsB v0 n0 (suN (stN B (enN (tsN v0 n0 b)) ((q + 0) * 32) 32) ((q + 0) * 32) 11) (q + 0) pb (stN B (enN (tsN v0 n0 b)) ((q + 0) * 32) 32) 0))))] := by
  have htb : ∀ j, (tsN v0 n0 b) j < 65536 := tsN_lt hv0 hb9
  refine mk_Mi (cc := b_LN_write) (maxL := 6) (by decide) rfl (Nat.le_of_ble_eq_true rfl) rfl ?_
  intro p e s m below meth c Q A ls S hP hK hT hS hl hD hA hret
  obtain ⟨hx, hb, hml, hown, hts⟩ := id S
  have hl : lv_has ls 6 [(0, .ref x), (1, .int (nI 0)), (2, .int (nI q)), (3, .int (nI 0))] := hl
  refine lv_aload_n hx hb d_LN_write_0 rfl (lv_at hl 0 rfl) ?_
  refine lv_iload_n hx hb d_LN_write_1 rfl (lv_at hl 1 rfl) ?_
  refine mk_r1 (W.runV (As := [.int (nI 0)]) (rest := []) S (c_LN_row0 l dC dI cI x f0 f1 h hp hs) (gV 1 hts k_111 k_113 k_0 k_24 k_114 (by decide +kernel) ⟨Nat.le_of_ble_eq_true rfl, Nat.le_of_ble_eq_true rfl⟩) (mk_vR hP hK hT hS [0] rfl (q0 := 0) (ci := 0) rfl rfl) rfl rfl hl.1 rfl (lv_room (Nat.le_of_ble_eq_true rfl)) d_LN_write_2 ⟨Nat.zero_le _, Nat.zero_le _⟩) ?_
  refine lv_astore (lv' := [(4, .ref f0), (0, .ref x), (1, .int (nI 0)), (2, .int (nI q)), (3, .int (nI 0))]) hx hb d_LN_write_5 hl (by decide) rfl (fun ls hl => ?_)
  refine lv_aload hx hb d_LN_write_7 (lv_at hl 0 rfl) ?_
  refine lv_ifnull hx hb d_LN_write_9 ?_
  refine lv_aload hx hb d_LN_write_12 (lv_at hl 0 rfl) ?_
  refine mk_r1 (W.runV (As := []) (rest := []) S (c_Ro_name l dC dI cI f0 a0 n0 v0 (by first | assumption | omega) (by first | assumption | omega)) (gV 0 hts k_136 k_137 k_138 k_25 k_139 (by decide +kernel) ⟨Nat.le_of_ble_eq_true rfl, Nat.le_of_ble_eq_true rfl⟩) (mk_vR hP hK hT hS [1, 2] rfl (q0 := 1) (ci := 1) rfl rfl) rfl rfl hl.1 rfl (lv_room (Nat.le_of_ble_eq_true rfl)) d_LN_write_14 ⟨Nat.zero_le _, Nat.zero_le _⟩) ?_
  refine lv_if_ne (tgt := 30) hx hb d_LN_write_17 (by decide) (fun c_1 => ?_) (fun c_1 => ?_)
  · skip
    have c_1 := bI_1 c_1
    refine lv_iload_n hx hb d_LN_write_30 rfl (lv_at hl 4 rfl) ?_
    refine lv_if_lt (tgt := 41) hx hb d_LN_write_31 (by decide) (fun c_2 => ?_) (fun c_2 => ?_)
    · skip
      rw [mk_clt (by omega)] at c_2
      first | omega | contradiction
    · skip
      rw [mk_clt (by omega)] at c_2
      refine lv_iload_n hx hb d_LN_write_34 rfl (lv_at hl 4 rfl) ?_
      refine lv_sipush (v := nI 9999) hx hb d_LN_write_35 (by decide) ?_
      refine lv_icmp_le (tgt := 51) hx hb d_LN_write_38 (by decide) (fun c_3 => ?_) (fun c_3 => ?_)
      · skip
        rw [nI_leI (by omega) (by omega)] at c_3
        refine lv_iload_n hx hb d_LN_write_51 rfl (lv_at hl 4 rfl) ?_
        refine lv_if_ne (tgt := 73) hx hb d_LN_write_52 (by decide) (fun c_4 => ?_) (fun c_4 => ?_)
        · skip
          rw [mk_ceq (by omega)] at c_4
          first | omega | contradiction
        · skip
          rw [mk_ceq (by omega)] at c_4
          refine lv_aload hx hb d_LN_write_55 (lv_at hl 0 rfl) ?_
          refine mk_r1 (W.runV (As := []) (rest := []) S (c_Ro_short l dC dI cI f0 a0 n0 v0 (by first | assumption | omega) (by first | assumption | omega)) (gV 0 hts k_150 k_151 k_152 k_25 k_153 (by decide +kernel) ⟨Nat.le_of_ble_eq_true rfl, Nat.le_of_ble_eq_true rfl⟩) (mk_vR hP hK hT hS [1, 2] rfl (q0 := 1) (ci := 1) rfl rfl) rfl rfl hl.1 rfl (lv_room (Nat.le_of_ble_eq_true rfl)) d_LN_write_57 ⟨Nat.zero_le _, Nat.zero_le _⟩) ?_
          refine lv_if_ne (tgt := 73) hx hb d_LN_write_60 (by decide) (fun c_5 => ?_) (fun c_5 => ?_)
          · skip
            have c_5 := bI_1 c_5
            refine lv_iload_n hx hb d_LN_write_73 rfl (lv_at hl 4 rfl) ?_
            refine lv_if_ne (tgt := 81) hx hb d_LN_write_74 (by decide) (fun c_6 => ?_) (fun c_6 => ?_)
            · skip
              rw [mk_ceq (by omega)] at c_6
              first | omega | contradiction
            · skip
              rw [mk_ceq (by omega)] at c_6
              refine lv_iconst (v := nI 0) hx hb d_LN_write_77 (by decide) ?_
              refine lv_goto (tgt := 86) hx hb d_LN_write_78 (by decide) ?_
              refine lv_istore (lv' := [(5, .int (nI 0)), (4, .ref f0), (0, .ref x), (1, .int (nI 0)), (2, .int (nI q)), (3, .int (nI 0))]) hx hb d_LN_write_86 hl (by decide) rfl (fun ls hl => ?_)
              refine lv_iload_n hx hb d_LN_write_88 rfl (lv_at hl 4 rfl) ?_
              refine mk_r1 (W.runS (As := [.int (nI q)]) (rest := []) S (c_Sl_isN l dC dI cI q (by first | assumption | omega)) (gS 1 hts k_221 k_207 k_28 k_208 (by decide +kernel) ⟨Nat.le_of_ble_eq_true rfl, Nat.le_of_ble_eq_true rfl⟩) (mk_sR hP hK hT hS [] rfl) rfl rfl hl.1 rfl (lv_room (Nat.le_of_ble_eq_true rfl)) d_LN_write_89 ⟨Nat.zero_le _, Nat.zero_le _⟩) ?_
              refine lv_if_eq (tgt := 105) hx hb d_LN_write_92 (by decide) (fun c_7 => ?_) (fun c_7 => ?_)
              · skip
                rw [mk_ceq (by omega)] at c_7
                first | omega | contradiction
              · skip
                rw [mk_ceq (by omega)] at c_7
                refine lv_iload_n hx hb d_LN_write_95 rfl (lv_at hl 4 rfl) ?_
                refine lv_iload hx hb d_LN_write_96 (lv_at hl 0 rfl) ?_
                refine lv_iadd hx hb d_LN_write_98 ?_
                refine mk_ti (y := nI (q + 0)) (nI_add q 0) ?_
                refine mk_r1 (W.runS (As := [.int (nI (q + 0))]) (rest := []) S (c_Sl_isN l dC dI cI (q + 0) (by first | assumption | omega)) (gS 1 hts k_221 k_207 k_28 k_208 (by decide +kernel) ⟨Nat.le_of_ble_eq_true rfl, Nat.le_of_ble_eq_true rfl⟩) (mk_sR hP hK hT hS [] rfl) rfl rfl hl.1 rfl (lv_room (Nat.le_of_ble_eq_true rfl)) d_LN_write_99 ⟨Nat.zero_le _, Nat.zero_le _⟩) ?_
                refine lv_if_ne (tgt := 115) hx hb d_LN_write_102 (by decide) (fun c_8 => ?_) (fun c_8 => ?_)
                · skip
                  rw [mk_ceq (by omega)] at c_8
                  refine lv_iload_n hx hb d_LN_write_115 rfl (lv_at hl 5 rfl) ?_
                  refine lv_if_ne (tgt := 131) hx hb d_LN_write_116 (by decide) (fun c_9 => ?_) (fun c_9 => ?_)
                  · skip
                    rw [mk_ceq (by omega)] at c_9
                    first | omega | contradiction
                  · skip
                    rw [mk_ceq (by omega)] at c_9
                    refine lv_aload_n hx hb d_LN_write_119 rfl (lv_at hl 2 rfl) ?_
                    refine va_get (D := (dC, dI)) (ci := 0) (v := .ref h) (C := "LongNames") (T := F_LN) (N := 5) hx hb hts (iw_LN _) hown hK hP 0 rfl rfl 2 (by decide) (hts _ (List.mem_cons_of_mem _ k_93)) (fun _ h9 => h9) rfl d_LN_write_120 ?_
                    refine lv_aload hx hb d_LN_write_123 (lv_at hl 1 rfl) ?_
                    refine mk_w0 (wr := [(x, .inr (0, [.ref f0, .ref f1, .ref h, .ref hp, .ref hs])), (f1, .inr (1, [.ref a1, .int (nI n1)])), (a1, .inl (cI, 255, .inl (nf v1))), (hp, .inr (3, [.ref ap])), (ap, .inl (cI, 32, .inl (nf pb))), (hs, .inr (4, [.ref as])), (as, .inl (cI, 1024, .inl (nf B)))]) (W.runV (As := [.ref f0]) (rest := []) S ((c_Sn_shown l dC dI cI h a b f0 a0 n0 v0 (by first | assumption | omega) (by first | assumption | omega)) _) (gV 1 hts k_372 k_373 k_374 k_26 k_375 (by decide +kernel) ⟨Nat.le_of_ble_eq_true rfl, Nat.le_of_ble_eq_true rfl⟩) (mk_vM hP hD hK hT hS hA [5, 6, 1, 2] rfl rfl (by decide) (q0 := 5) (ci := 2) rfl rfl) rfl rfl hl.1 rfl (lv_room (Nat.le_of_ble_eq_true rfl)) d_LN_write_125 ⟨Nat.zero_le _, Nat.zero_le _⟩) hP hD hS hA [5, 6, 1, 2] [0, 3, 4, 7, 8, 9, 10] rfl rfl (by decide) (by decide) (fun H locs hP hD hS => ?_)
                    have hP : va_P (dC, dI) vwCl [(x, .inr (0, [.ref f0, .ref f1, .ref h, .ref hp, .ref hs])), (f0, .inr (1, [.ref a0, .int (nI n0)])), (a0, .inl (cI, 255, .inl (nf v0))), (f1, .inr (1, [.ref a1, .int (nI n1)])), (a1, .inl (cI, 255, .inl (nf v1))), (h, .inr (2, [.ref a])), (a, .inl (cI, 11, .inl (nf (tsN v0 n0 b)))), (hp, .inr (3, [.ref ap])), (ap, .inl (cI, 32, .inl (nf pb))), (hs, .inr (4, [.ref as])), (as, .inl (cI, 1024, .inl (nf B)))] H := hP.sub [0, 9, 10, 1, 2, 7, 8, 3, 4, 5, 6] rfl
                    have hD : va_D A [(x, .inr (0, [.ref f0, .ref f1, .ref h, .ref hp, .ref hs])), (f0, .inr (1, [.ref a0, .int (nI n0)])), (a0, .inl (cI, 255, .inl (nf v0))), (f1, .inr (1, [.ref a1, .int (nI n1)])), (a1, .inl (cI, 255, .inl (nf v1))), (h, .inr (2, [.ref a])), (a, .inl (cI, 11, .inl (nf (tsN v0 n0 b)))), (hp, .inr (3, [.ref ap])), (ap, .inl (cI, 32, .inl (nf pb))), (hs, .inr (4, [.ref as])), (as, .inl (cI, 1024, .inl (nf B)))] := hD.sub [0, 9, 10, 1, 2, 7, 8, 3, 4, 5, 6] (by decide) rfl
                    refine lv_goto (tgt := 141) hx hb d_LN_write_128 (by decide) ?_
                    refine lv_aload_n hx hb d_LN_write_141 rfl (lv_at hl 2 rfl) ?_
                    refine lv_aload hx hb d_LN_write_142 (lv_at hl 1 rfl) ?_
                    refine lv_iload_n hx hb d_LN_write_144 rfl (lv_at hl 4 rfl) ?_
                    refine lv_iload hx hb d_LN_write_145 (lv_at hl 0 rfl) ?_
                    refine lv_iadd hx hb d_LN_write_147 ?_
                    refine mk_ti (y := nI (q + 0)) (nI_add q 0) ?_
                    refine lv_iload hx hb d_LN_write_148 (lv_at hl 0 rfl) ?_
                    refine mk_w0 (wr := [(f1, .inr (1, [.ref a1, .int (nI n1)])), (a1, .inl (cI, 255, .inl (nf v1)))]) (W.runV (As := [.ref f0, .int (nI (q + 0)), .int (nI 0)]) (rest := []) S ((c_LN_ws l dC dI cI x f0 f1 h a (tsN v0 n0 b) hp ap pb hs as B f0 a0 n0 v0 (q + 0) 0 (by first | assumption | omega) (by first | assumption | omega) (by first | assumption | omega) (by first | assumption | omega) (by first | assumption | omega) (by first | assumption | omega) (by first | assumption | omega)) _) (gV 3 hts k_406 k_408 k_5 k_24 k_409 (by decide +kernel) ⟨Nat.le_of_ble_eq_true rfl, Nat.le_of_ble_eq_true rfl⟩) (mk_vM hP hD hK hT hS hA [0, 5, 6, 7, 8, 9, 10, 1, 2] rfl rfl (by decide) (q0 := 0) (ci := 0) rfl rfl) rfl rfl hl.1 rfl (lv_room (Nat.le_of_ble_eq_true rfl)) d_LN_write_150 ⟨Nat.zero_le _, Nat.zero_le _⟩) hP hD hS hA [0, 5, 6, 7, 8, 9, 10, 1, 2] [3, 4] rfl rfl (by decide) (by decide) (fun H locs hP hD hS => ?_)
                    have hP : va_P (dC, dI) vwCl [(x, .inr (0, [.ref f0, .ref f1, .ref h, .ref hp, .ref hs])), (f0, .inr (1, [.ref a0, .int (nI n0)])), (a0, .inl (cI, 255, .inl (nf v0))), (f1, .inr (1, [.ref a1, .int (nI n1)])), (a1, .inl (cI, 255, .inl (nf v1))), (h, .inr (2, [.ref a])), (a, .inl (cI, 11, .inl (nf (tsN v0 n0 b)))), (hp, .inr (3, [.ref ap])), (ap, .inl (cI, 32, .inl (nf (wpB v0 n0 (suN (stN B (enN (tsN v0 n0 b)) ((q + 0) * 32) 32) ((q + 0) * 32) 11) pb 0)))), (hs, .inr (4, [.ref as])), (as, .inl (cI, 1024, .inl (nf (wsB v0 n0 (suN (stN B (enN (tsN v0 n0 b)) ((q + 0) * 32) 32) ((q + 0) * 32) 11) (q + 0) pb (stN B (enN (tsN v0 n0 b)) ((q + 0) * 32) 32) 0))))] H := hP.sub [2, 9, 10, 0, 1, 3, 4, 5, 6, 7, 8] rfl
                    have hD : va_D A [(x, .inr (0, [.ref f0, .ref f1, .ref h, .ref hp, .ref hs])), (f0, .inr (1, [.ref a0, .int (nI n0)])), (a0, .inl (cI, 255, .inl (nf v0))), (f1, .inr (1, [.ref a1, .int (nI n1)])), (a1, .inl (cI, 255, .inl (nf v1))), (h, .inr (2, [.ref a])), (a, .inl (cI, 11, .inl (nf (tsN v0 n0 b)))), (hp, .inr (3, [.ref ap])), (ap, .inl (cI, 32, .inl (nf (wpB v0 n0 (suN (stN B (enN (tsN v0 n0 b)) ((q + 0) * 32) 32) ((q + 0) * 32) 11) pb 0)))), (hs, .inr (4, [.ref as])), (as, .inl (cI, 1024, .inl (nf (wsB v0 n0 (suN (stN B (enN (tsN v0 n0 b)) ((q + 0) * 32) 32) ((q + 0) * 32) 11) (q + 0) pb (stN B (enN (tsN v0 n0 b)) ((q + 0) * 32) 32) 0))))] := hD.sub [2, 9, 10, 0, 1, 3, 4, 5, 6, 7, 8] (by decide) rfl
                    refine lv_iload hx hb d_LN_write_153 (lv_at hl 0 rfl) ?_
                    refine lv_iconst (v := nI 1) hx hb d_LN_write_155 (by decide) ?_
                    refine lv_iadd hx hb d_LN_write_156 ?_
                    refine mk_ti (y := nI (0 + 1)) (nI_add 0 1) ?_
                    exact hret _ _ _ _ d_LN_write_157 hP hD hS
                · skip
                  rw [mk_ceq (by omega)] at c_8
                  first | omega | contradiction
          · skip
            have c_5 := bI_0 c_5
            rw [h2] at c_5; exact absurd c_5 (by decide)
      · skip
        rw [nI_leI (by omega) (by omega)] at c_3
        first | omega | contradiction
  · skip
    have c_1 := bI_0 c_1
    rw [h1] at c_1; exact absurd c_1 (by decide)

set_option maxHeartbeats 4000000 in
set_option maxRecDepth 100000 in
theorem c_LN_writeT0 (l : Launch) (dC : Nat → ClassId) (dI : Nat → Nat → Nat) (cI : ClassId) (x f0 a0 n0 : Nat) (v0 : Nat → Nat) (f1 a1 n1 : Nat) (v1 : Nat → Nat) (h a : Nat) (b : Nat → Nat) (hp ap : Nat) (pb : Nat → Nat) (hs as : Nat) (B : Nat → Nat) (q t : Nat) (hn0 : n0 ≤ 255) (hv0 : ∀ j, v0 j < 65536) (hn1 : n1 ≤ 255) (hv1 : ∀ j, v1 j < 65536) (hb9 : ∀ j, b j < 65536) (hpb : ∀ j, pb j < 65536) (hB : ∀ j, B j < 256) (h1 : nameN v0 n0 = true) (ht : 1 ≤ t ∧ t < 10000) (hq : q + pnN n0 < 32) : mM l y_LN_write w_LN_write ({ frames := 5, cells := 0, slots := 0, locals := 112 } : Room) [.ref x, .int (nI 0), .int (nI q), .int (nI t)] (dC, dI) vwCl [(cI, .int)] [(x, .inr (0, [.ref f0, .ref f1, .ref h, .ref hp, .ref hs])), (f0, .inr (1, [.ref a0, .int (nI n0)])), (a0, .inl (cI, 255, .inl (nf v0))), (f1, .inr (1, [.ref a1, .int (nI n1)])), (a1, .inl (cI, 255, .inl (nf v1))), (h, .inr (2, [.ref a])), (a, .inl (cI, 11, .inl (nf b))), (hp, .inr (3, [.ref ap])), (ap, .inl (cI, 32, .inl (nf pb))), (hs, .inr (4, [.ref as])), (as, .inl (cI, 1024, .inl (nf B)))] (some (.int (nI (pnN n0 + 1)))) [(x, .inr (0, [.ref f0, .ref f1, .ref h, .ref hp, .ref hs])), (f0, .inr (1, [.ref a0, .int (nI n0)])), (a0, .inl (cI, 255, .inl (nf v0))), (f1, .inr (1, [.ref a1, .int (nI n1)])), (a1, .inl (cI, 255, .inl (nf v1))), (h, .inr (2, [.ref a])), (a, .inl (cI, 11, .inl (nf (ttN v0 n0 t b)))), (hp, .inr (3, [.ref ap])), (ap, .inl (cI, 32, .inl (nf (wpB v0 n0 (suN (stN B (enN (ttN v0 n0 t b)) ((q + pnN n0) * 32) 32) ((q + pnN n0) * 32) 11) pb (pnN n0))))), (hs, .inr (4, [.ref as])), (as, .inl (cI, 1024, .inl (nf (wsB v0 n0 (suN (stN B (enN (ttN v0 n0 t b)) ((q + pnN n0) * 32) 32) ((q + pnN n0) * 32) 11) (q + pnN n0) pb (stN B (enN (ttN v0 n0 t b)) ((q + pnN n0) * 32) 32) (pnN n0)))))] := by
  have htb : ∀ j, (ttN v0 n0 t b) j < 65536 := ttN_lt hv0 hb9
  refine mk_Mi (cc := b_LN_write) (maxL := 6) (by decide) rfl (Nat.le_of_ble_eq_true rfl) rfl ?_
  intro p e s m below meth c Q A ls S hP hK hT hS hl hD hA hret
  obtain ⟨hx, hb, hml, hown, hts⟩ := id S
  have hl : lv_has ls 6 [(0, .ref x), (1, .int (nI 0)), (2, .int (nI q)), (3, .int (nI t))] := hl
  refine lv_aload_n hx hb d_LN_write_0 rfl (lv_at hl 0 rfl) ?_
  refine lv_iload_n hx hb d_LN_write_1 rfl (lv_at hl 1 rfl) ?_
  refine mk_r1 (W.runV (As := [.int (nI 0)]) (rest := []) S (c_LN_row0 l dC dI cI x f0 f1 h hp hs) (gV 1 hts k_111 k_113 k_0 k_24 k_114 (by decide +kernel) ⟨Nat.le_of_ble_eq_true rfl, Nat.le_of_ble_eq_true rfl⟩) (mk_vR hP hK hT hS [0] rfl (q0 := 0) (ci := 0) rfl rfl) rfl rfl hl.1 rfl (lv_room (Nat.le_of_ble_eq_true rfl)) d_LN_write_2 ⟨Nat.zero_le _, Nat.zero_le _⟩) ?_
  refine lv_astore (lv' := [(4, .ref f0), (0, .ref x), (1, .int (nI 0)), (2, .int (nI q)), (3, .int (nI t))]) hx hb d_LN_write_5 hl (by decide) rfl (fun ls hl => ?_)
  refine lv_aload hx hb d_LN_write_7 (lv_at hl 0 rfl) ?_
  refine lv_ifnull hx hb d_LN_write_9 ?_
  refine lv_aload hx hb d_LN_write_12 (lv_at hl 0 rfl) ?_
  refine mk_r1 (W.runV (As := []) (rest := []) S (c_Ro_name l dC dI cI f0 a0 n0 v0 (by first | assumption | omega) (by first | assumption | omega)) (gV 0 hts k_136 k_137 k_138 k_25 k_139 (by decide +kernel) ⟨Nat.le_of_ble_eq_true rfl, Nat.le_of_ble_eq_true rfl⟩) (mk_vR hP hK hT hS [1, 2] rfl (q0 := 1) (ci := 1) rfl rfl) rfl rfl hl.1 rfl (lv_room (Nat.le_of_ble_eq_true rfl)) d_LN_write_14 ⟨Nat.zero_le _, Nat.zero_le _⟩) ?_
  refine lv_if_ne (tgt := 30) hx hb d_LN_write_17 (by decide) (fun c_1 => ?_) (fun c_1 => ?_)
  · skip
    have c_1 := bI_1 c_1
    refine lv_iload_n hx hb d_LN_write_30 rfl (lv_at hl 4 rfl) ?_
    refine lv_if_lt (tgt := 41) hx hb d_LN_write_31 (by decide) (fun c_2 => ?_) (fun c_2 => ?_)
    · skip
      rw [mk_clt (by omega)] at c_2
      first | omega | contradiction
    · skip
      rw [mk_clt (by omega)] at c_2
      refine lv_iload_n hx hb d_LN_write_34 rfl (lv_at hl 4 rfl) ?_
      refine lv_sipush (v := nI 9999) hx hb d_LN_write_35 (by decide) ?_
      refine lv_icmp_le (tgt := 51) hx hb d_LN_write_38 (by decide) (fun c_3 => ?_) (fun c_3 => ?_)
      · skip
        rw [nI_leI (by omega) (by omega)] at c_3
        refine lv_iload_n hx hb d_LN_write_51 rfl (lv_at hl 4 rfl) ?_
        refine lv_if_ne (tgt := 73) hx hb d_LN_write_52 (by decide) (fun c_4 => ?_) (fun c_4 => ?_)
        · skip
          rw [mk_ceq (by omega)] at c_4
          refine lv_iload_n hx hb d_LN_write_73 rfl (lv_at hl 4 rfl) ?_
          refine lv_if_ne (tgt := 81) hx hb d_LN_write_74 (by decide) (fun c_5 => ?_) (fun c_5 => ?_)
          · skip
            rw [mk_ceq (by omega)] at c_5
            refine lv_aload hx hb d_LN_write_81 (lv_at hl 0 rfl) ?_
            refine mk_r1 (W.runV (As := []) (rest := []) S (c_Ro_parts l dC dI cI f0 a0 n0 v0 (by first | assumption | omega)) (gV 0 hts k_161 k_162 k_163 k_25 k_164 (by decide +kernel) ⟨Nat.le_of_ble_eq_true rfl, Nat.le_of_ble_eq_true rfl⟩) (mk_vR hP hK hT hS [1, 2] rfl (q0 := 1) (ci := 1) rfl rfl) rfl rfl hl.1 rfl (lv_room (Nat.le_of_ble_eq_true rfl)) d_LN_write_83 ⟨Nat.zero_le _, Nat.zero_le _⟩) ?_
            have b_6 := pnN_le (show n0 ≤ 255 by omega)
            refine lv_istore (lv' := [(5, .int (nI (pnN n0))), (4, .ref f0), (0, .ref x), (1, .int (nI 0)), (2, .int (nI q)), (3, .int (nI t))]) hx hb d_LN_write_86 hl (by decide) rfl (fun ls hl => ?_)
            refine lv_iload_n hx hb d_LN_write_88 rfl (lv_at hl 4 rfl) ?_
            refine mk_r1 (W.runS (As := [.int (nI q)]) (rest := []) S (c_Sl_isN l dC dI cI q (by first | assumption | omega)) (gS 1 hts k_221 k_207 k_28 k_208 (by decide +kernel) ⟨Nat.le_of_ble_eq_true rfl, Nat.le_of_ble_eq_true rfl⟩) (mk_sR hP hK hT hS [] rfl) rfl rfl hl.1 rfl (lv_room (Nat.le_of_ble_eq_true rfl)) d_LN_write_89 ⟨Nat.zero_le _, Nat.zero_le _⟩) ?_
            refine lv_if_eq (tgt := 105) hx hb d_LN_write_92 (by decide) (fun c_7 => ?_) (fun c_7 => ?_)
            · skip
              rw [mk_ceq (by omega)] at c_7
              first | omega | contradiction
            · skip
              rw [mk_ceq (by omega)] at c_7
              refine lv_iload_n hx hb d_LN_write_95 rfl (lv_at hl 4 rfl) ?_
              refine lv_iload hx hb d_LN_write_96 (lv_at hl 0 rfl) ?_
              refine lv_iadd hx hb d_LN_write_98 ?_
              refine mk_ti (y := nI (q + pnN n0)) (nI_add q (pnN n0)) ?_
              refine mk_r1 (W.runS (As := [.int (nI (q + pnN n0))]) (rest := []) S (c_Sl_isN l dC dI cI (q + pnN n0) (by first | assumption | omega)) (gS 1 hts k_221 k_207 k_28 k_208 (by decide +kernel) ⟨Nat.le_of_ble_eq_true rfl, Nat.le_of_ble_eq_true rfl⟩) (mk_sR hP hK hT hS [] rfl) rfl rfl hl.1 rfl (lv_room (Nat.le_of_ble_eq_true rfl)) d_LN_write_99 ⟨Nat.zero_le _, Nat.zero_le _⟩) ?_
              refine lv_if_ne (tgt := 115) hx hb d_LN_write_102 (by decide) (fun c_8 => ?_) (fun c_8 => ?_)
              · skip
                rw [mk_ceq (by omega)] at c_8
                refine lv_iload_n hx hb d_LN_write_115 rfl (lv_at hl 5 rfl) ?_
                refine lv_if_ne (tgt := 131) hx hb d_LN_write_116 (by decide) (fun c_9 => ?_) (fun c_9 => ?_)
                · skip
                  rw [mk_ceq (by omega)] at c_9
                  refine lv_aload_n hx hb d_LN_write_131 rfl (lv_at hl 2 rfl) ?_
                  refine va_get (D := (dC, dI)) (ci := 0) (v := .ref h) (C := "LongNames") (T := F_LN) (N := 5) hx hb hts (iw_LN _) hown hK hP 0 rfl rfl 2 (by decide) (hts _ (List.mem_cons_of_mem _ k_93)) (fun _ h9 => h9) rfl d_LN_write_132 ?_
                  refine lv_aload hx hb d_LN_write_135 (lv_at hl 1 rfl) ?_
                  refine lv_iload_n hx hb d_LN_write_137 rfl (lv_at hl 5 rfl) ?_
                  refine mk_w0 (wr := [(x, .inr (0, [.ref f0, .ref f1, .ref h, .ref hp, .ref hs])), (f1, .inr (1, [.ref a1, .int (nI n1)])), (a1, .inl (cI, 255, .inl (nf v1))), (hp, .inr (3, [.ref ap])), (ap, .inl (cI, 32, .inl (nf pb))), (hs, .inr (4, [.ref as])), (as, .inl (cI, 1024, .inl (nf B)))]) (W.runV (As := [.ref f0, .int (nI t)]) (rest := []) S ((c_Sn_tail l dC dI cI h a b f0 a0 n0 v0 t (by first | assumption | omega) (by first | assumption | omega) (by first | assumption | omega)) _) (gV 2 hts k_395 k_396 k_397 k_26 k_398 (by decide +kernel) ⟨Nat.le_of_ble_eq_true rfl, Nat.le_of_ble_eq_true rfl⟩) (mk_vM hP hD hK hT hS hA [5, 6, 1, 2] rfl rfl (by decide) (q0 := 5) (ci := 2) rfl rfl) rfl rfl hl.1 rfl (lv_room (Nat.le_of_ble_eq_true rfl)) d_LN_write_138 ⟨Nat.zero_le _, Nat.zero_le _⟩) hP hD hS hA [5, 6, 1, 2] [0, 3, 4, 7, 8, 9, 10] rfl rfl (by decide) (by decide) (fun H locs hP hD hS => ?_)
                  have hP : va_P (dC, dI) vwCl [(x, .inr (0, [.ref f0, .ref f1, .ref h, .ref hp, .ref hs])), (f0, .inr (1, [.ref a0, .int (nI n0)])), (a0, .inl (cI, 255, .inl (nf v0))), (f1, .inr (1, [.ref a1, .int (nI n1)])), (a1, .inl (cI, 255, .inl (nf v1))), (h, .inr (2, [.ref a])), (a, .inl (cI, 11, .inl (nf (ttN v0 n0 t b)))), (hp, .inr (3, [.ref ap])), (ap, .inl (cI, 32, .inl (nf pb))), (hs, .inr (4, [.ref as])), (as, .inl (cI, 1024, .inl (nf B)))] H := hP.sub [0, 9, 10, 1, 2, 7, 8, 3, 4, 5, 6] rfl
                  have hD : va_D A [(x, .inr (0, [.ref f0, .ref f1, .ref h, .ref hp, .ref hs])), (f0, .inr (1, [.ref a0, .int (nI n0)])), (a0, .inl (cI, 255, .inl (nf v0))), (f1, .inr (1, [.ref a1, .int (nI n1)])), (a1, .inl (cI, 255, .inl (nf v1))), (h, .inr (2, [.ref a])), (a, .inl (cI, 11, .inl (nf (ttN v0 n0 t b)))), (hp, .inr (3, [.ref ap])), (ap, .inl (cI, 32, .inl (nf pb))), (hs, .inr (4, [.ref as])), (as, .inl (cI, 1024, .inl (nf B)))] := hD.sub [0, 9, 10, 1, 2, 7, 8, 3, 4, 5, 6] (by decide) rfl
                  refine lv_aload_n hx hb d_LN_write_141 rfl (lv_at hl 2 rfl) ?_
                  refine lv_aload hx hb d_LN_write_142 (lv_at hl 1 rfl) ?_
                  refine lv_iload_n hx hb d_LN_write_144 rfl (lv_at hl 4 rfl) ?_
                  refine lv_iload hx hb d_LN_write_145 (lv_at hl 0 rfl) ?_
                  refine lv_iadd hx hb d_LN_write_147 ?_
                  refine mk_ti (y := nI (q + pnN n0)) (nI_add q (pnN n0)) ?_
                  refine lv_iload hx hb d_LN_write_148 (lv_at hl 0 rfl) ?_
                  refine mk_w0 (wr := [(f1, .inr (1, [.ref a1, .int (nI n1)])), (a1, .inl (cI, 255, .inl (nf v1)))]) (W.runV (As := [.ref f0, .int (nI (q + pnN n0)), .int (nI (pnN n0))]) (rest := []) S ((c_LN_ws l dC dI cI x f0 f1 h a (ttN v0 n0 t b) hp ap pb hs as B f0 a0 n0 v0 (q + pnN n0) (pnN n0) (by first | assumption | omega) (by first | assumption | omega) (by first | assumption | omega) (by first | assumption | omega) (by first | assumption | omega) (by first | assumption | omega) (by first | assumption | omega)) _) (gV 3 hts k_406 k_408 k_5 k_24 k_409 (by decide +kernel) ⟨Nat.le_of_ble_eq_true rfl, Nat.le_of_ble_eq_true rfl⟩) (mk_vM hP hD hK hT hS hA [0, 5, 6, 7, 8, 9, 10, 1, 2] rfl rfl (by decide) (q0 := 0) (ci := 0) rfl rfl) rfl rfl hl.1 rfl (lv_room (Nat.le_of_ble_eq_true rfl)) d_LN_write_150 ⟨Nat.zero_le _, Nat.zero_le _⟩) hP hD hS hA [0, 5, 6, 7, 8, 9, 10, 1, 2] [3, 4] rfl rfl (by decide) (by decide) (fun H locs hP hD hS => ?_)
                  have hP : va_P (dC, dI) vwCl [(x, .inr (0, [.ref f0, .ref f1, .ref h, .ref hp, .ref hs])), (f0, .inr (1, [.ref a0, .int (nI n0)])), (a0, .inl (cI, 255, .inl (nf v0))), (f1, .inr (1, [.ref a1, .int (nI n1)])), (a1, .inl (cI, 255, .inl (nf v1))), (h, .inr (2, [.ref a])), (a, .inl (cI, 11, .inl (nf (ttN v0 n0 t b)))), (hp, .inr (3, [.ref ap])), (ap, .inl (cI, 32, .inl (nf (wpB v0 n0 (suN (stN B (enN (ttN v0 n0 t b)) ((q + pnN n0) * 32) 32) ((q + pnN n0) * 32) 11) pb (pnN n0))))), (hs, .inr (4, [.ref as])), (as, .inl (cI, 1024, .inl (nf (wsB v0 n0 (suN (stN B (enN (ttN v0 n0 t b)) ((q + pnN n0) * 32) 32) ((q + pnN n0) * 32) 11) (q + pnN n0) pb (stN B (enN (ttN v0 n0 t b)) ((q + pnN n0) * 32) 32) (pnN n0)))))] H := hP.sub [2, 9, 10, 0, 1, 3, 4, 5, 6, 7, 8] rfl
                  have hD : va_D A [(x, .inr (0, [.ref f0, .ref f1, .ref h, .ref hp, .ref hs])), (f0, .inr (1, [.ref a0, .int (nI n0)])), (a0, .inl (cI, 255, .inl (nf v0))), (f1, .inr (1, [.ref a1, .int (nI n1)])), (a1, .inl (cI, 255, .inl (nf v1))), (h, .inr (2, [.ref a])), (a, .inl (cI, 11, .inl (nf (ttN v0 n0 t b)))), (hp, .inr (3, [.ref ap])), (ap, .inl (cI, 32, .inl (nf (wpB v0 n0 (suN (stN B (enN (ttN v0 n0 t b)) ((q + pnN n0) * 32) 32) ((q + pnN n0) * 32) 11) pb (pnN n0))))), (hs, .inr (4, [.ref as])), (as, .inl (cI, 1024, .inl (nf (wsB v0 n0 (suN (stN B (enN (ttN v0 n0 t b)) ((q + pnN n0) * 32) 32) ((q + pnN n0) * 32) 11) (q + pnN n0) pb (stN B (enN (ttN v0 n0 t b)) ((q + pnN n0) * 32) 32) (pnN n0)))))] := hD.sub [2, 9, 10, 0, 1, 3, 4, 5, 6, 7, 8] (by decide) rfl
                  refine lv_iload hx hb d_LN_write_153 (lv_at hl 0 rfl) ?_
                  refine lv_iconst (v := nI 1) hx hb d_LN_write_155 (by decide) ?_
                  refine lv_iadd hx hb d_LN_write_156 ?_
                  refine mk_ti (y := nI (pnN n0 + 1)) (nI_add (pnN n0) 1) ?_
                  exact hret _ _ _ _ d_LN_write_157 hP hD hS
                · skip
                  rw [mk_ceq (by omega)] at c_9
                  first | omega | contradiction
              · skip
                rw [mk_ceq (by omega)] at c_8
                first | omega | contradiction
          · skip
            rw [mk_ceq (by omega)] at c_5
            first | omega | contradiction
        · skip
          rw [mk_ceq (by omega)] at c_4
          first | omega | contradiction
      · skip
        rw [nI_leI (by omega) (by omega)] at c_3
        first | omega | contradiction
  · skip
    have c_1 := bI_0 c_1
    rw [h1] at c_1; exact absurd c_1 (by decide)

set_option maxHeartbeats 4000000 in
set_option maxRecDepth 100000 in
theorem c_LN_readE0 (l : Launch) (dC : Nat → ClassId) (dI : Nat → Nat → Nat) (cI : ClassId) (x f0 a0 n0 : Nat) (v0 : Nat → Nat) (f1 a1 n1 : Nat) (v1 : Nat → Nat) (h a : Nat) (b : Nat → Nat) (hp ap : Nat) (pb : Nat → Nat) (hs as : Nat) (B : Nat → Nat) (q : Nat) (hn0 : n0 ≤ 255) (hv0 : ∀ j, v0 j < 65536) (hn1 : n1 ≤ 255) (hv1 : ∀ j, v1 j < 65536) (hb9 : ∀ j, b j < 65536) (hpb : ∀ j, pb j < 65536) (hB : ∀ j, B j < 256) (h1 : valN (cpN b B (q * 32) 11) = true) (hq : q < 32) : mM l y_LN_read w_LN_read ({ frames := 4, cells := 0, slots := 0, locals := 86 } : Room) [.ref x, .int (nI 0), .int (nI q), .int (nI 0)] (dC, dI) vwCl [(cI, .int)] [(x, .inr (0, [.ref f0, .ref f1, .ref h, .ref hp, .ref hs])), (f0, .inr (1, [.ref a0, .int (nI n0)])), (a0, .inl (cI, 255, .inl (nf v0))), (f1, .inr (1, [.ref a1, .int (nI n1)])), (a1, .inl (cI, 255, .inl (nf v1))), (h, .inr (2, [.ref a])), (a, .inl (cI, 11, .inl (nf b))), (hp, .inr (3, [.ref ap])), (ap, .inl (cI, 32, .inl (nf pb))), (hs, .inr (4, [.ref as])), (as, .inl (cI, 1024, .inl (nf B)))] (some (.int (nI (siC (cpN b B (q * 32) 11))))) [(x, .inr (0, [.ref f0, .ref f1, .ref h, .ref hp, .ref hs])), (f0, .inr (1, [.ref a0, .int (nI (siC (cpN b B (q * 32) 11)))])), (a0, .inl (cI, 255, .inl (nf (siV v0 (cpN b B (q * 32) 11))))), (f1, .inr (1, [.ref a1, .int (nI n1)])), (a1, .inl (cI, 255, .inl (nf v1))), (h, .inr (2, [.ref a])), (a, .inl (cI, 11, .inl (nf (cpN b B (q * 32) 11)))), (hp, .inr (3, [.ref ap])), (ap, .inl (cI, 32, .inl (nf pb))), (hs, .inr (4, [.ref as])), (as, .inl (cI, 1024, .inl (nf B)))] := by
  have htb : ∀ j, (cpN b B (q * 32) 11) j < 65536 := cpN_lt hb9 hB
  refine mk_Mi (cc := b_LN_read) (maxL := 5) (by decide) rfl (Nat.le_of_ble_eq_true rfl) rfl ?_
  intro p e s m below meth c Q A ls S hP hK hT hS hl hD hA hret
  obtain ⟨hx, hb, hml, hown, hts⟩ := id S
  have hl : lv_has ls 5 [(0, .ref x), (1, .int (nI 0)), (2, .int (nI q)), (3, .int (nI 0))] := hl
  refine lv_aload_n hx hb d_LN_read_0 rfl (lv_at hl 0 rfl) ?_
  refine lv_iload_n hx hb d_LN_read_1 rfl (lv_at hl 1 rfl) ?_
  refine mk_r1 (W.runV (As := [.int (nI 0)]) (rest := []) S (c_LN_row0 l dC dI cI x f0 f1 h hp hs) (gV 1 hts k_111 k_113 k_0 k_24 k_114 (by decide +kernel) ⟨Nat.le_of_ble_eq_true rfl, Nat.le_of_ble_eq_true rfl⟩) (mk_vR hP hK hT hS [0] rfl (q0 := 0) (ci := 0) rfl rfl) rfl rfl hl.1 rfl (lv_room (Nat.le_of_ble_eq_true rfl)) d_LN_read_2 ⟨Nat.zero_le _, Nat.zero_le _⟩) ?_
  refine lv_astore (lv' := [(4, .ref f0), (0, .ref x), (1, .int (nI 0)), (2, .int (nI q)), (3, .int (nI 0))]) hx hb d_LN_read_5 hl (by decide) rfl (fun ls hl => ?_)
  refine lv_aload hx hb d_LN_read_7 (lv_at hl 0 rfl) ?_
  refine lv_ifnonnull (tgt := 22) hx hb d_LN_read_9 (by decide) ?_
  refine lv_aload hx hb d_LN_read_22 (lv_at hl 0 rfl) ?_
  refine mk_w0 (wr := [(x, .inr (0, [.ref f0, .ref f1, .ref h, .ref hp, .ref hs])), (f1, .inr (1, [.ref a1, .int (nI n1)])), (a1, .inl (cI, 255, .inl (nf v1))), (h, .inr (2, [.ref a])), (a, .inl (cI, 11, .inl (nf b))), (hp, .inr (3, [.ref ap])), (ap, .inl (cI, 32, .inl (nf pb))), (hs, .inr (4, [.ref as])), (as, .inl (cI, 1024, .inl (nf B)))]) (W.runV (As := []) (rest := []) S ((c_Ro_empty l dC dI cI f0 a0 n0 v0) _) (gV 0 hts k_128 k_129 k_130 k_25 k_131 (by decide +kernel) ⟨Nat.le_of_ble_eq_true rfl, Nat.le_of_ble_eq_true rfl⟩) (mk_vM hP hD hK hT hS hA [1, 2] rfl rfl (by decide) (q0 := 1) (ci := 1) rfl rfl) rfl rfl hl.1 rfl (lv_room (Nat.le_of_ble_eq_true rfl)) d_LN_read_24 ⟨Nat.zero_le _, Nat.zero_le _⟩) hP hD hS hA [1, 2] [0, 3, 4, 5, 6, 7, 8, 9, 10] rfl rfl (by decide) (by decide) (fun H locs hP hD hS => ?_)
  have hP : va_P (dC, dI) vwCl [(x, .inr (0, [.ref f0, .ref f1, .ref h, .ref hp, .ref hs])), (f0, .inr (1, [.ref a0, .int (nI 0)])), (a0, .inl (cI, 255, .inl (nf v0))), (f1, .inr (1, [.ref a1, .int (nI n1)])), (a1, .inl (cI, 255, .inl (nf v1))), (h, .inr (2, [.ref a])), (a, .inl (cI, 11, .inl (nf b))), (hp, .inr (3, [.ref ap])), (ap, .inl (cI, 32, .inl (nf pb))), (hs, .inr (4, [.ref as])), (as, .inl (cI, 1024, .inl (nf B)))] H := hP.sub [0, 9, 10, 1, 2, 3, 4, 5, 6, 7, 8] rfl
  have hD : va_D A [(x, .inr (0, [.ref f0, .ref f1, .ref h, .ref hp, .ref hs])), (f0, .inr (1, [.ref a0, .int (nI 0)])), (a0, .inl (cI, 255, .inl (nf v0))), (f1, .inr (1, [.ref a1, .int (nI n1)])), (a1, .inl (cI, 255, .inl (nf v1))), (h, .inr (2, [.ref a])), (a, .inl (cI, 11, .inl (nf b))), (hp, .inr (3, [.ref ap])), (ap, .inl (cI, 32, .inl (nf pb))), (hs, .inr (4, [.ref as])), (as, .inl (cI, 1024, .inl (nf B)))] := hD.sub [0, 9, 10, 1, 2, 3, 4, 5, 6, 7, 8] (by decide) rfl
  refine lv_iload_n hx hb d_LN_read_27 rfl (lv_at hl 4 rfl) ?_
  refine lv_if_lt (tgt := 37) hx hb d_LN_read_28 (by decide) (fun c_1 => ?_) (fun c_1 => ?_)
  · skip
    rw [mk_clt (by omega)] at c_1
    first | omega | contradiction
  · skip
    rw [mk_clt (by omega)] at c_1
    refine lv_iload_n hx hb d_LN_read_31 rfl (lv_at hl 4 rfl) ?_
    refine lv_bipush (v := nI 20) hx hb d_LN_read_32 (by decide) ?_
    refine lv_icmp_le (tgt := 47) hx hb d_LN_read_34 (by decide) (fun c_2 => ?_) (fun c_2 => ?_)
    · skip
      rw [nI_leI (by omega) (by omega)] at c_2
      refine lv_iload_n hx hb d_LN_read_47 rfl (lv_at hl 3 rfl) ?_
      refine mk_r1 (W.runS (As := [.int (nI q)]) (rest := []) S (c_Sl_isN l dC dI cI q (by first | assumption | omega)) (gS 1 hts k_221 k_207 k_28 k_208 (by decide +kernel) ⟨Nat.le_of_ble_eq_true rfl, Nat.le_of_ble_eq_true rfl⟩) (mk_sR hP hK hT hS [] rfl) rfl rfl hl.1 rfl (lv_room (Nat.le_of_ble_eq_true rfl)) d_LN_read_48 ⟨Nat.zero_le _, Nat.zero_le _⟩) ?_
      refine lv_if_eq (tgt := 59) hx hb d_LN_read_51 (by decide) (fun c_3 => ?_) (fun c_3 => ?_)
      · skip
        rw [mk_ceq (by omega)] at c_3
        first | omega | contradiction
      · skip
        rw [mk_ceq (by omega)] at c_3
        refine lv_iload_n hx hb d_LN_read_54 rfl (lv_at hl 4 rfl) ?_
        refine lv_iload_n hx hb d_LN_read_55 rfl (lv_at hl 3 rfl) ?_
        refine lv_icmp_le (tgt := 69) hx hb d_LN_read_56 (by decide) (fun c_4 => ?_) (fun c_4 => ?_)
        · skip
          rw [nI_leI (by omega) (by omega)] at c_4
          refine lv_aload_n hx hb d_LN_read_69 rfl (lv_at hl 1 rfl) ?_
          refine va_get (D := (dC, dI)) (ci := 0) (v := .ref h) (C := "LongNames") (T := F_LN) (N := 5) hx hb hts (iw_LN _) hown hK hP 0 rfl rfl 2 (by decide) (hts _ (List.mem_cons_of_mem _ k_93)) (fun _ h9 => h9) rfl d_LN_read_70 ?_
          refine lv_aload_n hx hb d_LN_read_73 rfl (lv_at hl 1 rfl) ?_
          refine va_get (D := (dC, dI)) (ci := 0) (v := .ref hs) (C := "LongNames") (T := F_LN) (N := 5) hx hb hts (iw_LN _) hown hK hP 0 rfl rfl 4 (by decide) (hts _ (List.mem_cons_of_mem _ k_95)) (fun _ h9 => h9) rfl d_LN_read_74 ?_
          refine lv_iload_n hx hb d_LN_read_77 rfl (lv_at hl 3 rfl) ?_
          refine mk_w0 (wr := [(x, .inr (0, [.ref f0, .ref f1, .ref h, .ref hp, .ref hs])), (f0, .inr (1, [.ref a0, .int (nI 0)])), (a0, .inl (cI, 255, .inl (nf v0))), (f1, .inr (1, [.ref a1, .int (nI n1)])), (a1, .inl (cI, 255, .inl (nf v1))), (hp, .inr (3, [.ref ap])), (ap, .inl (cI, 32, .inl (nf pb)))]) (W.runV (As := [.ref hs, .int (nI q)]) (rest := []) S ((c_Sn_take l dC dI cI h a b hs as B q (by first | assumption | omega) (by first | assumption | omega)) _) (gV 2 hts k_460 k_461 k_462 k_26 k_463 (by decide +kernel) ⟨Nat.le_of_ble_eq_true rfl, Nat.le_of_ble_eq_true rfl⟩) (mk_vM hP hD hK hT hS hA [5, 6, 9, 10] rfl rfl (by decide) (q0 := 5) (ci := 2) rfl rfl) rfl rfl hl.1 rfl (lv_room (Nat.le_of_ble_eq_true rfl)) d_LN_read_78 ⟨Nat.zero_le _, Nat.zero_le _⟩) hP hD hS hA [5, 6, 9, 10] [0, 1, 2, 3, 4, 7, 8] rfl rfl (by decide) (by decide) (fun H locs hP hD hS => ?_)
          have hP : va_P (dC, dI) vwCl [(x, .inr (0, [.ref f0, .ref f1, .ref h, .ref hp, .ref hs])), (f0, .inr (1, [.ref a0, .int (nI 0)])), (a0, .inl (cI, 255, .inl (nf v0))), (f1, .inr (1, [.ref a1, .int (nI n1)])), (a1, .inl (cI, 255, .inl (nf v1))), (h, .inr (2, [.ref a])), (a, .inl (cI, 11, .inl (nf (cpN b B (q * 32) 11)))), (hp, .inr (3, [.ref ap])), (ap, .inl (cI, 32, .inl (nf pb))), (hs, .inr (4, [.ref as])), (as, .inl (cI, 1024, .inl (nf B)))] H := hP.sub [0, 1, 2, 3, 4, 7, 8, 5, 6, 9, 10] rfl
          have hD : va_D A [(x, .inr (0, [.ref f0, .ref f1, .ref h, .ref hp, .ref hs])), (f0, .inr (1, [.ref a0, .int (nI 0)])), (a0, .inl (cI, 255, .inl (nf v0))), (f1, .inr (1, [.ref a1, .int (nI n1)])), (a1, .inl (cI, 255, .inl (nf v1))), (h, .inr (2, [.ref a])), (a, .inl (cI, 11, .inl (nf (cpN b B (q * 32) 11)))), (hp, .inr (3, [.ref ap])), (ap, .inl (cI, 32, .inl (nf pb))), (hs, .inr (4, [.ref as])), (as, .inl (cI, 1024, .inl (nf B)))] := hD.sub [0, 1, 2, 3, 4, 7, 8, 5, 6, 9, 10] (by decide) rfl
          refine lv_aload_n hx hb d_LN_read_81 rfl (lv_at hl 1 rfl) ?_
          refine va_get (D := (dC, dI)) (ci := 0) (v := .ref h) (C := "LongNames") (T := F_LN) (N := 5) hx hb hts (iw_LN _) hown hK hP 0 rfl rfl 2 (by decide) (hts _ (List.mem_cons_of_mem _ k_93)) (fun _ h9 => h9) rfl d_LN_read_82 ?_
          refine mk_r1 (W.runV (As := []) (rest := []) S (c_Sn_valid l dC dI cI h a (cpN b B (q * 32) 11) (by first | assumption | omega)) (gV 0 hts k_465 k_466 k_467 k_26 k_468 (by decide +kernel) ⟨Nat.le_of_ble_eq_true rfl, Nat.le_of_ble_eq_true rfl⟩) (mk_vR hP hK hT hS [5, 6] rfl (q0 := 5) (ci := 2) rfl rfl) rfl rfl hl.1 rfl (lv_room (Nat.le_of_ble_eq_true rfl)) d_LN_read_85 ⟨Nat.zero_le _, Nat.zero_le _⟩) ?_
          refine lv_if_ne (tgt := 101) hx hb d_LN_read_88 (by decide) (fun c_5 => ?_) (fun c_5 => ?_)
          · skip
            have c_5 := bI_1 c_5
            refine lv_iload_n hx hb d_LN_read_101 rfl (lv_at hl 4 rfl) ?_
            refine lv_if_ne (tgt := 117) hx hb d_LN_read_102 (by decide) (fun c_6 => ?_) (fun c_6 => ?_)
            · skip
              rw [mk_ceq (by omega)] at c_6
              first | omega | contradiction
            · skip
              rw [mk_ceq (by omega)] at c_6
              refine lv_aload_n hx hb d_LN_read_105 rfl (lv_at hl 1 rfl) ?_
              refine va_get (D := (dC, dI)) (ci := 0) (v := .ref h) (C := "LongNames") (T := F_LN) (N := 5) hx hb hts (iw_LN _) hown hK hP 0 rfl rfl 2 (by decide) (hts _ (List.mem_cons_of_mem _ k_93)) (fun _ h9 => h9) rfl d_LN_read_106 ?_
              refine lv_aload hx hb d_LN_read_109 (lv_at hl 0 rfl) ?_
              refine mk_w0 (wr := [(x, .inr (0, [.ref f0, .ref f1, .ref h, .ref hp, .ref hs])), (f1, .inr (1, [.ref a1, .int (nI n1)])), (a1, .inl (cI, 255, .inl (nf v1))), (hp, .inr (3, [.ref ap])), (ap, .inl (cI, 32, .inl (nf pb))), (hs, .inr (4, [.ref as])), (as, .inl (cI, 1024, .inl (nf B)))]) (W.runV (As := [.ref f0]) (rest := []) S ((c_Sn_show l dC dI cI h a (cpN b B (q * 32) 11) f0 a0 v0 (by first | assumption | omega)) _) (gV 1 hts k_490 k_491 k_492 k_26 k_493 (by decide +kernel) ⟨Nat.le_of_ble_eq_true rfl, Nat.le_of_ble_eq_true rfl⟩) (mk_vM hP hD hK hT hS hA [5, 6, 1, 2] rfl rfl (by decide) (q0 := 5) (ci := 2) rfl rfl) rfl rfl hl.1 rfl (lv_room (Nat.le_of_ble_eq_true rfl)) d_LN_read_111 ⟨Nat.zero_le _, Nat.zero_le _⟩) hP hD hS hA [5, 6, 1, 2] [0, 3, 4, 7, 8, 9, 10] rfl rfl (by decide) (by decide) (fun H locs hP hD hS => ?_)
              have hP : va_P (dC, dI) vwCl [(x, .inr (0, [.ref f0, .ref f1, .ref h, .ref hp, .ref hs])), (f0, .inr (1, [.ref a0, .int (nI (siC (cpN b B (q * 32) 11)))])), (a0, .inl (cI, 255, .inl (nf (siV v0 (cpN b B (q * 32) 11))))), (f1, .inr (1, [.ref a1, .int (nI n1)])), (a1, .inl (cI, 255, .inl (nf v1))), (h, .inr (2, [.ref a])), (a, .inl (cI, 11, .inl (nf (cpN b B (q * 32) 11)))), (hp, .inr (3, [.ref ap])), (ap, .inl (cI, 32, .inl (nf pb))), (hs, .inr (4, [.ref as])), (as, .inl (cI, 1024, .inl (nf B)))] H := hP.sub [0, 9, 10, 1, 2, 7, 8, 3, 4, 5, 6] rfl
              have hD : va_D A [(x, .inr (0, [.ref f0, .ref f1, .ref h, .ref hp, .ref hs])), (f0, .inr (1, [.ref a0, .int (nI (siC (cpN b B (q * 32) 11)))])), (a0, .inl (cI, 255, .inl (nf (siV v0 (cpN b B (q * 32) 11))))), (f1, .inr (1, [.ref a1, .int (nI n1)])), (a1, .inl (cI, 255, .inl (nf v1))), (h, .inr (2, [.ref a])), (a, .inl (cI, 11, .inl (nf (cpN b B (q * 32) 11)))), (hp, .inr (3, [.ref ap])), (ap, .inl (cI, 32, .inl (nf pb))), (hs, .inr (4, [.ref as])), (as, .inl (cI, 1024, .inl (nf B)))] := hD.sub [0, 9, 10, 1, 2, 7, 8, 3, 4, 5, 6] (by decide) rfl
              refine lv_goto (tgt := 143) hx hb d_LN_read_114 (by decide) ?_
              refine lv_aload hx hb d_LN_read_143 (lv_at hl 0 rfl) ?_
              refine mk_r1 (W.runV (As := []) (rest := []) S (c_Ro_size l dC dI cI f0 a0 (siC (cpN b B (q * 32) 11)) (siV v0 (cpN b B (q * 32) 11))) (gV 0 hts k_124 k_125 k_126 k_25 k_127 (by decide +kernel) ⟨Nat.le_of_ble_eq_true rfl, Nat.le_of_ble_eq_true rfl⟩) (mk_vR hP hK hT hS [1, 2] rfl (q0 := 1) (ci := 1) rfl rfl) rfl rfl hl.1 rfl (lv_room (Nat.le_of_ble_eq_true rfl)) d_LN_read_145 ⟨Nat.zero_le _, Nat.zero_le _⟩) ?_
              exact hret _ _ _ _ d_LN_read_148 hP hD hS
          · skip
            have c_5 := bI_0 c_5
            rw [h1] at c_5; exact absurd c_5 (by decide)
        · skip
          rw [nI_leI (by omega) (by omega)] at c_4
          first | omega | contradiction
    · skip
      rw [nI_leI (by omega) (by omega)] at c_2
      first | omega | contradiction

set_option maxHeartbeats 4000000 in
set_option maxRecDepth 100000 in
theorem c_LN_readP0 (l : Launch) (dC : Nat → ClassId) (dI : Nat → Nat → Nat) (cI : ClassId) (x f0 a0 n0 : Nat) (v0 : Nat → Nat) (f1 a1 n1 : Nat) (v1 : Nat → Nat) (h a : Nat) (b : Nat → Nat) (hp ap : Nat) (pb : Nat → Nat) (hs as : Nat) (B : Nat → Nat) (q p9 : Nat) (hn0 : n0 ≤ 255) (hv0 : ∀ j, v0 j < 65536) (hn1 : n1 ≤ 255) (hv1 : ∀ j, v1 j < 65536) (hb9 : ∀ j, b j < 65536) (hpb : ∀ j, pb j < 65536) (hB : ∀ j, B j < 256) (h1 : valN (cpN b B (q * 32) 11) = true) (hq : q < 32) (hp7 : 1 ≤ p9 ∧ p9 ≤ 20 ∧ p9 ≤ q) (h3 : nameN (coV v0 (unN B q) (coC (unN B q) (13 * p9) 0)) (coC (unN B q) (13 * p9) 0) = true) (h4 : pnN (coC (unN B q) (13 * p9) 0) = p9) (h5 : rpR (coV v0 (unN B q) (coC (unN B q) (13 * p9) 0)) (coC (unN B q) (13 * p9) 0) (suN B (q * 32) 11) q pb B p9 0 = true) : mM l y_LN_read w_LN_read ({ frames := 6, cells := 0, slots := 0, locals := 137 } : Room) [.ref x, .int (nI 0), .int (nI q), .int (nI p9)] (dC, dI) vwCl [(cI, .int)] [(x, .inr (0, [.ref f0, .ref f1, .ref h, .ref hp, .ref hs])), (f0, .inr (1, [.ref a0, .int (nI n0)])), (a0, .inl (cI, 255, .inl (nf v0))), (f1, .inr (1, [.ref a1, .int (nI n1)])), (a1, .inl (cI, 255, .inl (nf v1))), (h, .inr (2, [.ref a])), (a, .inl (cI, 11, .inl (nf b))), (hp, .inr (3, [.ref ap])), (ap, .inl (cI, 32, .inl (nf pb))), (hs, .inr (4, [.ref as])), (as, .inl (cI, 1024, .inl (nf B)))] (some (.int (nI (coC (unN B q) (13 * p9) 0)))) [(x, .inr (0, [.ref f0, .ref f1, .ref h, .ref hp, .ref hs])), (f0, .inr (1, [.ref a0, .int (nI (coC (unN B q) (13 * p9) 0))])), (a0, .inl (cI, 255, .inl (nf (coV v0 (unN B q) (coC (unN B q) (13 * p9) 0))))), (f1, .inr (1, [.ref a1, .int (nI n1)])), (a1, .inl (cI, 255, .inl (nf v1))), (h, .inr (2, [.ref a])), (a, .inl (cI, 11, .inl (nf (cpN b B (q * 32) 11)))), (hp, .inr (3, [.ref ap])), (ap, .inl (cI, 32, .inl (nf (wpB (coV v0 (unN B q) (coC (unN B q) (13 * p9) 0)) (coC (unN B q) (13 * p9) 0) (suN B (q * 32) 11) pb (rpK (coV v0 (unN B q) (coC (unN B q) (13 * p9) 0)) (coC (unN B q) (13 * p9) 0) (suN B (q * 32) 11) q pb B p9 0))))), (hs, .inr (4, [.ref as])), (as, .inl (cI, 1024, .inl (nf B)))] := by
  have htb : ∀ j, (cpN b B (q * 32) 11) j < 65536 := cpN_lt hb9 hB
  refine mk_Mi (cc := b_LN_read) (maxL := 5) (by decide) rfl (Nat.le_of_ble_eq_true rfl) rfl ?_
  intro p e s m below meth c Q A ls S hP hK hT hS hl hD hA hret
  obtain ⟨hx, hb, hml, hown, hts⟩ := id S
  have hl : lv_has ls 5 [(0, .ref x), (1, .int (nI 0)), (2, .int (nI q)), (3, .int (nI p9))] := hl
  refine lv_aload_n hx hb d_LN_read_0 rfl (lv_at hl 0 rfl) ?_
  refine lv_iload_n hx hb d_LN_read_1 rfl (lv_at hl 1 rfl) ?_
  refine mk_r1 (W.runV (As := [.int (nI 0)]) (rest := []) S (c_LN_row0 l dC dI cI x f0 f1 h hp hs) (gV 1 hts k_111 k_113 k_0 k_24 k_114 (by decide +kernel) ⟨Nat.le_of_ble_eq_true rfl, Nat.le_of_ble_eq_true rfl⟩) (mk_vR hP hK hT hS [0] rfl (q0 := 0) (ci := 0) rfl rfl) rfl rfl hl.1 rfl (lv_room (Nat.le_of_ble_eq_true rfl)) d_LN_read_2 ⟨Nat.zero_le _, Nat.zero_le _⟩) ?_
  refine lv_astore (lv' := [(4, .ref f0), (0, .ref x), (1, .int (nI 0)), (2, .int (nI q)), (3, .int (nI p9))]) hx hb d_LN_read_5 hl (by decide) rfl (fun ls hl => ?_)
  refine lv_aload hx hb d_LN_read_7 (lv_at hl 0 rfl) ?_
  refine lv_ifnonnull (tgt := 22) hx hb d_LN_read_9 (by decide) ?_
  refine lv_aload hx hb d_LN_read_22 (lv_at hl 0 rfl) ?_
  refine mk_w0 (wr := [(x, .inr (0, [.ref f0, .ref f1, .ref h, .ref hp, .ref hs])), (f1, .inr (1, [.ref a1, .int (nI n1)])), (a1, .inl (cI, 255, .inl (nf v1))), (h, .inr (2, [.ref a])), (a, .inl (cI, 11, .inl (nf b))), (hp, .inr (3, [.ref ap])), (ap, .inl (cI, 32, .inl (nf pb))), (hs, .inr (4, [.ref as])), (as, .inl (cI, 1024, .inl (nf B)))]) (W.runV (As := []) (rest := []) S ((c_Ro_empty l dC dI cI f0 a0 n0 v0) _) (gV 0 hts k_128 k_129 k_130 k_25 k_131 (by decide +kernel) ⟨Nat.le_of_ble_eq_true rfl, Nat.le_of_ble_eq_true rfl⟩) (mk_vM hP hD hK hT hS hA [1, 2] rfl rfl (by decide) (q0 := 1) (ci := 1) rfl rfl) rfl rfl hl.1 rfl (lv_room (Nat.le_of_ble_eq_true rfl)) d_LN_read_24 ⟨Nat.zero_le _, Nat.zero_le _⟩) hP hD hS hA [1, 2] [0, 3, 4, 5, 6, 7, 8, 9, 10] rfl rfl (by decide) (by decide) (fun H locs hP hD hS => ?_)
  have hP : va_P (dC, dI) vwCl [(x, .inr (0, [.ref f0, .ref f1, .ref h, .ref hp, .ref hs])), (f0, .inr (1, [.ref a0, .int (nI 0)])), (a0, .inl (cI, 255, .inl (nf v0))), (f1, .inr (1, [.ref a1, .int (nI n1)])), (a1, .inl (cI, 255, .inl (nf v1))), (h, .inr (2, [.ref a])), (a, .inl (cI, 11, .inl (nf b))), (hp, .inr (3, [.ref ap])), (ap, .inl (cI, 32, .inl (nf pb))), (hs, .inr (4, [.ref as])), (as, .inl (cI, 1024, .inl (nf B)))] H := hP.sub [0, 9, 10, 1, 2, 3, 4, 5, 6, 7, 8] rfl
  have hD : va_D A [(x, .inr (0, [.ref f0, .ref f1, .ref h, .ref hp, .ref hs])), (f0, .inr (1, [.ref a0, .int (nI 0)])), (a0, .inl (cI, 255, .inl (nf v0))), (f1, .inr (1, [.ref a1, .int (nI n1)])), (a1, .inl (cI, 255, .inl (nf v1))), (h, .inr (2, [.ref a])), (a, .inl (cI, 11, .inl (nf b))), (hp, .inr (3, [.ref ap])), (ap, .inl (cI, 32, .inl (nf pb))), (hs, .inr (4, [.ref as])), (as, .inl (cI, 1024, .inl (nf B)))] := hD.sub [0, 9, 10, 1, 2, 3, 4, 5, 6, 7, 8] (by decide) rfl
  refine lv_iload_n hx hb d_LN_read_27 rfl (lv_at hl 4 rfl) ?_
  refine lv_if_lt (tgt := 37) hx hb d_LN_read_28 (by decide) (fun c_1 => ?_) (fun c_1 => ?_)
  · skip
    rw [mk_clt (by omega)] at c_1
    first | omega | contradiction
  · skip
    rw [mk_clt (by omega)] at c_1
    refine lv_iload_n hx hb d_LN_read_31 rfl (lv_at hl 4 rfl) ?_
    refine lv_bipush (v := nI 20) hx hb d_LN_read_32 (by decide) ?_
    refine lv_icmp_le (tgt := 47) hx hb d_LN_read_34 (by decide) (fun c_2 => ?_) (fun c_2 => ?_)
    · skip
      rw [nI_leI (by omega) (by omega)] at c_2
      refine lv_iload_n hx hb d_LN_read_47 rfl (lv_at hl 3 rfl) ?_
      refine mk_r1 (W.runS (As := [.int (nI q)]) (rest := []) S (c_Sl_isN l dC dI cI q (by first | assumption | omega)) (gS 1 hts k_221 k_207 k_28 k_208 (by decide +kernel) ⟨Nat.le_of_ble_eq_true rfl, Nat.le_of_ble_eq_true rfl⟩) (mk_sR hP hK hT hS [] rfl) rfl rfl hl.1 rfl (lv_room (Nat.le_of_ble_eq_true rfl)) d_LN_read_48 ⟨Nat.zero_le _, Nat.zero_le _⟩) ?_
      refine lv_if_eq (tgt := 59) hx hb d_LN_read_51 (by decide) (fun c_3 => ?_) (fun c_3 => ?_)
      · skip
        rw [mk_ceq (by omega)] at c_3
        first | omega | contradiction
      · skip
        rw [mk_ceq (by omega)] at c_3
        refine lv_iload_n hx hb d_LN_read_54 rfl (lv_at hl 4 rfl) ?_
        refine lv_iload_n hx hb d_LN_read_55 rfl (lv_at hl 3 rfl) ?_
        refine lv_icmp_le (tgt := 69) hx hb d_LN_read_56 (by decide) (fun c_4 => ?_) (fun c_4 => ?_)
        · skip
          rw [nI_leI (by omega) (by omega)] at c_4
          refine lv_aload_n hx hb d_LN_read_69 rfl (lv_at hl 1 rfl) ?_
          refine va_get (D := (dC, dI)) (ci := 0) (v := .ref h) (C := "LongNames") (T := F_LN) (N := 5) hx hb hts (iw_LN _) hown hK hP 0 rfl rfl 2 (by decide) (hts _ (List.mem_cons_of_mem _ k_93)) (fun _ h9 => h9) rfl d_LN_read_70 ?_
          refine lv_aload_n hx hb d_LN_read_73 rfl (lv_at hl 1 rfl) ?_
          refine va_get (D := (dC, dI)) (ci := 0) (v := .ref hs) (C := "LongNames") (T := F_LN) (N := 5) hx hb hts (iw_LN _) hown hK hP 0 rfl rfl 4 (by decide) (hts _ (List.mem_cons_of_mem _ k_95)) (fun _ h9 => h9) rfl d_LN_read_74 ?_
          refine lv_iload_n hx hb d_LN_read_77 rfl (lv_at hl 3 rfl) ?_
          refine mk_w0 (wr := [(x, .inr (0, [.ref f0, .ref f1, .ref h, .ref hp, .ref hs])), (f0, .inr (1, [.ref a0, .int (nI 0)])), (a0, .inl (cI, 255, .inl (nf v0))), (f1, .inr (1, [.ref a1, .int (nI n1)])), (a1, .inl (cI, 255, .inl (nf v1))), (hp, .inr (3, [.ref ap])), (ap, .inl (cI, 32, .inl (nf pb)))]) (W.runV (As := [.ref hs, .int (nI q)]) (rest := []) S ((c_Sn_take l dC dI cI h a b hs as B q (by first | assumption | omega) (by first | assumption | omega)) _) (gV 2 hts k_460 k_461 k_462 k_26 k_463 (by decide +kernel) ⟨Nat.le_of_ble_eq_true rfl, Nat.le_of_ble_eq_true rfl⟩) (mk_vM hP hD hK hT hS hA [5, 6, 9, 10] rfl rfl (by decide) (q0 := 5) (ci := 2) rfl rfl) rfl rfl hl.1 rfl (lv_room (Nat.le_of_ble_eq_true rfl)) d_LN_read_78 ⟨Nat.zero_le _, Nat.zero_le _⟩) hP hD hS hA [5, 6, 9, 10] [0, 1, 2, 3, 4, 7, 8] rfl rfl (by decide) (by decide) (fun H locs hP hD hS => ?_)
          have hP : va_P (dC, dI) vwCl [(x, .inr (0, [.ref f0, .ref f1, .ref h, .ref hp, .ref hs])), (f0, .inr (1, [.ref a0, .int (nI 0)])), (a0, .inl (cI, 255, .inl (nf v0))), (f1, .inr (1, [.ref a1, .int (nI n1)])), (a1, .inl (cI, 255, .inl (nf v1))), (h, .inr (2, [.ref a])), (a, .inl (cI, 11, .inl (nf (cpN b B (q * 32) 11)))), (hp, .inr (3, [.ref ap])), (ap, .inl (cI, 32, .inl (nf pb))), (hs, .inr (4, [.ref as])), (as, .inl (cI, 1024, .inl (nf B)))] H := hP.sub [0, 1, 2, 3, 4, 7, 8, 5, 6, 9, 10] rfl
          have hD : va_D A [(x, .inr (0, [.ref f0, .ref f1, .ref h, .ref hp, .ref hs])), (f0, .inr (1, [.ref a0, .int (nI 0)])), (a0, .inl (cI, 255, .inl (nf v0))), (f1, .inr (1, [.ref a1, .int (nI n1)])), (a1, .inl (cI, 255, .inl (nf v1))), (h, .inr (2, [.ref a])), (a, .inl (cI, 11, .inl (nf (cpN b B (q * 32) 11)))), (hp, .inr (3, [.ref ap])), (ap, .inl (cI, 32, .inl (nf pb))), (hs, .inr (4, [.ref as])), (as, .inl (cI, 1024, .inl (nf B)))] := hD.sub [0, 1, 2, 3, 4, 7, 8, 5, 6, 9, 10] (by decide) rfl
          refine lv_aload_n hx hb d_LN_read_81 rfl (lv_at hl 1 rfl) ?_
          refine va_get (D := (dC, dI)) (ci := 0) (v := .ref h) (C := "LongNames") (T := F_LN) (N := 5) hx hb hts (iw_LN _) hown hK hP 0 rfl rfl 2 (by decide) (hts _ (List.mem_cons_of_mem _ k_93)) (fun _ h9 => h9) rfl d_LN_read_82 ?_
          refine mk_r1 (W.runV (As := []) (rest := []) S (c_Sn_valid l dC dI cI h a (cpN b B (q * 32) 11) (by first | assumption | omega)) (gV 0 hts k_465 k_466 k_467 k_26 k_468 (by decide +kernel) ⟨Nat.le_of_ble_eq_true rfl, Nat.le_of_ble_eq_true rfl⟩) (mk_vR hP hK hT hS [5, 6] rfl (q0 := 5) (ci := 2) rfl rfl) rfl rfl hl.1 rfl (lv_room (Nat.le_of_ble_eq_true rfl)) d_LN_read_85 ⟨Nat.zero_le _, Nat.zero_le _⟩) ?_
          refine lv_if_ne (tgt := 101) hx hb d_LN_read_88 (by decide) (fun c_5 => ?_) (fun c_5 => ?_)
          · skip
            have c_5 := bI_1 c_5
            refine lv_iload_n hx hb d_LN_read_101 rfl (lv_at hl 4 rfl) ?_
            refine lv_if_ne (tgt := 117) hx hb d_LN_read_102 (by decide) (fun c_6 => ?_) (fun c_6 => ?_)
            · skip
              rw [mk_ceq (by omega)] at c_6
              refine lv_aload_n hx hb d_LN_read_117 rfl (lv_at hl 1 rfl) ?_
              refine lv_aload hx hb d_LN_read_118 (lv_at hl 0 rfl) ?_
              refine lv_iload_n hx hb d_LN_read_120 rfl (lv_at hl 3 rfl) ?_
              refine lv_iload_n hx hb d_LN_read_121 rfl (lv_at hl 4 rfl) ?_
              refine mk_w1 (wr := [(f1, .inr (1, [.ref a1, .int (nI n1)])), (a1, .inl (cI, 255, .inl (nf v1))), (h, .inr (2, [.ref a])), (a, .inl (cI, 11, .inl (nf (cpN b B (q * 32) 11))))]) (W.runV (As := [.ref f0, .int (nI q), .int (nI p9)]) (rest := []) S ((c_LN_rp3 l dC dI cI x f0 f1 h hp ap pb hs as B f0 a0 v0 q p9 (by first | assumption | omega) (by first | assumption | omega) (by first | assumption | omega) (by first | assumption | omega) (by first | assumption | omega) (by first | assumption | omega) (by first | assumption | omega) (by first | assumption | omega)) _) (gV 3 hts k_499 k_501 k_11 k_24 k_502 (by decide +kernel) ⟨Nat.le_of_ble_eq_true rfl, Nat.le_of_ble_eq_true rfl⟩) (mk_vM hP hD hK hT hS hA [0, 7, 8, 9, 10, 1, 2] rfl rfl (by decide) (q0 := 0) (ci := 0) rfl rfl) rfl rfl hl.1 rfl (lv_room (Nat.le_of_ble_eq_true rfl)) d_LN_read_122 ⟨Nat.zero_le _, Nat.zero_le _⟩) hP hD hS hA [0, 7, 8, 9, 10, 1, 2] [3, 4, 5, 6] rfl rfl (by decide) (by decide) (fun H locs hP hD hS => ?_)
              have hP : va_P (dC, dI) vwCl [(x, .inr (0, [.ref f0, .ref f1, .ref h, .ref hp, .ref hs])), (f0, .inr (1, [.ref a0, .int (nI (coC (unN B q) (13 * p9) 0))])), (a0, .inl (cI, 255, .inl (nf (coV v0 (unN B q) (coC (unN B q) (13 * p9) 0))))), (f1, .inr (1, [.ref a1, .int (nI n1)])), (a1, .inl (cI, 255, .inl (nf v1))), (h, .inr (2, [.ref a])), (a, .inl (cI, 11, .inl (nf (cpN b B (q * 32) 11)))), (hp, .inr (3, [.ref ap])), (ap, .inl (cI, 32, .inl (nf (wpB (coV v0 (unN B q) (coC (unN B q) (13 * p9) 0)) (coC (unN B q) (13 * p9) 0) (suN B (q * 32) 11) pb (rpK (coV v0 (unN B q) (coC (unN B q) (13 * p9) 0)) (coC (unN B q) (13 * p9) 0) (suN B (q * 32) 11) q pb B p9 0))))), (hs, .inr (4, [.ref as])), (as, .inl (cI, 1024, .inl (nf B)))] H := hP.sub [4, 9, 10, 0, 1, 2, 3, 5, 6, 7, 8] rfl
              have hD : va_D A [(x, .inr (0, [.ref f0, .ref f1, .ref h, .ref hp, .ref hs])), (f0, .inr (1, [.ref a0, .int (nI (coC (unN B q) (13 * p9) 0))])), (a0, .inl (cI, 255, .inl (nf (coV v0 (unN B q) (coC (unN B q) (13 * p9) 0))))), (f1, .inr (1, [.ref a1, .int (nI n1)])), (a1, .inl (cI, 255, .inl (nf v1))), (h, .inr (2, [.ref a])), (a, .inl (cI, 11, .inl (nf (cpN b B (q * 32) 11)))), (hp, .inr (3, [.ref ap])), (ap, .inl (cI, 32, .inl (nf (wpB (coV v0 (unN B q) (coC (unN B q) (13 * p9) 0)) (coC (unN B q) (13 * p9) 0) (suN B (q * 32) 11) pb (rpK (coV v0 (unN B q) (coC (unN B q) (13 * p9) 0)) (coC (unN B q) (13 * p9) 0) (suN B (q * 32) 11) q pb B p9 0))))), (hs, .inr (4, [.ref as])), (as, .inl (cI, 1024, .inl (nf B)))] := hD.sub [4, 9, 10, 0, 1, 2, 3, 5, 6, 7, 8] (by decide) rfl
              refine lv_if_ne (tgt := 143) hx hb d_LN_read_125 (by decide) (fun c_7 => ?_) (fun c_7 => ?_)
              · skip
                have c_7 := bI_1 c_7
                refine lv_aload hx hb d_LN_read_143 (lv_at hl 0 rfl) ?_
                refine mk_r1 (W.runV (As := []) (rest := []) S (c_Ro_size l dC dI cI f0 a0 (coC (unN B q) (13 * p9) 0) (coV v0 (unN B q) (coC (unN B q) (13 * p9) 0))) (gV 0 hts k_124 k_125 k_126 k_25 k_127 (by decide +kernel) ⟨Nat.le_of_ble_eq_true rfl, Nat.le_of_ble_eq_true rfl⟩) (mk_vR hP hK hT hS [1, 2] rfl (q0 := 1) (ci := 1) rfl rfl) rfl rfl hl.1 rfl (lv_room (Nat.le_of_ble_eq_true rfl)) d_LN_read_145 ⟨Nat.zero_le _, Nat.zero_le _⟩) ?_
                exact hret _ _ _ _ d_LN_read_148 hP hD hS
              · skip
                have c_7 := bI_0 c_7
                rw [h5] at c_7; exact absurd c_7 (by decide)
            · skip
              rw [mk_ceq (by omega)] at c_6
              first | omega | contradiction
          · skip
            have c_5 := bI_0 c_5
            rw [h1] at c_5; exact absurd c_5 (by decide)
        · skip
          rw [nI_leI (by omega) (by omega)] at c_4
          first | omega | contradiction
    · skip
      rw [nI_leI (by omega) (by omega)] at c_2
      first | omega | contradiction

set_option maxHeartbeats 4000000 in
set_option maxRecDepth 100000 in
theorem c_LN_writeS1 (l : Launch) (dC : Nat → ClassId) (dI : Nat → Nat → Nat) (cI : ClassId) (x f0 a0 n0 : Nat) (v0 : Nat → Nat) (f1 a1 n1 : Nat) (v1 : Nat → Nat) (h a : Nat) (b : Nat → Nat) (hp ap : Nat) (pb : Nat → Nat) (hs as : Nat) (B : Nat → Nat) (q : Nat) (hn0 : n0 ≤ 255) (hv0 : ∀ j, v0 j < 65536) (hn1 : n1 ≤ 255) (hv1 : ∀ j, v1 j < 65536) (hb9 : ∀ j, b j < 65536) (hpb : ∀ j, pb j < 65536) (hB : ∀ j, B j < 256) (h1 : nameN v1 n1 = true) (h2 : shortN v1 n1 = true) (hq : q < 32) : mM l y_LN_write w_LN_write ({ frames := 5, cells := 0, slots := 0, locals := 112 } : Room) [.ref x, .int (nI 1), .int (nI q), .int (nI 0)] (dC, dI) vwCl [(cI, .int)] [(x, .inr (0, [.ref f0, .ref f1, .ref h, .ref hp, .ref hs])), (f0, .inr (1, [.ref a0, .int (nI n0)])), (a0, .inl (cI, 255, .inl (nf v0))), (f1, .inr (1, [.ref a1, .int (nI n1)])), (a1, .inl (cI, 255, .inl (nf v1))), (h, .inr (2, [.ref a])), (a, .inl (cI, 11, .inl (nf b))), (hp, .inr (3, [.ref ap])), (ap, .inl (cI, 32, .inl (nf pb))), (hs, .inr (4, [.ref as])), (as, .inl (cI, 1024, .inl (nf B)))] (some (.int (nI (0 + 1)))) [(x, .inr (0, [.ref f0, .ref f1, .ref h, .ref hp, .ref hs])), (f0, .inr (1, [.ref a0, .int (nI n0)])), (a0, .inl (cI, 255, .inl (nf v0))), (f1, .inr (1, [.ref a1, .int (nI n1)])), (a1, .inl (cI, 255, .inl (nf v1))), (h, .inr (2, [.ref a])), (a, .inl (cI, 11, .inl (nf (tsN v1 n1 b)))), (hp, .inr (3, [.ref ap])), (ap, .inl (cI, 32, .inl (nf (wpB v1 n1 (suN (stN B (enN (tsN v1 n1 b)) ((q + 0) * 32) 32) ((q + 0) * 32) 11) pb 0)))), (hs, .inr (4, [.ref as])), (as, .inl (cI, 1024, .inl (nf (wsB v1 n1 (suN (stN B (enN (tsN v1 n1 b)) ((q + 0) * 32) 32) ((q + 0) * 32) 11) (q + 0) pb (stN B (enN (tsN v1 n1 b)) ((q + 0) * 32) 32) 0))))] := by
  have htb : ∀ j, (tsN v1 n1 b) j < 65536 := tsN_lt hv1 hb9
  refine mk_Mi (cc := b_LN_write) (maxL := 6) (by decide) rfl (Nat.le_of_ble_eq_true rfl) rfl ?_
  intro p e s m below meth c Q A ls S hP hK hT hS hl hD hA hret
  obtain ⟨hx, hb, hml, hown, hts⟩ := id S
  have hl : lv_has ls 6 [(0, .ref x), (1, .int (nI 1)), (2, .int (nI q)), (3, .int (nI 0))] := hl
  refine lv_aload_n hx hb d_LN_write_0 rfl (lv_at hl 0 rfl) ?_
  refine lv_iload_n hx hb d_LN_write_1 rfl (lv_at hl 1 rfl) ?_
  refine mk_r1 (W.runV (As := [.int (nI 1)]) (rest := []) S (c_LN_row1 l dC dI cI x f0 f1 h hp hs) (gV 1 hts k_111 k_113 k_0 k_24 k_114 (by decide +kernel) ⟨Nat.le_of_ble_eq_true rfl, Nat.le_of_ble_eq_true rfl⟩) (mk_vR hP hK hT hS [0] rfl (q0 := 0) (ci := 0) rfl rfl) rfl rfl hl.1 rfl (lv_room (Nat.le_of_ble_eq_true rfl)) d_LN_write_2 ⟨Nat.zero_le _, Nat.zero_le _⟩) ?_
  refine lv_astore (lv' := [(4, .ref f1), (0, .ref x), (1, .int (nI 1)), (2, .int (nI q)), (3, .int (nI 0))]) hx hb d_LN_write_5 hl (by decide) rfl (fun ls hl => ?_)
  refine lv_aload hx hb d_LN_write_7 (lv_at hl 0 rfl) ?_
  refine lv_ifnull hx hb d_LN_write_9 ?_
  refine lv_aload hx hb d_LN_write_12 (lv_at hl 0 rfl) ?_
  refine mk_r1 (W.runV (As := []) (rest := []) S (c_Ro_name l dC dI cI f1 a1 n1 v1 (by first | assumption | omega) (by first | assumption | omega)) (gV 0 hts k_136 k_137 k_138 k_25 k_139 (by decide +kernel) ⟨Nat.le_of_ble_eq_true rfl, Nat.le_of_ble_eq_true rfl⟩) (mk_vR hP hK hT hS [3, 4] rfl (q0 := 3) (ci := 1) rfl rfl) rfl rfl hl.1 rfl (lv_room (Nat.le_of_ble_eq_true rfl)) d_LN_write_14 ⟨Nat.zero_le _, Nat.zero_le _⟩) ?_
  refine lv_if_ne (tgt := 30) hx hb d_LN_write_17 (by decide) (fun c_1 => ?_) (fun c_1 => ?_)
  · skip
    have c_1 := bI_1 c_1
    refine lv_iload_n hx hb d_LN_write_30 rfl (lv_at hl 4 rfl) ?_
    refine lv_if_lt (tgt := 41) hx hb d_LN_write_31 (by decide) (fun c_2 => ?_) (fun c_2 => ?_)
    · skip
      rw [mk_clt (by omega)] at c_2
      first | omega | contradiction
    · skip
      rw [mk_clt (by omega)] at c_2
      refine lv_iload_n hx hb d_LN_write_34 rfl (lv_at hl 4 rfl) ?_
      refine lv_sipush (v := nI 9999) hx hb d_LN_write_35 (by decide) ?_
      refine lv_icmp_le (tgt := 51) hx hb d_LN_write_38 (by decide) (fun c_3 => ?_) (fun c_3 => ?_)
      · skip
        rw [nI_leI (by omega) (by omega)] at c_3
        refine lv_iload_n hx hb d_LN_write_51 rfl (lv_at hl 4 rfl) ?_
        refine lv_if_ne (tgt := 73) hx hb d_LN_write_52 (by decide) (fun c_4 => ?_) (fun c_4 => ?_)
        · skip
          rw [mk_ceq (by omega)] at c_4
          first | omega | contradiction
        · skip
          rw [mk_ceq (by omega)] at c_4
          refine lv_aload hx hb d_LN_write_55 (lv_at hl 0 rfl) ?_
          refine mk_r1 (W.runV (As := []) (rest := []) S (c_Ro_short l dC dI cI f1 a1 n1 v1 (by first | assumption | omega) (by first | assumption | omega)) (gV 0 hts k_150 k_151 k_152 k_25 k_153 (by decide +kernel) ⟨Nat.le_of_ble_eq_true rfl, Nat.le_of_ble_eq_true rfl⟩) (mk_vR hP hK hT hS [3, 4] rfl (q0 := 3) (ci := 1) rfl rfl) rfl rfl hl.1 rfl (lv_room (Nat.le_of_ble_eq_true rfl)) d_LN_write_57 ⟨Nat.zero_le _, Nat.zero_le _⟩) ?_
          refine lv_if_ne (tgt := 73) hx hb d_LN_write_60 (by decide) (fun c_5 => ?_) (fun c_5 => ?_)
          · skip
            have c_5 := bI_1 c_5
            refine lv_iload_n hx hb d_LN_write_73 rfl (lv_at hl 4 rfl) ?_
            refine lv_if_ne (tgt := 81) hx hb d_LN_write_74 (by decide) (fun c_6 => ?_) (fun c_6 => ?_)
            · skip
              rw [mk_ceq (by omega)] at c_6
              first | omega | contradiction
            · skip
              rw [mk_ceq (by omega)] at c_6
              refine lv_iconst (v := nI 0) hx hb d_LN_write_77 (by decide) ?_
              refine lv_goto (tgt := 86) hx hb d_LN_write_78 (by decide) ?_
              refine lv_istore (lv' := [(5, .int (nI 0)), (4, .ref f1), (0, .ref x), (1, .int (nI 1)), (2, .int (nI q)), (3, .int (nI 0))]) hx hb d_LN_write_86 hl (by decide) rfl (fun ls hl => ?_)
              refine lv_iload_n hx hb d_LN_write_88 rfl (lv_at hl 4 rfl) ?_
              refine mk_r1 (W.runS (As := [.int (nI q)]) (rest := []) S (c_Sl_isN l dC dI cI q (by first | assumption | omega)) (gS 1 hts k_221 k_207 k_28 k_208 (by decide +kernel) ⟨Nat.le_of_ble_eq_true rfl, Nat.le_of_ble_eq_true rfl⟩) (mk_sR hP hK hT hS [] rfl) rfl rfl hl.1 rfl (lv_room (Nat.le_of_ble_eq_true rfl)) d_LN_write_89 ⟨Nat.zero_le _, Nat.zero_le _⟩) ?_
              refine lv_if_eq (tgt := 105) hx hb d_LN_write_92 (by decide) (fun c_7 => ?_) (fun c_7 => ?_)
              · skip
                rw [mk_ceq (by omega)] at c_7
                first | omega | contradiction
              · skip
                rw [mk_ceq (by omega)] at c_7
                refine lv_iload_n hx hb d_LN_write_95 rfl (lv_at hl 4 rfl) ?_
                refine lv_iload hx hb d_LN_write_96 (lv_at hl 0 rfl) ?_
                refine lv_iadd hx hb d_LN_write_98 ?_
                refine mk_ti (y := nI (q + 0)) (nI_add q 0) ?_
                refine mk_r1 (W.runS (As := [.int (nI (q + 0))]) (rest := []) S (c_Sl_isN l dC dI cI (q + 0) (by first | assumption | omega)) (gS 1 hts k_221 k_207 k_28 k_208 (by decide +kernel) ⟨Nat.le_of_ble_eq_true rfl, Nat.le_of_ble_eq_true rfl⟩) (mk_sR hP hK hT hS [] rfl) rfl rfl hl.1 rfl (lv_room (Nat.le_of_ble_eq_true rfl)) d_LN_write_99 ⟨Nat.zero_le _, Nat.zero_le _⟩) ?_
                refine lv_if_ne (tgt := 115) hx hb d_LN_write_102 (by decide) (fun c_8 => ?_) (fun c_8 => ?_)
                · skip
                  rw [mk_ceq (by omega)] at c_8
                  refine lv_iload_n hx hb d_LN_write_115 rfl (lv_at hl 5 rfl) ?_
                  refine lv_if_ne (tgt := 131) hx hb d_LN_write_116 (by decide) (fun c_9 => ?_) (fun c_9 => ?_)
                  · skip
                    rw [mk_ceq (by omega)] at c_9
                    first | omega | contradiction
                  · skip
                    rw [mk_ceq (by omega)] at c_9
                    refine lv_aload_n hx hb d_LN_write_119 rfl (lv_at hl 2 rfl) ?_
                    refine va_get (D := (dC, dI)) (ci := 0) (v := .ref h) (C := "LongNames") (T := F_LN) (N := 5) hx hb hts (iw_LN _) hown hK hP 0 rfl rfl 2 (by decide) (hts _ (List.mem_cons_of_mem _ k_93)) (fun _ h9 => h9) rfl d_LN_write_120 ?_
                    refine lv_aload hx hb d_LN_write_123 (lv_at hl 1 rfl) ?_
                    refine mk_w0 (wr := [(x, .inr (0, [.ref f0, .ref f1, .ref h, .ref hp, .ref hs])), (f0, .inr (1, [.ref a0, .int (nI n0)])), (a0, .inl (cI, 255, .inl (nf v0))), (hp, .inr (3, [.ref ap])), (ap, .inl (cI, 32, .inl (nf pb))), (hs, .inr (4, [.ref as])), (as, .inl (cI, 1024, .inl (nf B)))]) (W.runV (As := [.ref f1]) (rest := []) S ((c_Sn_shown l dC dI cI h a b f1 a1 n1 v1 (by first | assumption | omega) (by first | assumption | omega)) _) (gV 1 hts k_372 k_373 k_374 k_26 k_375 (by decide +kernel) ⟨Nat.le_of_ble_eq_true rfl, Nat.le_of_ble_eq_true rfl⟩) (mk_vM hP hD hK hT hS hA [5, 6, 3, 4] rfl rfl (by decide) (q0 := 5) (ci := 2) rfl rfl) rfl rfl hl.1 rfl (lv_room (Nat.le_of_ble_eq_true rfl)) d_LN_write_125 ⟨Nat.zero_le _, Nat.zero_le _⟩) hP hD hS hA [5, 6, 3, 4] [0, 1, 2, 7, 8, 9, 10] rfl rfl (by decide) (by decide) (fun H locs hP hD hS => ?_)
                    have hP : va_P (dC, dI) vwCl [(x, .inr (0, [.ref f0, .ref f1, .ref h, .ref hp, .ref hs])), (f0, .inr (1, [.ref a0, .int (nI n0)])), (a0, .inl (cI, 255, .inl (nf v0))), (f1, .inr (1, [.ref a1, .int (nI n1)])), (a1, .inl (cI, 255, .inl (nf v1))), (h, .inr (2, [.ref a])), (a, .inl (cI, 11, .inl (nf (tsN v1 n1 b)))), (hp, .inr (3, [.ref ap])), (ap, .inl (cI, 32, .inl (nf pb))), (hs, .inr (4, [.ref as])), (as, .inl (cI, 1024, .inl (nf B)))] H := hP.sub [0, 1, 2, 9, 10, 7, 8, 3, 4, 5, 6] rfl
                    have hD : va_D A [(x, .inr (0, [.ref f0, .ref f1, .ref h, .ref hp, .ref hs])), (f0, .inr (1, [.ref a0, .int (nI n0)])), (a0, .inl (cI, 255, .inl (nf v0))), (f1, .inr (1, [.ref a1, .int (nI n1)])), (a1, .inl (cI, 255, .inl (nf v1))), (h, .inr (2, [.ref a])), (a, .inl (cI, 11, .inl (nf (tsN v1 n1 b)))), (hp, .inr (3, [.ref ap])), (ap, .inl (cI, 32, .inl (nf pb))), (hs, .inr (4, [.ref as])), (as, .inl (cI, 1024, .inl (nf B)))] := hD.sub [0, 1, 2, 9, 10, 7, 8, 3, 4, 5, 6] (by decide) rfl
                    refine lv_goto (tgt := 141) hx hb d_LN_write_128 (by decide) ?_
                    refine lv_aload_n hx hb d_LN_write_141 rfl (lv_at hl 2 rfl) ?_
                    refine lv_aload hx hb d_LN_write_142 (lv_at hl 1 rfl) ?_
                    refine lv_iload_n hx hb d_LN_write_144 rfl (lv_at hl 4 rfl) ?_
                    refine lv_iload hx hb d_LN_write_145 (lv_at hl 0 rfl) ?_
                    refine lv_iadd hx hb d_LN_write_147 ?_
                    refine mk_ti (y := nI (q + 0)) (nI_add q 0) ?_
                    refine lv_iload hx hb d_LN_write_148 (lv_at hl 0 rfl) ?_
                    refine mk_w0 (wr := [(f0, .inr (1, [.ref a0, .int (nI n0)])), (a0, .inl (cI, 255, .inl (nf v0)))]) (W.runV (As := [.ref f1, .int (nI (q + 0)), .int (nI 0)]) (rest := []) S ((c_LN_ws l dC dI cI x f0 f1 h a (tsN v1 n1 b) hp ap pb hs as B f1 a1 n1 v1 (q + 0) 0 (by first | assumption | omega) (by first | assumption | omega) (by first | assumption | omega) (by first | assumption | omega) (by first | assumption | omega) (by first | assumption | omega) (by first | assumption | omega)) _) (gV 3 hts k_406 k_408 k_5 k_24 k_409 (by decide +kernel) ⟨Nat.le_of_ble_eq_true rfl, Nat.le_of_ble_eq_true rfl⟩) (mk_vM hP hD hK hT hS hA [0, 5, 6, 7, 8, 9, 10, 3, 4] rfl rfl (by decide) (q0 := 0) (ci := 0) rfl rfl) rfl rfl hl.1 rfl (lv_room (Nat.le_of_ble_eq_true rfl)) d_LN_write_150 ⟨Nat.zero_le _, Nat.zero_le _⟩) hP hD hS hA [0, 5, 6, 7, 8, 9, 10, 3, 4] [1, 2] rfl rfl (by decide) (by decide) (fun H locs hP hD hS => ?_)
                    have hP : va_P (dC, dI) vwCl [(x, .inr (0, [.ref f0, .ref f1, .ref h, .ref hp, .ref hs])), (f0, .inr (1, [.ref a0, .int (nI n0)])), (a0, .inl (cI, 255, .inl (nf v0))), (f1, .inr (1, [.ref a1, .int (nI n1)])), (a1, .inl (cI, 255, .inl (nf v1))), (h, .inr (2, [.ref a])), (a, .inl (cI, 11, .inl (nf (tsN v1 n1 b)))), (hp, .inr (3, [.ref ap])), (ap, .inl (cI, 32, .inl (nf (wpB v1 n1 (suN (stN B (enN (tsN v1 n1 b)) ((q + 0) * 32) 32) ((q + 0) * 32) 11) pb 0)))), (hs, .inr (4, [.ref as])), (as, .inl (cI, 1024, .inl (nf (wsB v1 n1 (suN (stN B (enN (tsN v1 n1 b)) ((q + 0) * 32) 32) ((q + 0) * 32) 11) (q + 0) pb (stN B (enN (tsN v1 n1 b)) ((q + 0) * 32) 32) 0))))] H := hP.sub [2, 0, 1, 9, 10, 3, 4, 5, 6, 7, 8] rfl
                    have hD : va_D A [(x, .inr (0, [.ref f0, .ref f1, .ref h, .ref hp, .ref hs])), (f0, .inr (1, [.ref a0, .int (nI n0)])), (a0, .inl (cI, 255, .inl (nf v0))), (f1, .inr (1, [.ref a1, .int (nI n1)])), (a1, .inl (cI, 255, .inl (nf v1))), (h, .inr (2, [.ref a])), (a, .inl (cI, 11, .inl (nf (tsN v1 n1 b)))), (hp, .inr (3, [.ref ap])), (ap, .inl (cI, 32, .inl (nf (wpB v1 n1 (suN (stN B (enN (tsN v1 n1 b)) ((q + 0) * 32) 32) ((q + 0) * 32) 11) pb 0)))), (hs, .inr (4, [.ref as])), (as, .inl (cI, 1024, .inl (nf (wsB v1 n1 (suN (stN B (enN (tsN v1 n1 b)) ((q + 0) * 32) 32) ((q + 0) * 32) 11) (q + 0) pb (stN B (enN (tsN v1 n1 b)) ((q + 0) * 32) 32) 0))))] := hD.sub [2, 0, 1, 9, 10, 3, 4, 5, 6, 7, 8] (by decide) rfl
                    refine lv_iload hx hb d_LN_write_153 (lv_at hl 0 rfl) ?_
                    refine lv_iconst (v := nI 1) hx hb d_LN_write_155 (by decide) ?_
                    refine lv_iadd hx hb d_LN_write_156 ?_
                    refine mk_ti (y := nI (0 + 1)) (nI_add 0 1) ?_
                    exact hret _ _ _ _ d_LN_write_157 hP hD hS
                · skip
                  rw [mk_ceq (by omega)] at c_8
                  first | omega | contradiction
          · skip
            have c_5 := bI_0 c_5
            rw [h2] at c_5; exact absurd c_5 (by decide)
      · skip
        rw [nI_leI (by omega) (by omega)] at c_3
        first | omega | contradiction
  · skip
    have c_1 := bI_0 c_1
    rw [h1] at c_1; exact absurd c_1 (by decide)

set_option maxHeartbeats 4000000 in
set_option maxRecDepth 100000 in
theorem c_LN_writeT1 (l : Launch) (dC : Nat → ClassId) (dI : Nat → Nat → Nat) (cI : ClassId) (x f0 a0 n0 : Nat) (v0 : Nat → Nat) (f1 a1 n1 : Nat) (v1 : Nat → Nat) (h a : Nat) (b : Nat → Nat) (hp ap : Nat) (pb : Nat → Nat) (hs as : Nat) (B : Nat → Nat) (q t : Nat) (hn0 : n0 ≤ 255) (hv0 : ∀ j, v0 j < 65536) (hn1 : n1 ≤ 255) (hv1 : ∀ j, v1 j < 65536) (hb9 : ∀ j, b j < 65536) (hpb : ∀ j, pb j < 65536) (hB : ∀ j, B j < 256) (h1 : nameN v1 n1 = true) (ht : 1 ≤ t ∧ t < 10000) (hq : q + pnN n1 < 32) : mM l y_LN_write w_LN_write ({ frames := 5, cells := 0, slots := 0, locals := 112 } : Room) [.ref x, .int (nI 1), .int (nI q), .int (nI t)] (dC, dI) vwCl [(cI, .int)] [(x, .inr (0, [.ref f0, .ref f1, .ref h, .ref hp, .ref hs])), (f0, .inr (1, [.ref a0, .int (nI n0)])), (a0, .inl (cI, 255, .inl (nf v0))), (f1, .inr (1, [.ref a1, .int (nI n1)])), (a1, .inl (cI, 255, .inl (nf v1))), (h, .inr (2, [.ref a])), (a, .inl (cI, 11, .inl (nf b))), (hp, .inr (3, [.ref ap])), (ap, .inl (cI, 32, .inl (nf pb))), (hs, .inr (4, [.ref as])), (as, .inl (cI, 1024, .inl (nf B)))] (some (.int (nI (pnN n1 + 1)))) [(x, .inr (0, [.ref f0, .ref f1, .ref h, .ref hp, .ref hs])), (f0, .inr (1, [.ref a0, .int (nI n0)])), (a0, .inl (cI, 255, .inl (nf v0))), (f1, .inr (1, [.ref a1, .int (nI n1)])), (a1, .inl (cI, 255, .inl (nf v1))), (h, .inr (2, [.ref a])), (a, .inl (cI, 11, .inl (nf (ttN v1 n1 t b)))), (hp, .inr (3, [.ref ap])), (ap, .inl (cI, 32, .inl (nf (wpB v1 n1 (suN (stN B (enN (ttN v1 n1 t b)) ((q + pnN n1) * 32) 32) ((q + pnN n1) * 32) 11) pb (pnN n1))))), (hs, .inr (4, [.ref as])), (as, .inl (cI, 1024, .inl (nf (wsB v1 n1 (suN (stN B (enN (ttN v1 n1 t b)) ((q + pnN n1) * 32) 32) ((q + pnN n1) * 32) 11) (q + pnN n1) pb (stN B (enN (ttN v1 n1 t b)) ((q + pnN n1) * 32) 32) (pnN n1)))))] := by
  have htb : ∀ j, (ttN v1 n1 t b) j < 65536 := ttN_lt hv1 hb9
  refine mk_Mi (cc := b_LN_write) (maxL := 6) (by decide) rfl (Nat.le_of_ble_eq_true rfl) rfl ?_
  intro p e s m below meth c Q A ls S hP hK hT hS hl hD hA hret
  obtain ⟨hx, hb, hml, hown, hts⟩ := id S
  have hl : lv_has ls 6 [(0, .ref x), (1, .int (nI 1)), (2, .int (nI q)), (3, .int (nI t))] := hl
  refine lv_aload_n hx hb d_LN_write_0 rfl (lv_at hl 0 rfl) ?_
  refine lv_iload_n hx hb d_LN_write_1 rfl (lv_at hl 1 rfl) ?_
  refine mk_r1 (W.runV (As := [.int (nI 1)]) (rest := []) S (c_LN_row1 l dC dI cI x f0 f1 h hp hs) (gV 1 hts k_111 k_113 k_0 k_24 k_114 (by decide +kernel) ⟨Nat.le_of_ble_eq_true rfl, Nat.le_of_ble_eq_true rfl⟩) (mk_vR hP hK hT hS [0] rfl (q0 := 0) (ci := 0) rfl rfl) rfl rfl hl.1 rfl (lv_room (Nat.le_of_ble_eq_true rfl)) d_LN_write_2 ⟨Nat.zero_le _, Nat.zero_le _⟩) ?_
  refine lv_astore (lv' := [(4, .ref f1), (0, .ref x), (1, .int (nI 1)), (2, .int (nI q)), (3, .int (nI t))]) hx hb d_LN_write_5 hl (by decide) rfl (fun ls hl => ?_)
  refine lv_aload hx hb d_LN_write_7 (lv_at hl 0 rfl) ?_
  refine lv_ifnull hx hb d_LN_write_9 ?_
  refine lv_aload hx hb d_LN_write_12 (lv_at hl 0 rfl) ?_
  refine mk_r1 (W.runV (As := []) (rest := []) S (c_Ro_name l dC dI cI f1 a1 n1 v1 (by first | assumption | omega) (by first | assumption | omega)) (gV 0 hts k_136 k_137 k_138 k_25 k_139 (by decide +kernel) ⟨Nat.le_of_ble_eq_true rfl, Nat.le_of_ble_eq_true rfl⟩) (mk_vR hP hK hT hS [3, 4] rfl (q0 := 3) (ci := 1) rfl rfl) rfl rfl hl.1 rfl (lv_room (Nat.le_of_ble_eq_true rfl)) d_LN_write_14 ⟨Nat.zero_le _, Nat.zero_le _⟩) ?_
  refine lv_if_ne (tgt := 30) hx hb d_LN_write_17 (by decide) (fun c_1 => ?_) (fun c_1 => ?_)
  · skip
    have c_1 := bI_1 c_1
    refine lv_iload_n hx hb d_LN_write_30 rfl (lv_at hl 4 rfl) ?_
    refine lv_if_lt (tgt := 41) hx hb d_LN_write_31 (by decide) (fun c_2 => ?_) (fun c_2 => ?_)
    · skip
      rw [mk_clt (by omega)] at c_2
      first | omega | contradiction
    · skip
      rw [mk_clt (by omega)] at c_2
      refine lv_iload_n hx hb d_LN_write_34 rfl (lv_at hl 4 rfl) ?_
      refine lv_sipush (v := nI 9999) hx hb d_LN_write_35 (by decide) ?_
      refine lv_icmp_le (tgt := 51) hx hb d_LN_write_38 (by decide) (fun c_3 => ?_) (fun c_3 => ?_)
      · skip
        rw [nI_leI (by omega) (by omega)] at c_3
        refine lv_iload_n hx hb d_LN_write_51 rfl (lv_at hl 4 rfl) ?_
        refine lv_if_ne (tgt := 73) hx hb d_LN_write_52 (by decide) (fun c_4 => ?_) (fun c_4 => ?_)
        · skip
          rw [mk_ceq (by omega)] at c_4
          refine lv_iload_n hx hb d_LN_write_73 rfl (lv_at hl 4 rfl) ?_
          refine lv_if_ne (tgt := 81) hx hb d_LN_write_74 (by decide) (fun c_5 => ?_) (fun c_5 => ?_)
          · skip
            rw [mk_ceq (by omega)] at c_5
            refine lv_aload hx hb d_LN_write_81 (lv_at hl 0 rfl) ?_
            refine mk_r1 (W.runV (As := []) (rest := []) S (c_Ro_parts l dC dI cI f1 a1 n1 v1 (by first | assumption | omega)) (gV 0 hts k_161 k_162 k_163 k_25 k_164 (by decide +kernel) ⟨Nat.le_of_ble_eq_true rfl, Nat.le_of_ble_eq_true rfl⟩) (mk_vR hP hK hT hS [3, 4] rfl (q0 := 3) (ci := 1) rfl rfl) rfl rfl hl.1 rfl (lv_room (Nat.le_of_ble_eq_true rfl)) d_LN_write_83 ⟨Nat.zero_le _, Nat.zero_le _⟩) ?_
            have b_6 := pnN_le (show n1 ≤ 255 by omega)
            refine lv_istore (lv' := [(5, .int (nI (pnN n1))), (4, .ref f1), (0, .ref x), (1, .int (nI 1)), (2, .int (nI q)), (3, .int (nI t))]) hx hb d_LN_write_86 hl (by decide) rfl (fun ls hl => ?_)
            refine lv_iload_n hx hb d_LN_write_88 rfl (lv_at hl 4 rfl) ?_
            refine mk_r1 (W.runS (As := [.int (nI q)]) (rest := []) S (c_Sl_isN l dC dI cI q (by first | assumption | omega)) (gS 1 hts k_221 k_207 k_28 k_208 (by decide +kernel) ⟨Nat.le_of_ble_eq_true rfl, Nat.le_of_ble_eq_true rfl⟩) (mk_sR hP hK hT hS [] rfl) rfl rfl hl.1 rfl (lv_room (Nat.le_of_ble_eq_true rfl)) d_LN_write_89 ⟨Nat.zero_le _, Nat.zero_le _⟩) ?_
            refine lv_if_eq (tgt := 105) hx hb d_LN_write_92 (by decide) (fun c_7 => ?_) (fun c_7 => ?_)
            · skip
              rw [mk_ceq (by omega)] at c_7
              first | omega | contradiction
            · skip
              rw [mk_ceq (by omega)] at c_7
              refine lv_iload_n hx hb d_LN_write_95 rfl (lv_at hl 4 rfl) ?_
              refine lv_iload hx hb d_LN_write_96 (lv_at hl 0 rfl) ?_
              refine lv_iadd hx hb d_LN_write_98 ?_
              refine mk_ti (y := nI (q + pnN n1)) (nI_add q (pnN n1)) ?_
              refine mk_r1 (W.runS (As := [.int (nI (q + pnN n1))]) (rest := []) S (c_Sl_isN l dC dI cI (q + pnN n1) (by first | assumption | omega)) (gS 1 hts k_221 k_207 k_28 k_208 (by decide +kernel) ⟨Nat.le_of_ble_eq_true rfl, Nat.le_of_ble_eq_true rfl⟩) (mk_sR hP hK hT hS [] rfl) rfl rfl hl.1 rfl (lv_room (Nat.le_of_ble_eq_true rfl)) d_LN_write_99 ⟨Nat.zero_le _, Nat.zero_le _⟩) ?_
              refine lv_if_ne (tgt := 115) hx hb d_LN_write_102 (by decide) (fun c_8 => ?_) (fun c_8 => ?_)
              · skip
                rw [mk_ceq (by omega)] at c_8
                refine lv_iload_n hx hb d_LN_write_115 rfl (lv_at hl 5 rfl) ?_
                refine lv_if_ne (tgt := 131) hx hb d_LN_write_116 (by decide) (fun c_9 => ?_) (fun c_9 => ?_)
                · skip
                  rw [mk_ceq (by omega)] at c_9
                  refine lv_aload_n hx hb d_LN_write_131 rfl (lv_at hl 2 rfl) ?_
                  refine va_get (D := (dC, dI)) (ci := 0) (v := .ref h) (C := "LongNames") (T := F_LN) (N := 5) hx hb hts (iw_LN _) hown hK hP 0 rfl rfl 2 (by decide) (hts _ (List.mem_cons_of_mem _ k_93)) (fun _ h9 => h9) rfl d_LN_write_132 ?_
                  refine lv_aload hx hb d_LN_write_135 (lv_at hl 1 rfl) ?_
                  refine lv_iload_n hx hb d_LN_write_137 rfl (lv_at hl 5 rfl) ?_
                  refine mk_w0 (wr := [(x, .inr (0, [.ref f0, .ref f1, .ref h, .ref hp, .ref hs])), (f0, .inr (1, [.ref a0, .int (nI n0)])), (a0, .inl (cI, 255, .inl (nf v0))), (hp, .inr (3, [.ref ap])), (ap, .inl (cI, 32, .inl (nf pb))), (hs, .inr (4, [.ref as])), (as, .inl (cI, 1024, .inl (nf B)))]) (W.runV (As := [.ref f1, .int (nI t)]) (rest := []) S ((c_Sn_tail l dC dI cI h a b f1 a1 n1 v1 t (by first | assumption | omega) (by first | assumption | omega) (by first | assumption | omega)) _) (gV 2 hts k_395 k_396 k_397 k_26 k_398 (by decide +kernel) ⟨Nat.le_of_ble_eq_true rfl, Nat.le_of_ble_eq_true rfl⟩) (mk_vM hP hD hK hT hS hA [5, 6, 3, 4] rfl rfl (by decide) (q0 := 5) (ci := 2) rfl rfl) rfl rfl hl.1 rfl (lv_room (Nat.le_of_ble_eq_true rfl)) d_LN_write_138 ⟨Nat.zero_le _, Nat.zero_le _⟩) hP hD hS hA [5, 6, 3, 4] [0, 1, 2, 7, 8, 9, 10] rfl rfl (by decide) (by decide) (fun H locs hP hD hS => ?_)
                  have hP : va_P (dC, dI) vwCl [(x, .inr (0, [.ref f0, .ref f1, .ref h, .ref hp, .ref hs])), (f0, .inr (1, [.ref a0, .int (nI n0)])), (a0, .inl (cI, 255, .inl (nf v0))), (f1, .inr (1, [.ref a1, .int (nI n1)])), (a1, .inl (cI, 255, .inl (nf v1))), (h, .inr (2, [.ref a])), (a, .inl (cI, 11, .inl (nf (ttN v1 n1 t b)))), (hp, .inr (3, [.ref ap])), (ap, .inl (cI, 32, .inl (nf pb))), (hs, .inr (4, [.ref as])), (as, .inl (cI, 1024, .inl (nf B)))] H := hP.sub [0, 1, 2, 9, 10, 7, 8, 3, 4, 5, 6] rfl
                  have hD : va_D A [(x, .inr (0, [.ref f0, .ref f1, .ref h, .ref hp, .ref hs])), (f0, .inr (1, [.ref a0, .int (nI n0)])), (a0, .inl (cI, 255, .inl (nf v0))), (f1, .inr (1, [.ref a1, .int (nI n1)])), (a1, .inl (cI, 255, .inl (nf v1))), (h, .inr (2, [.ref a])), (a, .inl (cI, 11, .inl (nf (ttN v1 n1 t b)))), (hp, .inr (3, [.ref ap])), (ap, .inl (cI, 32, .inl (nf pb))), (hs, .inr (4, [.ref as])), (as, .inl (cI, 1024, .inl (nf B)))] := hD.sub [0, 1, 2, 9, 10, 7, 8, 3, 4, 5, 6] (by decide) rfl
                  refine lv_aload_n hx hb d_LN_write_141 rfl (lv_at hl 2 rfl) ?_
                  refine lv_aload hx hb d_LN_write_142 (lv_at hl 1 rfl) ?_
                  refine lv_iload_n hx hb d_LN_write_144 rfl (lv_at hl 4 rfl) ?_
                  refine lv_iload hx hb d_LN_write_145 (lv_at hl 0 rfl) ?_
                  refine lv_iadd hx hb d_LN_write_147 ?_
                  refine mk_ti (y := nI (q + pnN n1)) (nI_add q (pnN n1)) ?_
                  refine lv_iload hx hb d_LN_write_148 (lv_at hl 0 rfl) ?_
                  refine mk_w0 (wr := [(f0, .inr (1, [.ref a0, .int (nI n0)])), (a0, .inl (cI, 255, .inl (nf v0)))]) (W.runV (As := [.ref f1, .int (nI (q + pnN n1)), .int (nI (pnN n1))]) (rest := []) S ((c_LN_ws l dC dI cI x f0 f1 h a (ttN v1 n1 t b) hp ap pb hs as B f1 a1 n1 v1 (q + pnN n1) (pnN n1) (by first | assumption | omega) (by first | assumption | omega) (by first | assumption | omega) (by first | assumption | omega) (by first | assumption | omega) (by first | assumption | omega) (by first | assumption | omega)) _) (gV 3 hts k_406 k_408 k_5 k_24 k_409 (by decide +kernel) ⟨Nat.le_of_ble_eq_true rfl, Nat.le_of_ble_eq_true rfl⟩) (mk_vM hP hD hK hT hS hA [0, 5, 6, 7, 8, 9, 10, 3, 4] rfl rfl (by decide) (q0 := 0) (ci := 0) rfl rfl) rfl rfl hl.1 rfl (lv_room (Nat.le_of_ble_eq_true rfl)) d_LN_write_150 ⟨Nat.zero_le _, Nat.zero_le _⟩) hP hD hS hA [0, 5, 6, 7, 8, 9, 10, 3, 4] [1, 2] rfl rfl (by decide) (by decide) (fun H locs hP hD hS => ?_)
                  have hP : va_P (dC, dI) vwCl [(x, .inr (0, [.ref f0, .ref f1, .ref h, .ref hp, .ref hs])), (f0, .inr (1, [.ref a0, .int (nI n0)])), (a0, .inl (cI, 255, .inl (nf v0))), (f1, .inr (1, [.ref a1, .int (nI n1)])), (a1, .inl (cI, 255, .inl (nf v1))), (h, .inr (2, [.ref a])), (a, .inl (cI, 11, .inl (nf (ttN v1 n1 t b)))), (hp, .inr (3, [.ref ap])), (ap, .inl (cI, 32, .inl (nf (wpB v1 n1 (suN (stN B (enN (ttN v1 n1 t b)) ((q + pnN n1) * 32) 32) ((q + pnN n1) * 32) 11) pb (pnN n1))))), (hs, .inr (4, [.ref as])), (as, .inl (cI, 1024, .inl (nf (wsB v1 n1 (suN (stN B (enN (ttN v1 n1 t b)) ((q + pnN n1) * 32) 32) ((q + pnN n1) * 32) 11) (q + pnN n1) pb (stN B (enN (ttN v1 n1 t b)) ((q + pnN n1) * 32) 32) (pnN n1)))))] H := hP.sub [2, 0, 1, 9, 10, 3, 4, 5, 6, 7, 8] rfl
                  have hD : va_D A [(x, .inr (0, [.ref f0, .ref f1, .ref h, .ref hp, .ref hs])), (f0, .inr (1, [.ref a0, .int (nI n0)])), (a0, .inl (cI, 255, .inl (nf v0))), (f1, .inr (1, [.ref a1, .int (nI n1)])), (a1, .inl (cI, 255, .inl (nf v1))), (h, .inr (2, [.ref a])), (a, .inl (cI, 11, .inl (nf (ttN v1 n1 t b)))), (hp, .inr (3, [.ref ap])), (ap, .inl (cI, 32, .inl (nf (wpB v1 n1 (suN (stN B (enN (ttN v1 n1 t b)) ((q + pnN n1) * 32) 32) ((q + pnN n1) * 32) 11) pb (pnN n1))))), (hs, .inr (4, [.ref as])), (as, .inl (cI, 1024, .inl (nf (wsB v1 n1 (suN (stN B (enN (ttN v1 n1 t b)) ((q + pnN n1) * 32) 32) ((q + pnN n1) * 32) 11) (q + pnN n1) pb (stN B (enN (ttN v1 n1 t b)) ((q + pnN n1) * 32) 32) (pnN n1)))))] := hD.sub [2, 0, 1, 9, 10, 3, 4, 5, 6, 7, 8] (by decide) rfl
                  refine lv_iload hx hb d_LN_write_153 (lv_at hl 0 rfl) ?_
                  refine lv_iconst (v := nI 1) hx hb d_LN_write_155 (by decide) ?_
                  refine lv_iadd hx hb d_LN_write_156 ?_
                  refine mk_ti (y := nI (pnN n1 + 1)) (nI_add (pnN n1) 1) ?_
                  exact hret _ _ _ _ d_LN_write_157 hP hD hS
                · skip
                  rw [mk_ceq (by omega)] at c_9
                  first | omega | contradiction
              · skip
                rw [mk_ceq (by omega)] at c_8
                first | omega | contradiction
          · skip
            rw [mk_ceq (by omega)] at c_5
            first | omega | contradiction
        · skip
          rw [mk_ceq (by omega)] at c_4
          first | omega | contradiction
      · skip
        rw [nI_leI (by omega) (by omega)] at c_3
        first | omega | contradiction
  · skip
    have c_1 := bI_0 c_1
    rw [h1] at c_1; exact absurd c_1 (by decide)

set_option maxHeartbeats 4000000 in
set_option maxRecDepth 100000 in
theorem c_LN_readE1 (l : Launch) (dC : Nat → ClassId) (dI : Nat → Nat → Nat) (cI : ClassId) (x f0 a0 n0 : Nat) (v0 : Nat → Nat) (f1 a1 n1 : Nat) (v1 : Nat → Nat) (h a : Nat) (b : Nat → Nat) (hp ap : Nat) (pb : Nat → Nat) (hs as : Nat) (B : Nat → Nat) (q : Nat) (hn0 : n0 ≤ 255) (hv0 : ∀ j, v0 j < 65536) (hn1 : n1 ≤ 255) (hv1 : ∀ j, v1 j < 65536) (hb9 : ∀ j, b j < 65536) (hpb : ∀ j, pb j < 65536) (hB : ∀ j, B j < 256) (h1 : valN (cpN b B (q * 32) 11) = true) (hq : q < 32) : mM l y_LN_read w_LN_read ({ frames := 4, cells := 0, slots := 0, locals := 86 } : Room) [.ref x, .int (nI 1), .int (nI q), .int (nI 0)] (dC, dI) vwCl [(cI, .int)] [(x, .inr (0, [.ref f0, .ref f1, .ref h, .ref hp, .ref hs])), (f0, .inr (1, [.ref a0, .int (nI n0)])), (a0, .inl (cI, 255, .inl (nf v0))), (f1, .inr (1, [.ref a1, .int (nI n1)])), (a1, .inl (cI, 255, .inl (nf v1))), (h, .inr (2, [.ref a])), (a, .inl (cI, 11, .inl (nf b))), (hp, .inr (3, [.ref ap])), (ap, .inl (cI, 32, .inl (nf pb))), (hs, .inr (4, [.ref as])), (as, .inl (cI, 1024, .inl (nf B)))] (some (.int (nI (siC (cpN b B (q * 32) 11))))) [(x, .inr (0, [.ref f0, .ref f1, .ref h, .ref hp, .ref hs])), (f0, .inr (1, [.ref a0, .int (nI n0)])), (a0, .inl (cI, 255, .inl (nf v0))), (f1, .inr (1, [.ref a1, .int (nI (siC (cpN b B (q * 32) 11)))])), (a1, .inl (cI, 255, .inl (nf (siV v1 (cpN b B (q * 32) 11))))), (h, .inr (2, [.ref a])), (a, .inl (cI, 11, .inl (nf (cpN b B (q * 32) 11)))), (hp, .inr (3, [.ref ap])), (ap, .inl (cI, 32, .inl (nf pb))), (hs, .inr (4, [.ref as])), (as, .inl (cI, 1024, .inl (nf B)))] := by
  have htb : ∀ j, (cpN b B (q * 32) 11) j < 65536 := cpN_lt hb9 hB
  refine mk_Mi (cc := b_LN_read) (maxL := 5) (by decide) rfl (Nat.le_of_ble_eq_true rfl) rfl ?_
  intro p e s m below meth c Q A ls S hP hK hT hS hl hD hA hret
  obtain ⟨hx, hb, hml, hown, hts⟩ := id S
  have hl : lv_has ls 5 [(0, .ref x), (1, .int (nI 1)), (2, .int (nI q)), (3, .int (nI 0))] := hl
  refine lv_aload_n hx hb d_LN_read_0 rfl (lv_at hl 0 rfl) ?_
  refine lv_iload_n hx hb d_LN_read_1 rfl (lv_at hl 1 rfl) ?_
  refine mk_r1 (W.runV (As := [.int (nI 1)]) (rest := []) S (c_LN_row1 l dC dI cI x f0 f1 h hp hs) (gV 1 hts k_111 k_113 k_0 k_24 k_114 (by decide +kernel) ⟨Nat.le_of_ble_eq_true rfl, Nat.le_of_ble_eq_true rfl⟩) (mk_vR hP hK hT hS [0] rfl (q0 := 0) (ci := 0) rfl rfl) rfl rfl hl.1 rfl (lv_room (Nat.le_of_ble_eq_true rfl)) d_LN_read_2 ⟨Nat.zero_le _, Nat.zero_le _⟩) ?_
  refine lv_astore (lv' := [(4, .ref f1), (0, .ref x), (1, .int (nI 1)), (2, .int (nI q)), (3, .int (nI 0))]) hx hb d_LN_read_5 hl (by decide) rfl (fun ls hl => ?_)
  refine lv_aload hx hb d_LN_read_7 (lv_at hl 0 rfl) ?_
  refine lv_ifnonnull (tgt := 22) hx hb d_LN_read_9 (by decide) ?_
  refine lv_aload hx hb d_LN_read_22 (lv_at hl 0 rfl) ?_
  refine mk_w0 (wr := [(x, .inr (0, [.ref f0, .ref f1, .ref h, .ref hp, .ref hs])), (f0, .inr (1, [.ref a0, .int (nI n0)])), (a0, .inl (cI, 255, .inl (nf v0))), (h, .inr (2, [.ref a])), (a, .inl (cI, 11, .inl (nf b))), (hp, .inr (3, [.ref ap])), (ap, .inl (cI, 32, .inl (nf pb))), (hs, .inr (4, [.ref as])), (as, .inl (cI, 1024, .inl (nf B)))]) (W.runV (As := []) (rest := []) S ((c_Ro_empty l dC dI cI f1 a1 n1 v1) _) (gV 0 hts k_128 k_129 k_130 k_25 k_131 (by decide +kernel) ⟨Nat.le_of_ble_eq_true rfl, Nat.le_of_ble_eq_true rfl⟩) (mk_vM hP hD hK hT hS hA [3, 4] rfl rfl (by decide) (q0 := 3) (ci := 1) rfl rfl) rfl rfl hl.1 rfl (lv_room (Nat.le_of_ble_eq_true rfl)) d_LN_read_24 ⟨Nat.zero_le _, Nat.zero_le _⟩) hP hD hS hA [3, 4] [0, 1, 2, 5, 6, 7, 8, 9, 10] rfl rfl (by decide) (by decide) (fun H locs hP hD hS => ?_)
  have hP : va_P (dC, dI) vwCl [(x, .inr (0, [.ref f0, .ref f1, .ref h, .ref hp, .ref hs])), (f0, .inr (1, [.ref a0, .int (nI n0)])), (a0, .inl (cI, 255, .inl (nf v0))), (f1, .inr (1, [.ref a1, .int (nI 0)])), (a1, .inl (cI, 255, .inl (nf v1))), (h, .inr (2, [.ref a])), (a, .inl (cI, 11, .inl (nf b))), (hp, .inr (3, [.ref ap])), (ap, .inl (cI, 32, .inl (nf pb))), (hs, .inr (4, [.ref as])), (as, .inl (cI, 1024, .inl (nf B)))] H := hP.sub [0, 1, 2, 9, 10, 3, 4, 5, 6, 7, 8] rfl
  have hD : va_D A [(x, .inr (0, [.ref f0, .ref f1, .ref h, .ref hp, .ref hs])), (f0, .inr (1, [.ref a0, .int (nI n0)])), (a0, .inl (cI, 255, .inl (nf v0))), (f1, .inr (1, [.ref a1, .int (nI 0)])), (a1, .inl (cI, 255, .inl (nf v1))), (h, .inr (2, [.ref a])), (a, .inl (cI, 11, .inl (nf b))), (hp, .inr (3, [.ref ap])), (ap, .inl (cI, 32, .inl (nf pb))), (hs, .inr (4, [.ref as])), (as, .inl (cI, 1024, .inl (nf B)))] := hD.sub [0, 1, 2, 9, 10, 3, 4, 5, 6, 7, 8] (by decide) rfl
  refine lv_iload_n hx hb d_LN_read_27 rfl (lv_at hl 4 rfl) ?_
  refine lv_if_lt (tgt := 37) hx hb d_LN_read_28 (by decide) (fun c_1 => ?_) (fun c_1 => ?_)
  · skip
    rw [mk_clt (by omega)] at c_1
    first | omega | contradiction
  · skip
    rw [mk_clt (by omega)] at c_1
    refine lv_iload_n hx hb d_LN_read_31 rfl (lv_at hl 4 rfl) ?_
    refine lv_bipush (v := nI 20) hx hb d_LN_read_32 (by decide) ?_
    refine lv_icmp_le (tgt := 47) hx hb d_LN_read_34 (by decide) (fun c_2 => ?_) (fun c_2 => ?_)
    · skip
      rw [nI_leI (by omega) (by omega)] at c_2
      refine lv_iload_n hx hb d_LN_read_47 rfl (lv_at hl 3 rfl) ?_
      refine mk_r1 (W.runS (As := [.int (nI q)]) (rest := []) S (c_Sl_isN l dC dI cI q (by first | assumption | omega)) (gS 1 hts k_221 k_207 k_28 k_208 (by decide +kernel) ⟨Nat.le_of_ble_eq_true rfl, Nat.le_of_ble_eq_true rfl⟩) (mk_sR hP hK hT hS [] rfl) rfl rfl hl.1 rfl (lv_room (Nat.le_of_ble_eq_true rfl)) d_LN_read_48 ⟨Nat.zero_le _, Nat.zero_le _⟩) ?_
      refine lv_if_eq (tgt := 59) hx hb d_LN_read_51 (by decide) (fun c_3 => ?_) (fun c_3 => ?_)
      · skip
        rw [mk_ceq (by omega)] at c_3
        first | omega | contradiction
      · skip
        rw [mk_ceq (by omega)] at c_3
        refine lv_iload_n hx hb d_LN_read_54 rfl (lv_at hl 4 rfl) ?_
        refine lv_iload_n hx hb d_LN_read_55 rfl (lv_at hl 3 rfl) ?_
        refine lv_icmp_le (tgt := 69) hx hb d_LN_read_56 (by decide) (fun c_4 => ?_) (fun c_4 => ?_)
        · skip
          rw [nI_leI (by omega) (by omega)] at c_4
          refine lv_aload_n hx hb d_LN_read_69 rfl (lv_at hl 1 rfl) ?_
          refine va_get (D := (dC, dI)) (ci := 0) (v := .ref h) (C := "LongNames") (T := F_LN) (N := 5) hx hb hts (iw_LN _) hown hK hP 0 rfl rfl 2 (by decide) (hts _ (List.mem_cons_of_mem _ k_93)) (fun _ h9 => h9) rfl d_LN_read_70 ?_
          refine lv_aload_n hx hb d_LN_read_73 rfl (lv_at hl 1 rfl) ?_
          refine va_get (D := (dC, dI)) (ci := 0) (v := .ref hs) (C := "LongNames") (T := F_LN) (N := 5) hx hb hts (iw_LN _) hown hK hP 0 rfl rfl 4 (by decide) (hts _ (List.mem_cons_of_mem _ k_95)) (fun _ h9 => h9) rfl d_LN_read_74 ?_
          refine lv_iload_n hx hb d_LN_read_77 rfl (lv_at hl 3 rfl) ?_
          refine mk_w0 (wr := [(x, .inr (0, [.ref f0, .ref f1, .ref h, .ref hp, .ref hs])), (f0, .inr (1, [.ref a0, .int (nI n0)])), (a0, .inl (cI, 255, .inl (nf v0))), (f1, .inr (1, [.ref a1, .int (nI 0)])), (a1, .inl (cI, 255, .inl (nf v1))), (hp, .inr (3, [.ref ap])), (ap, .inl (cI, 32, .inl (nf pb)))]) (W.runV (As := [.ref hs, .int (nI q)]) (rest := []) S ((c_Sn_take l dC dI cI h a b hs as B q (by first | assumption | omega) (by first | assumption | omega)) _) (gV 2 hts k_460 k_461 k_462 k_26 k_463 (by decide +kernel) ⟨Nat.le_of_ble_eq_true rfl, Nat.le_of_ble_eq_true rfl⟩) (mk_vM hP hD hK hT hS hA [5, 6, 9, 10] rfl rfl (by decide) (q0 := 5) (ci := 2) rfl rfl) rfl rfl hl.1 rfl (lv_room (Nat.le_of_ble_eq_true rfl)) d_LN_read_78 ⟨Nat.zero_le _, Nat.zero_le _⟩) hP hD hS hA [5, 6, 9, 10] [0, 1, 2, 3, 4, 7, 8] rfl rfl (by decide) (by decide) (fun H locs hP hD hS => ?_)
          have hP : va_P (dC, dI) vwCl [(x, .inr (0, [.ref f0, .ref f1, .ref h, .ref hp, .ref hs])), (f0, .inr (1, [.ref a0, .int (nI n0)])), (a0, .inl (cI, 255, .inl (nf v0))), (f1, .inr (1, [.ref a1, .int (nI 0)])), (a1, .inl (cI, 255, .inl (nf v1))), (h, .inr (2, [.ref a])), (a, .inl (cI, 11, .inl (nf (cpN b B (q * 32) 11)))), (hp, .inr (3, [.ref ap])), (ap, .inl (cI, 32, .inl (nf pb))), (hs, .inr (4, [.ref as])), (as, .inl (cI, 1024, .inl (nf B)))] H := hP.sub [0, 1, 2, 3, 4, 7, 8, 5, 6, 9, 10] rfl
          have hD : va_D A [(x, .inr (0, [.ref f0, .ref f1, .ref h, .ref hp, .ref hs])), (f0, .inr (1, [.ref a0, .int (nI n0)])), (a0, .inl (cI, 255, .inl (nf v0))), (f1, .inr (1, [.ref a1, .int (nI 0)])), (a1, .inl (cI, 255, .inl (nf v1))), (h, .inr (2, [.ref a])), (a, .inl (cI, 11, .inl (nf (cpN b B (q * 32) 11)))), (hp, .inr (3, [.ref ap])), (ap, .inl (cI, 32, .inl (nf pb))), (hs, .inr (4, [.ref as])), (as, .inl (cI, 1024, .inl (nf B)))] := hD.sub [0, 1, 2, 3, 4, 7, 8, 5, 6, 9, 10] (by decide) rfl
          refine lv_aload_n hx hb d_LN_read_81 rfl (lv_at hl 1 rfl) ?_
          refine va_get (D := (dC, dI)) (ci := 0) (v := .ref h) (C := "LongNames") (T := F_LN) (N := 5) hx hb hts (iw_LN _) hown hK hP 0 rfl rfl 2 (by decide) (hts _ (List.mem_cons_of_mem _ k_93)) (fun _ h9 => h9) rfl d_LN_read_82 ?_
          refine mk_r1 (W.runV (As := []) (rest := []) S (c_Sn_valid l dC dI cI h a (cpN b B (q * 32) 11) (by first | assumption | omega)) (gV 0 hts k_465 k_466 k_467 k_26 k_468 (by decide +kernel) ⟨Nat.le_of_ble_eq_true rfl, Nat.le_of_ble_eq_true rfl⟩) (mk_vR hP hK hT hS [5, 6] rfl (q0 := 5) (ci := 2) rfl rfl) rfl rfl hl.1 rfl (lv_room (Nat.le_of_ble_eq_true rfl)) d_LN_read_85 ⟨Nat.zero_le _, Nat.zero_le _⟩) ?_
          refine lv_if_ne (tgt := 101) hx hb d_LN_read_88 (by decide) (fun c_5 => ?_) (fun c_5 => ?_)
          · skip
            have c_5 := bI_1 c_5
            refine lv_iload_n hx hb d_LN_read_101 rfl (lv_at hl 4 rfl) ?_
            refine lv_if_ne (tgt := 117) hx hb d_LN_read_102 (by decide) (fun c_6 => ?_) (fun c_6 => ?_)
            · skip
              rw [mk_ceq (by omega)] at c_6
              first | omega | contradiction
            · skip
              rw [mk_ceq (by omega)] at c_6
              refine lv_aload_n hx hb d_LN_read_105 rfl (lv_at hl 1 rfl) ?_
              refine va_get (D := (dC, dI)) (ci := 0) (v := .ref h) (C := "LongNames") (T := F_LN) (N := 5) hx hb hts (iw_LN _) hown hK hP 0 rfl rfl 2 (by decide) (hts _ (List.mem_cons_of_mem _ k_93)) (fun _ h9 => h9) rfl d_LN_read_106 ?_
              refine lv_aload hx hb d_LN_read_109 (lv_at hl 0 rfl) ?_
              refine mk_w0 (wr := [(x, .inr (0, [.ref f0, .ref f1, .ref h, .ref hp, .ref hs])), (f0, .inr (1, [.ref a0, .int (nI n0)])), (a0, .inl (cI, 255, .inl (nf v0))), (hp, .inr (3, [.ref ap])), (ap, .inl (cI, 32, .inl (nf pb))), (hs, .inr (4, [.ref as])), (as, .inl (cI, 1024, .inl (nf B)))]) (W.runV (As := [.ref f1]) (rest := []) S ((c_Sn_show l dC dI cI h a (cpN b B (q * 32) 11) f1 a1 v1 (by first | assumption | omega)) _) (gV 1 hts k_490 k_491 k_492 k_26 k_493 (by decide +kernel) ⟨Nat.le_of_ble_eq_true rfl, Nat.le_of_ble_eq_true rfl⟩) (mk_vM hP hD hK hT hS hA [5, 6, 3, 4] rfl rfl (by decide) (q0 := 5) (ci := 2) rfl rfl) rfl rfl hl.1 rfl (lv_room (Nat.le_of_ble_eq_true rfl)) d_LN_read_111 ⟨Nat.zero_le _, Nat.zero_le _⟩) hP hD hS hA [5, 6, 3, 4] [0, 1, 2, 7, 8, 9, 10] rfl rfl (by decide) (by decide) (fun H locs hP hD hS => ?_)
              have hP : va_P (dC, dI) vwCl [(x, .inr (0, [.ref f0, .ref f1, .ref h, .ref hp, .ref hs])), (f0, .inr (1, [.ref a0, .int (nI n0)])), (a0, .inl (cI, 255, .inl (nf v0))), (f1, .inr (1, [.ref a1, .int (nI (siC (cpN b B (q * 32) 11)))])), (a1, .inl (cI, 255, .inl (nf (siV v1 (cpN b B (q * 32) 11))))), (h, .inr (2, [.ref a])), (a, .inl (cI, 11, .inl (nf (cpN b B (q * 32) 11)))), (hp, .inr (3, [.ref ap])), (ap, .inl (cI, 32, .inl (nf pb))), (hs, .inr (4, [.ref as])), (as, .inl (cI, 1024, .inl (nf B)))] H := hP.sub [0, 1, 2, 9, 10, 7, 8, 3, 4, 5, 6] rfl
              have hD : va_D A [(x, .inr (0, [.ref f0, .ref f1, .ref h, .ref hp, .ref hs])), (f0, .inr (1, [.ref a0, .int (nI n0)])), (a0, .inl (cI, 255, .inl (nf v0))), (f1, .inr (1, [.ref a1, .int (nI (siC (cpN b B (q * 32) 11)))])), (a1, .inl (cI, 255, .inl (nf (siV v1 (cpN b B (q * 32) 11))))), (h, .inr (2, [.ref a])), (a, .inl (cI, 11, .inl (nf (cpN b B (q * 32) 11)))), (hp, .inr (3, [.ref ap])), (ap, .inl (cI, 32, .inl (nf pb))), (hs, .inr (4, [.ref as])), (as, .inl (cI, 1024, .inl (nf B)))] := hD.sub [0, 1, 2, 9, 10, 7, 8, 3, 4, 5, 6] (by decide) rfl
              refine lv_goto (tgt := 143) hx hb d_LN_read_114 (by decide) ?_
              refine lv_aload hx hb d_LN_read_143 (lv_at hl 0 rfl) ?_
              refine mk_r1 (W.runV (As := []) (rest := []) S (c_Ro_size l dC dI cI f1 a1 (siC (cpN b B (q * 32) 11)) (siV v1 (cpN b B (q * 32) 11))) (gV 0 hts k_124 k_125 k_126 k_25 k_127 (by decide +kernel) ⟨Nat.le_of_ble_eq_true rfl, Nat.le_of_ble_eq_true rfl⟩) (mk_vR hP hK hT hS [3, 4] rfl (q0 := 3) (ci := 1) rfl rfl) rfl rfl hl.1 rfl (lv_room (Nat.le_of_ble_eq_true rfl)) d_LN_read_145 ⟨Nat.zero_le _, Nat.zero_le _⟩) ?_
              exact hret _ _ _ _ d_LN_read_148 hP hD hS
          · skip
            have c_5 := bI_0 c_5
            rw [h1] at c_5; exact absurd c_5 (by decide)
        · skip
          rw [nI_leI (by omega) (by omega)] at c_4
          first | omega | contradiction
    · skip
      rw [nI_leI (by omega) (by omega)] at c_2
      first | omega | contradiction

set_option maxHeartbeats 4000000 in
set_option maxRecDepth 100000 in
theorem c_LN_readP1 (l : Launch) (dC : Nat → ClassId) (dI : Nat → Nat → Nat) (cI : ClassId) (x f0 a0 n0 : Nat) (v0 : Nat → Nat) (f1 a1 n1 : Nat) (v1 : Nat → Nat) (h a : Nat) (b : Nat → Nat) (hp ap : Nat) (pb : Nat → Nat) (hs as : Nat) (B : Nat → Nat) (q p9 : Nat) (hn0 : n0 ≤ 255) (hv0 : ∀ j, v0 j < 65536) (hn1 : n1 ≤ 255) (hv1 : ∀ j, v1 j < 65536) (hb9 : ∀ j, b j < 65536) (hpb : ∀ j, pb j < 65536) (hB : ∀ j, B j < 256) (h1 : valN (cpN b B (q * 32) 11) = true) (hq : q < 32) (hp7 : 1 ≤ p9 ∧ p9 ≤ 20 ∧ p9 ≤ q) (h3 : nameN (coV v1 (unN B q) (coC (unN B q) (13 * p9) 0)) (coC (unN B q) (13 * p9) 0) = true) (h4 : pnN (coC (unN B q) (13 * p9) 0) = p9) (h5 : rpR (coV v1 (unN B q) (coC (unN B q) (13 * p9) 0)) (coC (unN B q) (13 * p9) 0) (suN B (q * 32) 11) q pb B p9 0 = true) : mM l y_LN_read w_LN_read ({ frames := 6, cells := 0, slots := 0, locals := 137 } : Room) [.ref x, .int (nI 1), .int (nI q), .int (nI p9)] (dC, dI) vwCl [(cI, .int)] [(x, .inr (0, [.ref f0, .ref f1, .ref h, .ref hp, .ref hs])), (f0, .inr (1, [.ref a0, .int (nI n0)])), (a0, .inl (cI, 255, .inl (nf v0))), (f1, .inr (1, [.ref a1, .int (nI n1)])), (a1, .inl (cI, 255, .inl (nf v1))), (h, .inr (2, [.ref a])), (a, .inl (cI, 11, .inl (nf b))), (hp, .inr (3, [.ref ap])), (ap, .inl (cI, 32, .inl (nf pb))), (hs, .inr (4, [.ref as])), (as, .inl (cI, 1024, .inl (nf B)))] (some (.int (nI (coC (unN B q) (13 * p9) 0)))) [(x, .inr (0, [.ref f0, .ref f1, .ref h, .ref hp, .ref hs])), (f0, .inr (1, [.ref a0, .int (nI n0)])), (a0, .inl (cI, 255, .inl (nf v0))), (f1, .inr (1, [.ref a1, .int (nI (coC (unN B q) (13 * p9) 0))])), (a1, .inl (cI, 255, .inl (nf (coV v1 (unN B q) (coC (unN B q) (13 * p9) 0))))), (h, .inr (2, [.ref a])), (a, .inl (cI, 11, .inl (nf (cpN b B (q * 32) 11)))), (hp, .inr (3, [.ref ap])), (ap, .inl (cI, 32, .inl (nf (wpB (coV v1 (unN B q) (coC (unN B q) (13 * p9) 0)) (coC (unN B q) (13 * p9) 0) (suN B (q * 32) 11) pb (rpK (coV v1 (unN B q) (coC (unN B q) (13 * p9) 0)) (coC (unN B q) (13 * p9) 0) (suN B (q * 32) 11) q pb B p9 0))))), (hs, .inr (4, [.ref as])), (as, .inl (cI, 1024, .inl (nf B)))] := by
  have htb : ∀ j, (cpN b B (q * 32) 11) j < 65536 := cpN_lt hb9 hB
  refine mk_Mi (cc := b_LN_read) (maxL := 5) (by decide) rfl (Nat.le_of_ble_eq_true rfl) rfl ?_
  intro p e s m below meth c Q A ls S hP hK hT hS hl hD hA hret
  obtain ⟨hx, hb, hml, hown, hts⟩ := id S
  have hl : lv_has ls 5 [(0, .ref x), (1, .int (nI 1)), (2, .int (nI q)), (3, .int (nI p9))] := hl
  refine lv_aload_n hx hb d_LN_read_0 rfl (lv_at hl 0 rfl) ?_
  refine lv_iload_n hx hb d_LN_read_1 rfl (lv_at hl 1 rfl) ?_
  refine mk_r1 (W.runV (As := [.int (nI 1)]) (rest := []) S (c_LN_row1 l dC dI cI x f0 f1 h hp hs) (gV 1 hts k_111 k_113 k_0 k_24 k_114 (by decide +kernel) ⟨Nat.le_of_ble_eq_true rfl, Nat.le_of_ble_eq_true rfl⟩) (mk_vR hP hK hT hS [0] rfl (q0 := 0) (ci := 0) rfl rfl) rfl rfl hl.1 rfl (lv_room (Nat.le_of_ble_eq_true rfl)) d_LN_read_2 ⟨Nat.zero_le _, Nat.zero_le _⟩) ?_
  refine lv_astore (lv' := [(4, .ref f1), (0, .ref x), (1, .int (nI 1)), (2, .int (nI q)), (3, .int (nI p9))]) hx hb d_LN_read_5 hl (by decide) rfl (fun ls hl => ?_)
  refine lv_aload hx hb d_LN_read_7 (lv_at hl 0 rfl) ?_
  refine lv_ifnonnull (tgt := 22) hx hb d_LN_read_9 (by decide) ?_
  refine lv_aload hx hb d_LN_read_22 (lv_at hl 0 rfl) ?_
  refine mk_w0 (wr := [(x, .inr (0, [.ref f0, .ref f1, .ref h, .ref hp, .ref hs])), (f0, .inr (1, [.ref a0, .int (nI n0)])), (a0, .inl (cI, 255, .inl (nf v0))), (h, .inr (2, [.ref a])), (a, .inl (cI, 11, .inl (nf b))), (hp, .inr (3, [.ref ap])), (ap, .inl (cI, 32, .inl (nf pb))), (hs, .inr (4, [.ref as])), (as, .inl (cI, 1024, .inl (nf B)))]) (W.runV (As := []) (rest := []) S ((c_Ro_empty l dC dI cI f1 a1 n1 v1) _) (gV 0 hts k_128 k_129 k_130 k_25 k_131 (by decide +kernel) ⟨Nat.le_of_ble_eq_true rfl, Nat.le_of_ble_eq_true rfl⟩) (mk_vM hP hD hK hT hS hA [3, 4] rfl rfl (by decide) (q0 := 3) (ci := 1) rfl rfl) rfl rfl hl.1 rfl (lv_room (Nat.le_of_ble_eq_true rfl)) d_LN_read_24 ⟨Nat.zero_le _, Nat.zero_le _⟩) hP hD hS hA [3, 4] [0, 1, 2, 5, 6, 7, 8, 9, 10] rfl rfl (by decide) (by decide) (fun H locs hP hD hS => ?_)
  have hP : va_P (dC, dI) vwCl [(x, .inr (0, [.ref f0, .ref f1, .ref h, .ref hp, .ref hs])), (f0, .inr (1, [.ref a0, .int (nI n0)])), (a0, .inl (cI, 255, .inl (nf v0))), (f1, .inr (1, [.ref a1, .int (nI 0)])), (a1, .inl (cI, 255, .inl (nf v1))), (h, .inr (2, [.ref a])), (a, .inl (cI, 11, .inl (nf b))), (hp, .inr (3, [.ref ap])), (ap, .inl (cI, 32, .inl (nf pb))), (hs, .inr (4, [.ref as])), (as, .inl (cI, 1024, .inl (nf B)))] H := hP.sub [0, 1, 2, 9, 10, 3, 4, 5, 6, 7, 8] rfl
  have hD : va_D A [(x, .inr (0, [.ref f0, .ref f1, .ref h, .ref hp, .ref hs])), (f0, .inr (1, [.ref a0, .int (nI n0)])), (a0, .inl (cI, 255, .inl (nf v0))), (f1, .inr (1, [.ref a1, .int (nI 0)])), (a1, .inl (cI, 255, .inl (nf v1))), (h, .inr (2, [.ref a])), (a, .inl (cI, 11, .inl (nf b))), (hp, .inr (3, [.ref ap])), (ap, .inl (cI, 32, .inl (nf pb))), (hs, .inr (4, [.ref as])), (as, .inl (cI, 1024, .inl (nf B)))] := hD.sub [0, 1, 2, 9, 10, 3, 4, 5, 6, 7, 8] (by decide) rfl
  refine lv_iload_n hx hb d_LN_read_27 rfl (lv_at hl 4 rfl) ?_
  refine lv_if_lt (tgt := 37) hx hb d_LN_read_28 (by decide) (fun c_1 => ?_) (fun c_1 => ?_)
  · skip
    rw [mk_clt (by omega)] at c_1
    first | omega | contradiction
  · skip
    rw [mk_clt (by omega)] at c_1
    refine lv_iload_n hx hb d_LN_read_31 rfl (lv_at hl 4 rfl) ?_
    refine lv_bipush (v := nI 20) hx hb d_LN_read_32 (by decide) ?_
    refine lv_icmp_le (tgt := 47) hx hb d_LN_read_34 (by decide) (fun c_2 => ?_) (fun c_2 => ?_)
    · skip
      rw [nI_leI (by omega) (by omega)] at c_2
      refine lv_iload_n hx hb d_LN_read_47 rfl (lv_at hl 3 rfl) ?_
      refine mk_r1 (W.runS (As := [.int (nI q)]) (rest := []) S (c_Sl_isN l dC dI cI q (by first | assumption | omega)) (gS 1 hts k_221 k_207 k_28 k_208 (by decide +kernel) ⟨Nat.le_of_ble_eq_true rfl, Nat.le_of_ble_eq_true rfl⟩) (mk_sR hP hK hT hS [] rfl) rfl rfl hl.1 rfl (lv_room (Nat.le_of_ble_eq_true rfl)) d_LN_read_48 ⟨Nat.zero_le _, Nat.zero_le _⟩) ?_
      refine lv_if_eq (tgt := 59) hx hb d_LN_read_51 (by decide) (fun c_3 => ?_) (fun c_3 => ?_)
      · skip
        rw [mk_ceq (by omega)] at c_3
        first | omega | contradiction
      · skip
        rw [mk_ceq (by omega)] at c_3
        refine lv_iload_n hx hb d_LN_read_54 rfl (lv_at hl 4 rfl) ?_
        refine lv_iload_n hx hb d_LN_read_55 rfl (lv_at hl 3 rfl) ?_
        refine lv_icmp_le (tgt := 69) hx hb d_LN_read_56 (by decide) (fun c_4 => ?_) (fun c_4 => ?_)
        · skip
          rw [nI_leI (by omega) (by omega)] at c_4
          refine lv_aload_n hx hb d_LN_read_69 rfl (lv_at hl 1 rfl) ?_
          refine va_get (D := (dC, dI)) (ci := 0) (v := .ref h) (C := "LongNames") (T := F_LN) (N := 5) hx hb hts (iw_LN _) hown hK hP 0 rfl rfl 2 (by decide) (hts _ (List.mem_cons_of_mem _ k_93)) (fun _ h9 => h9) rfl d_LN_read_70 ?_
          refine lv_aload_n hx hb d_LN_read_73 rfl (lv_at hl 1 rfl) ?_
          refine va_get (D := (dC, dI)) (ci := 0) (v := .ref hs) (C := "LongNames") (T := F_LN) (N := 5) hx hb hts (iw_LN _) hown hK hP 0 rfl rfl 4 (by decide) (hts _ (List.mem_cons_of_mem _ k_95)) (fun _ h9 => h9) rfl d_LN_read_74 ?_
          refine lv_iload_n hx hb d_LN_read_77 rfl (lv_at hl 3 rfl) ?_
          refine mk_w0 (wr := [(x, .inr (0, [.ref f0, .ref f1, .ref h, .ref hp, .ref hs])), (f0, .inr (1, [.ref a0, .int (nI n0)])), (a0, .inl (cI, 255, .inl (nf v0))), (f1, .inr (1, [.ref a1, .int (nI 0)])), (a1, .inl (cI, 255, .inl (nf v1))), (hp, .inr (3, [.ref ap])), (ap, .inl (cI, 32, .inl (nf pb)))]) (W.runV (As := [.ref hs, .int (nI q)]) (rest := []) S ((c_Sn_take l dC dI cI h a b hs as B q (by first | assumption | omega) (by first | assumption | omega)) _) (gV 2 hts k_460 k_461 k_462 k_26 k_463 (by decide +kernel) ⟨Nat.le_of_ble_eq_true rfl, Nat.le_of_ble_eq_true rfl⟩) (mk_vM hP hD hK hT hS hA [5, 6, 9, 10] rfl rfl (by decide) (q0 := 5) (ci := 2) rfl rfl) rfl rfl hl.1 rfl (lv_room (Nat.le_of_ble_eq_true rfl)) d_LN_read_78 ⟨Nat.zero_le _, Nat.zero_le _⟩) hP hD hS hA [5, 6, 9, 10] [0, 1, 2, 3, 4, 7, 8] rfl rfl (by decide) (by decide) (fun H locs hP hD hS => ?_)
          have hP : va_P (dC, dI) vwCl [(x, .inr (0, [.ref f0, .ref f1, .ref h, .ref hp, .ref hs])), (f0, .inr (1, [.ref a0, .int (nI n0)])), (a0, .inl (cI, 255, .inl (nf v0))), (f1, .inr (1, [.ref a1, .int (nI 0)])), (a1, .inl (cI, 255, .inl (nf v1))), (h, .inr (2, [.ref a])), (a, .inl (cI, 11, .inl (nf (cpN b B (q * 32) 11)))), (hp, .inr (3, [.ref ap])), (ap, .inl (cI, 32, .inl (nf pb))), (hs, .inr (4, [.ref as])), (as, .inl (cI, 1024, .inl (nf B)))] H := hP.sub [0, 1, 2, 3, 4, 7, 8, 5, 6, 9, 10] rfl
          have hD : va_D A [(x, .inr (0, [.ref f0, .ref f1, .ref h, .ref hp, .ref hs])), (f0, .inr (1, [.ref a0, .int (nI n0)])), (a0, .inl (cI, 255, .inl (nf v0))), (f1, .inr (1, [.ref a1, .int (nI 0)])), (a1, .inl (cI, 255, .inl (nf v1))), (h, .inr (2, [.ref a])), (a, .inl (cI, 11, .inl (nf (cpN b B (q * 32) 11)))), (hp, .inr (3, [.ref ap])), (ap, .inl (cI, 32, .inl (nf pb))), (hs, .inr (4, [.ref as])), (as, .inl (cI, 1024, .inl (nf B)))] := hD.sub [0, 1, 2, 3, 4, 7, 8, 5, 6, 9, 10] (by decide) rfl
          refine lv_aload_n hx hb d_LN_read_81 rfl (lv_at hl 1 rfl) ?_
          refine va_get (D := (dC, dI)) (ci := 0) (v := .ref h) (C := "LongNames") (T := F_LN) (N := 5) hx hb hts (iw_LN _) hown hK hP 0 rfl rfl 2 (by decide) (hts _ (List.mem_cons_of_mem _ k_93)) (fun _ h9 => h9) rfl d_LN_read_82 ?_
          refine mk_r1 (W.runV (As := []) (rest := []) S (c_Sn_valid l dC dI cI h a (cpN b B (q * 32) 11) (by first | assumption | omega)) (gV 0 hts k_465 k_466 k_467 k_26 k_468 (by decide +kernel) ⟨Nat.le_of_ble_eq_true rfl, Nat.le_of_ble_eq_true rfl⟩) (mk_vR hP hK hT hS [5, 6] rfl (q0 := 5) (ci := 2) rfl rfl) rfl rfl hl.1 rfl (lv_room (Nat.le_of_ble_eq_true rfl)) d_LN_read_85 ⟨Nat.zero_le _, Nat.zero_le _⟩) ?_
          refine lv_if_ne (tgt := 101) hx hb d_LN_read_88 (by decide) (fun c_5 => ?_) (fun c_5 => ?_)
          · skip
            have c_5 := bI_1 c_5
            refine lv_iload_n hx hb d_LN_read_101 rfl (lv_at hl 4 rfl) ?_
            refine lv_if_ne (tgt := 117) hx hb d_LN_read_102 (by decide) (fun c_6 => ?_) (fun c_6 => ?_)
            · skip
              rw [mk_ceq (by omega)] at c_6
              refine lv_aload_n hx hb d_LN_read_117 rfl (lv_at hl 1 rfl) ?_
              refine lv_aload hx hb d_LN_read_118 (lv_at hl 0 rfl) ?_
              refine lv_iload_n hx hb d_LN_read_120 rfl (lv_at hl 3 rfl) ?_
              refine lv_iload_n hx hb d_LN_read_121 rfl (lv_at hl 4 rfl) ?_
              refine mk_w1 (wr := [(f0, .inr (1, [.ref a0, .int (nI n0)])), (a0, .inl (cI, 255, .inl (nf v0))), (h, .inr (2, [.ref a])), (a, .inl (cI, 11, .inl (nf (cpN b B (q * 32) 11))))]) (W.runV (As := [.ref f1, .int (nI q), .int (nI p9)]) (rest := []) S ((c_LN_rp3 l dC dI cI x f0 f1 h hp ap pb hs as B f1 a1 v1 q p9 (by first | assumption | omega) (by first | assumption | omega) (by first | assumption | omega) (by first | assumption | omega) (by first | assumption | omega) (by first | assumption | omega) (by first | assumption | omega) (by first | assumption | omega)) _) (gV 3 hts k_499 k_501 k_11 k_24 k_502 (by decide +kernel) ⟨Nat.le_of_ble_eq_true rfl, Nat.le_of_ble_eq_true rfl⟩) (mk_vM hP hD hK hT hS hA [0, 7, 8, 9, 10, 3, 4] rfl rfl (by decide) (q0 := 0) (ci := 0) rfl rfl) rfl rfl hl.1 rfl (lv_room (Nat.le_of_ble_eq_true rfl)) d_LN_read_122 ⟨Nat.zero_le _, Nat.zero_le _⟩) hP hD hS hA [0, 7, 8, 9, 10, 3, 4] [1, 2, 5, 6] rfl rfl (by decide) (by decide) (fun H locs hP hD hS => ?_)
              have hP : va_P (dC, dI) vwCl [(x, .inr (0, [.ref f0, .ref f1, .ref h, .ref hp, .ref hs])), (f0, .inr (1, [.ref a0, .int (nI n0)])), (a0, .inl (cI, 255, .inl (nf v0))), (f1, .inr (1, [.ref a1, .int (nI (coC (unN B q) (13 * p9) 0))])), (a1, .inl (cI, 255, .inl (nf (coV v1 (unN B q) (coC (unN B q) (13 * p9) 0))))), (h, .inr (2, [.ref a])), (a, .inl (cI, 11, .inl (nf (cpN b B (q * 32) 11)))), (hp, .inr (3, [.ref ap])), (ap, .inl (cI, 32, .inl (nf (wpB (coV v1 (unN B q) (coC (unN B q) (13 * p9) 0)) (coC (unN B q) (13 * p9) 0) (suN B (q * 32) 11) pb (rpK (coV v1 (unN B q) (coC (unN B q) (13 * p9) 0)) (coC (unN B q) (13 * p9) 0) (suN B (q * 32) 11) q pb B p9 0))))), (hs, .inr (4, [.ref as])), (as, .inl (cI, 1024, .inl (nf B)))] H := hP.sub [4, 0, 1, 9, 10, 2, 3, 5, 6, 7, 8] rfl
              have hD : va_D A [(x, .inr (0, [.ref f0, .ref f1, .ref h, .ref hp, .ref hs])), (f0, .inr (1, [.ref a0, .int (nI n0)])), (a0, .inl (cI, 255, .inl (nf v0))), (f1, .inr (1, [.ref a1, .int (nI (coC (unN B q) (13 * p9) 0))])), (a1, .inl (cI, 255, .inl (nf (coV v1 (unN B q) (coC (unN B q) (13 * p9) 0))))), (h, .inr (2, [.ref a])), (a, .inl (cI, 11, .inl (nf (cpN b B (q * 32) 11)))), (hp, .inr (3, [.ref ap])), (ap, .inl (cI, 32, .inl (nf (wpB (coV v1 (unN B q) (coC (unN B q) (13 * p9) 0)) (coC (unN B q) (13 * p9) 0) (suN B (q * 32) 11) pb (rpK (coV v1 (unN B q) (coC (unN B q) (13 * p9) 0)) (coC (unN B q) (13 * p9) 0) (suN B (q * 32) 11) q pb B p9 0))))), (hs, .inr (4, [.ref as])), (as, .inl (cI, 1024, .inl (nf B)))] := hD.sub [4, 0, 1, 9, 10, 2, 3, 5, 6, 7, 8] (by decide) rfl
              refine lv_if_ne (tgt := 143) hx hb d_LN_read_125 (by decide) (fun c_7 => ?_) (fun c_7 => ?_)
              · skip
                have c_7 := bI_1 c_7
                refine lv_aload hx hb d_LN_read_143 (lv_at hl 0 rfl) ?_
                refine mk_r1 (W.runV (As := []) (rest := []) S (c_Ro_size l dC dI cI f1 a1 (coC (unN B q) (13 * p9) 0) (coV v1 (unN B q) (coC (unN B q) (13 * p9) 0))) (gV 0 hts k_124 k_125 k_126 k_25 k_127 (by decide +kernel) ⟨Nat.le_of_ble_eq_true rfl, Nat.le_of_ble_eq_true rfl⟩) (mk_vR hP hK hT hS [3, 4] rfl (q0 := 3) (ci := 1) rfl rfl) rfl rfl hl.1 rfl (lv_room (Nat.le_of_ble_eq_true rfl)) d_LN_read_145 ⟨Nat.zero_le _, Nat.zero_le _⟩) ?_
                exact hret _ _ _ _ d_LN_read_148 hP hD hS
              · skip
                have c_7 := bI_0 c_7
                rw [h5] at c_7; exact absurd c_7 (by decide)
            · skip
              rw [mk_ceq (by omega)] at c_6
              first | omega | contradiction
          · skip
            have c_5 := bI_0 c_5
            rw [h1] at c_5; exact absurd c_5 (by decide)
        · skip
          rw [nI_leI (by omega) (by omega)] at c_4
          first | omega | contradiction
    · skip
      rw [nI_leI (by omega) (by omega)] at c_2
      first | omega | contradiction

