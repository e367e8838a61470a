set_option maxHeartbeats 4000000 in
set_option maxRecDepth 100000 in
theorem c_LN_unit0 (l : Launch) (dC : Nat → ClassId) (dI : Nat → Nat → Nat) (cI : ClassId) (x f0 a0 n0 : Nat) (v0 : Nat → Nat) (f1 a1 n1 : Nat) (v1 : Nat → Nat) (h a : Nat) (b : Nat → Nat) (hp ap : Nat) (pb : Nat → Nat) (hs as : Nat) (B : Nat → Nat) (u : Nat) (hn0 : n0 ≤ 255) (hv0 : ∀ j, v0 j < 65536) (hn1 : n1 ≤ 255) (hv1 : ∀ j, v1 j < 65536) (hb9 : ∀ j, b j < 65536) (hpb : ∀ j, pb j < 65536) (hB : ∀ j, B j < 256) (hu : u < 65536) (hf : n0 < 255) : mM l y_LN_unit w_LN_unit ({ frames := 1, cells := 0, slots := 0, locals := 21 } : Room) [.ref x, .int (nI 0), .int (nI u)] (dC, dI) vwCl [(cI, .int)] [(x, .inr (0, [.ref f0, .ref f1, .ref h, .ref hp, .ref hs])), (f0, .inr (1, [.ref a0, .int (nI n0)])), (a0, .inl (cI, 255, .inl (nf v0))), (f1, .inr (1, [.ref a1, .int (nI n1)])), (a1, .inl (cI, 255, .inl (nf v1))), (h, .inr (2, [.ref a])), (a, .inl (cI, 11, .inl (nf b))), (hp, .inr (3, [.ref ap])), (ap, .inl (cI, 32, .inl (nf pb))), (hs, .inr (4, [.ref as])), (as, .inl (cI, 1024, .inl (nf B)))] (some (.int (nI 1))) [(x, .inr (0, [.ref f0, .ref f1, .ref h, .ref hp, .ref hs])), (f0, .inr (1, [.ref a0, .int (nI (n0 + 1))])), (a0, .inl (cI, 255, .inl (nf (uN v0 n0 u)))), (f1, .inr (1, [.ref a1, .int (nI n1)])), (a1, .inl (cI, 255, .inl (nf v1))), (h, .inr (2, [.ref a])), (a, .inl (cI, 11, .inl (nf b))), (hp, .inr (3, [.ref ap])), (ap, .inl (cI, 32, .inl (nf pb))), (hs, .inr (4, [.ref as])), (as, .inl (cI, 1024, .inl (nf B)))] := by
  refine mk_Mi (cc := b_LN_unit) (maxL := 4) (by decide) rfl (Nat.le_of_ble_eq_true rfl) (rfl) ?_
  intro p e s m below meth c Q A ls S hP hK hT hS hl hD hA hret
  obtain ⟨hx, hb, hml, hown, hts⟩ := id S
  have hl : lv_has ls 4 [(0, .ref x), (1, .int (nI 0)), (2, .int (nI u))] := hl
  refine lv_aload_n hx hb d_LN_unit_0 rfl (lv_at hl 0 rfl) ?_
  refine lv_iload_n hx hb d_LN_unit_1 rfl (lv_at hl 1 rfl) ?_
  refine mk_r1 (W.runV (As := [.int (nI 0)]) (rest := []) S (c_LN_row0 l dC dI cI x f0 f1 h hp hs) (gV 1 hts k_111 k_113 k_0 k_24 k_114 (by decide +kernel) ⟨Nat.le_of_ble_eq_true rfl, Nat.le_of_ble_eq_true rfl⟩) (mk_vR hP hK hT hS [0] rfl (q0 := 0) (ci := 0) rfl rfl) rfl rfl hl.1 rfl (lv_room (Nat.le_of_ble_eq_true rfl)) d_LN_unit_2 ⟨Nat.zero_le _, Nat.zero_le _⟩) ?_
  refine lv_astore_n (lv' := [(3, .ref f0), (0, .ref x), (1, .int (nI 0)), (2, .int (nI u))]) hx hb d_LN_unit_5 rfl hl (by decide) rfl (fun ls hl => ?_)
  refine lv_aload_n hx hb d_LN_unit_6 rfl (lv_at hl 0 rfl) ?_
  refine lv_ifnull hx hb d_LN_unit_7 ?_
  refine lv_iload_n hx hb d_LN_unit_10 rfl (lv_at hl 3 rfl) ?_
  refine lv_if_lt (tgt := 20) hx hb d_LN_unit_11 (by decide) (fun c_1 => ?_) (fun c_1 => ?_)
  · skip
    rw [mk_clt (by omega)] at c_1
    first | omega | contradiction
  · skip
    rw [mk_clt (by omega)] at c_1
    refine lv_iload_n hx hb d_LN_unit_14 rfl (lv_at hl 3 rfl) ?_
    refine lv_ldc (v := nI 65535) hx hb hown (hts _ (List.mem_cons_of_mem _ k_115)) d_LN_unit_15 ?_
    refine lv_icmp_le (tgt := 22) hx hb d_LN_unit_17 (by decide) (fun c_2 => ?_) (fun c_2 => ?_)
    · skip
      rw [nI_leI (by omega) (by omega)] at c_2
      refine lv_aload_n hx hb d_LN_unit_22 rfl (lv_at hl 0 rfl) ?_
      refine lv_iload_n hx hb d_LN_unit_23 rfl (lv_at hl 3 rfl) ?_
      refine mk_w1 (wr := [(x, .inr (0, [.ref f0, .ref f1, .ref h, .ref hp, .ref hs])), (f1, .inr (1, [.ref a1, .int (nI n1)])), (a1, .inl (cI, 255, .inl (nf v1))), (h, .inr (2, [.ref a])), (a, .inl (cI, 11, .inl (nf b))), (hp, .inr (3, [.ref ap])), (ap, .inl (cI, 32, .inl (nf pb))), (hs, .inr (4, [.ref as])), (as, .inl (cI, 1024, .inl (nf B)))]) (W.runV (As := [.int (nI u)]) (rest := []) S ((c_Ro_app l dC dI cI f0 a0 n0 v0 u (by first | assumption | omega)) _) (gV 1 hts k_116 k_117 k_118 k_25 k_119 (by decide +kernel) ⟨Nat.le_of_ble_eq_true rfl, Nat.le_of_ble_eq_true rfl⟩) (mk_vM hP hD hK hT hS hA [1, 2] rfl rfl (by decide) (q0 := 1) (ci := 1) rfl rfl) rfl rfl hl.1 rfl (lv_room (Nat.le_of_ble_eq_true rfl)) d_LN_unit_24 ⟨Nat.zero_le _, Nat.zero_le _⟩) hP hD hS hA [1, 2] [0, 3, 4, 5, 6, 7, 8, 9, 10] rfl rfl (by decide) (by decide) (fun H locs hP hD hS => ?_)
      have hP : va_P (dC, dI) vwCl [(x, .inr (0, [.ref f0, .ref f1, .ref h, .ref hp, .ref hs])), (f0, .inr (1, [.ref a0, .int (nI (n0 + 1))])), (a0, .inl (cI, 255, .inl (nf (uN v0 n0 u)))), (f1, .inr (1, [.ref a1, .int (nI n1)])), (a1, .inl (cI, 255, .inl (nf v1))), (h, .inr (2, [.ref a])), (a, .inl (cI, 11, .inl (nf b))), (hp, .inr (3, [.ref ap])), (ap, .inl (cI, 32, .inl (nf pb))), (hs, .inr (4, [.ref as])), (as, .inl (cI, 1024, .inl (nf B)))] H := hP.sub [0, 9, 10, 1, 2, 3, 4, 5, 6, 7, 8] rfl
      have hD : va_D A [(x, .inr (0, [.ref f0, .ref f1, .ref h, .ref hp, .ref hs])), (f0, .inr (1, [.ref a0, .int (nI (n0 + 1))])), (a0, .inl (cI, 255, .inl (nf (uN v0 n0 u)))), (f1, .inr (1, [.ref a1, .int (nI n1)])), (a1, .inl (cI, 255, .inl (nf v1))), (h, .inr (2, [.ref a])), (a, .inl (cI, 11, .inl (nf b))), (hp, .inr (3, [.ref ap])), (ap, .inl (cI, 32, .inl (nf pb))), (hs, .inr (4, [.ref as])), (as, .inl (cI, 1024, .inl (nf B)))] := hD.sub [0, 9, 10, 1, 2, 3, 4, 5, 6, 7, 8] (by decide) rfl
      exact hret _ _ _ _ d_LN_unit_27 hP hD hS
    · skip
      rw [nI_leI (by omega) (by omega)] at c_2
      first | omega | contradiction

set_option maxHeartbeats 4000000 in
set_option maxRecDepth 100000 in
theorem c_LN_unit0f (l : Launch) (dC : Nat → ClassId) (dI : Nat → Nat → Nat) (cI : ClassId) (x f0 a0 n0 : Nat) (v0 : Nat → Nat) (f1 a1 n1 : Nat) (v1 : Nat → Nat) (h a : Nat) (b : Nat → Nat) (hp ap : Nat) (pb : Nat → Nat) (hs as : Nat) (B : Nat → Nat) (u : Nat) (hn0 : n0 ≤ 255) (hv0 : ∀ j, v0 j < 65536) (hn1 : n1 ≤ 255) (hv1 : ∀ j, v1 j < 65536) (hb9 : ∀ j, b j < 65536) (hpb : ∀ j, pb j < 65536) (hB : ∀ j, B j < 256) (hu : u < 65536) (hf : n0 = 255) : mM l y_LN_unit w_LN_unit ({ frames := 1, cells := 0, slots := 0, locals := 21 } : Room) [.ref x, .int (nI 0), .int (nI u)] (dC, dI) vwCl [(cI, .int)] [(x, .inr (0, [.ref f0, .ref f1, .ref h, .ref hp, .ref hs])), (f0, .inr (1, [.ref a0, .int (nI n0)])), (a0, .inl (cI, 255, .inl (nf v0))), (f1, .inr (1, [.ref a1, .int (nI n1)])), (a1, .inl (cI, 255, .inl (nf v1))), (h, .inr (2, [.ref a])), (a, .inl (cI, 11, .inl (nf b))), (hp, .inr (3, [.ref ap])), (ap, .inl (cI, 32, .inl (nf pb))), (hs, .inr (4, [.ref as])), (as, .inl (cI, 1024, .inl (nf B)))] (some (.int (nI 0))) [(x, .inr (0, [.ref f0, .ref f1, .ref h, .ref hp, .ref hs])), (f0, .inr (1, [.ref a0, .int (nI n0)])), (a0, .inl (cI, 255, .inl (nf v0))), (f1, .inr (1, [.ref a1, .int (nI n1)])), (a1, .inl (cI, 255, .inl (nf v1))), (h, .inr (2, [.ref a])), (a, .inl (cI, 11, .inl (nf b))), (hp, .inr (3, [.ref ap])), (ap, .inl (cI, 32, .inl (nf pb))), (hs, .inr (4, [.ref as])), (as, .inl (cI, 1024, .inl (nf B)))] := by
  refine mk_Mi (cc := b_LN_unit) (maxL := 4) (by decide) rfl (Nat.le_of_ble_eq_true rfl) (rfl) ?_
  intro p e s m below meth c Q A ls S hP hK hT hS hl hD hA hret
  obtain ⟨hx, hb, hml, hown, hts⟩ := id S
  have hl : lv_has ls 4 [(0, .ref x), (1, .int (nI 0)), (2, .int (nI u))] := hl
  refine lv_aload_n hx hb d_LN_unit_0 rfl (lv_at hl 0 rfl) ?_
  refine lv_iload_n hx hb d_LN_unit_1 rfl (lv_at hl 1 rfl) ?_
  refine mk_r1 (W.runV (As := [.int (nI 0)]) (rest := []) S (c_LN_row0 l dC dI cI x f0 f1 h hp hs) (gV 1 hts k_111 k_113 k_0 k_24 k_114 (by decide +kernel) ⟨Nat.le_of_ble_eq_true rfl, Nat.le_of_ble_eq_true rfl⟩) (mk_vR hP hK hT hS [0] rfl (q0 := 0) (ci := 0) rfl rfl) rfl rfl hl.1 rfl (lv_room (Nat.le_of_ble_eq_true rfl)) d_LN_unit_2 ⟨Nat.zero_le _, Nat.zero_le _⟩) ?_
  refine lv_astore_n (lv' := [(3, .ref f0), (0, .ref x), (1, .int (nI 0)), (2, .int (nI u))]) hx hb d_LN_unit_5 rfl hl (by decide) rfl (fun ls hl => ?_)
  refine lv_aload_n hx hb d_LN_unit_6 rfl (lv_at hl 0 rfl) ?_
  refine lv_ifnull hx hb d_LN_unit_7 ?_
  refine lv_iload_n hx hb d_LN_unit_10 rfl (lv_at hl 3 rfl) ?_
  refine lv_if_lt (tgt := 20) hx hb d_LN_unit_11 (by decide) (fun c_1 => ?_) (fun c_1 => ?_)
  · skip
    rw [mk_clt (by omega)] at c_1
    first | omega | contradiction
  · skip
    rw [mk_clt (by omega)] at c_1
    refine lv_iload_n hx hb d_LN_unit_14 rfl (lv_at hl 3 rfl) ?_
    refine lv_ldc (v := nI 65535) hx hb hown (hts _ (List.mem_cons_of_mem _ k_115)) d_LN_unit_15 ?_
    refine lv_icmp_le (tgt := 22) hx hb d_LN_unit_17 (by decide) (fun c_2 => ?_) (fun c_2 => ?_)
    · skip
      rw [nI_leI (by omega) (by omega)] at c_2
      refine lv_aload_n hx hb d_LN_unit_22 rfl (lv_at hl 0 rfl) ?_
      refine lv_iload_n hx hb d_LN_unit_23 rfl (lv_at hl 3 rfl) ?_
      refine mk_w1 (wr := [(x, .inr (0, [.ref f0, .ref f1, .ref h, .ref hp, .ref hs])), (f1, .inr (1, [.ref a1, .int (nI n1)])), (a1, .inl (cI, 255, .inl (nf v1))), (h, .inr (2, [.ref a])), (a, .inl (cI, 11, .inl (nf b))), (hp, .inr (3, [.ref ap])), (ap, .inl (cI, 32, .inl (nf pb))), (hs, .inr (4, [.ref as])), (as, .inl (cI, 1024, .inl (nf B)))]) (W.runV (As := [.int (nI u)]) (rest := []) S ((c_Ro_full l dC dI cI f0 a0 n0 v0 (nI u) (by first | assumption | omega)) _) (gV 1 hts k_116 k_117 k_118 k_25 k_119 (by decide +kernel) ⟨Nat.le_of_ble_eq_true rfl, Nat.le_of_ble_eq_true rfl⟩) (mk_vM hP hD hK hT hS hA [1, 2] rfl rfl (by decide) (q0 := 1) (ci := 1) rfl rfl) rfl rfl hl.1 rfl (lv_room (Nat.le_of_ble_eq_true rfl)) d_LN_unit_24 ⟨Nat.zero_le _, Nat.zero_le _⟩) hP hD hS hA [1, 2] [0, 3, 4, 5, 6, 7, 8, 9, 10] rfl rfl (by decide) (by decide) (fun H locs hP hD hS => ?_)
      have hP : va_P (dC, dI) vwCl [(x, .inr (0, [.ref f0, .ref f1, .ref h, .ref hp, .ref hs])), (f0, .inr (1, [.ref a0, .int (nI n0)])), (a0, .inl (cI, 255, .inl (nf v0))), (f1, .inr (1, [.ref a1, .int (nI n1)])), (a1, .inl (cI, 255, .inl (nf v1))), (h, .inr (2, [.ref a])), (a, .inl (cI, 11, .inl (nf b))), (hp, .inr (3, [.ref ap])), (ap, .inl (cI, 32, .inl (nf pb))), (hs, .inr (4, [.ref as])), (as, .inl (cI, 1024, .inl (nf B)))] H := hP.sub [0, 9, 10, 1, 2, 3, 4, 5, 6, 7, 8] rfl
      have hD : va_D A [(x, .inr (0, [.ref f0, .ref f1, .ref h, .ref hp, .ref hs])), (f0, .inr (1, [.ref a0, .int (nI n0)])), (a0, .inl (cI, 255, .inl (nf v0))), (f1, .inr (1, [.ref a1, .int (nI n1)])), (a1, .inl (cI, 255, .inl (nf v1))), (h, .inr (2, [.ref a])), (a, .inl (cI, 11, .inl (nf b))), (hp, .inr (3, [.ref ap])), (ap, .inl (cI, 32, .inl (nf pb))), (hs, .inr (4, [.ref as])), (as, .inl (cI, 1024, .inl (nf B)))] := hD.sub [0, 9, 10, 1, 2, 3, 4, 5, 6, 7, 8] (by decide) rfl
      exact hret _ _ _ _ d_LN_unit_27 hP hD hS
    · skip
      rw [nI_leI (by omega) (by omega)] at c_2
      first | omega | contradiction

set_option maxHeartbeats 4000000 in
set_option maxRecDepth 100000 in
theorem c_LN_unit0b (l : Launch) (dC : Nat → ClassId) (dI : Nat → Nat → Nat) (cI : ClassId) (x f0 a0 n0 : Nat) (v0 : Nat → Nat) (f1 a1 n1 : Nat) (v1 : Nat → Nat) (h a : Nat) (b : Nat → Nat) (hp ap : Nat) (pb : Nat → Nat) (hs as : Nat) (B : Nat → Nat) (u : Int32) (hn0 : n0 ≤ 255) (hv0 : ∀ j, v0 j < 65536) (hn1 : n1 ≤ 255) (hv1 : ∀ j, v1 j < 65536) (hb9 : ∀ j, b j < 65536) (hpb : ∀ j, pb j < 65536) (hB : ∀ j, B j < 256) (hu : u < 0 ∨ ¬ u ≤ nI 65535) : mM l y_LN_unit w_LN_unit ({ frames := 1, cells := 0, slots := 0, locals := 21 } : Room) [.ref x, .int (nI 0), .int u] (dC, dI) vwCl [(cI, .int)] [(x, .inr (0, [.ref f0, .ref f1, .ref h, .ref hp, .ref hs])), (f0, .inr (1, [.ref a0, .int (nI n0)])), (a0, .inl (cI, 255, .inl (nf v0))), (f1, .inr (1, [.ref a1, .int (nI n1)])), (a1, .inl (cI, 255, .inl (nf v1))), (h, .inr (2, [.ref a])), (a, .inl (cI, 11, .inl (nf b))), (hp, .inr (3, [.ref ap])), (ap, .inl (cI, 32, .inl (nf pb))), (hs, .inr (4, [.ref as])), (as, .inl (cI, 1024, .inl (nf B)))] (some (.int (nI 0))) [(x, .inr (0, [.ref f0, .ref f1, .ref h, .ref hp, .ref hs])), (f0, .inr (1, [.ref a0, .int (nI n0)])), (a0, .inl (cI, 255, .inl (nf v0))), (f1, .inr (1, [.ref a1, .int (nI n1)])), (a1, .inl (cI, 255, .inl (nf v1))), (h, .inr (2, [.ref a])), (a, .inl (cI, 11, .inl (nf b))), (hp, .inr (3, [.ref ap])), (ap, .inl (cI, 32, .inl (nf pb))), (hs, .inr (4, [.ref as])), (as, .inl (cI, 1024, .inl (nf B)))] := by
  refine mk_Mi (cc := b_LN_unit) (maxL := 4) (by decide) rfl (Nat.le_of_ble_eq_true rfl) (rfl) ?_
  intro p e s m below meth c Q A ls S hP hK hT hS hl hD hA hret
  obtain ⟨hx, hb, hml, hown, hts⟩ := id S
  have hl : lv_has ls 4 [(0, .ref x), (1, .int (nI 0)), (2, .int u)] := hl
  refine lv_aload_n hx hb d_LN_unit_0 rfl (lv_at hl 0 rfl) ?_
  refine lv_iload_n hx hb d_LN_unit_1 rfl (lv_at hl 1 rfl) ?_
  refine mk_r1 (W.runV (As := [.int (nI 0)]) (rest := []) S (c_LN_row0 l dC dI cI x f0 f1 h hp hs) (gV 1 hts k_111 k_113 k_0 k_24 k_114 (by decide +kernel) ⟨Nat.le_of_ble_eq_true rfl, Nat.le_of_ble_eq_true rfl⟩) (mk_vR hP hK hT hS [0] rfl (q0 := 0) (ci := 0) rfl rfl) rfl rfl hl.1 rfl (lv_room (Nat.le_of_ble_eq_true rfl)) d_LN_unit_2 ⟨Nat.zero_le _, Nat.zero_le _⟩) ?_
  refine lv_astore_n (lv' := [(3, .ref f0), (0, .ref x), (1, .int (nI 0)), (2, .int u)]) hx hb d_LN_unit_5 rfl hl (by decide) rfl (fun ls hl => ?_)
  refine lv_aload_n hx hb d_LN_unit_6 rfl (lv_at hl 0 rfl) ?_
  refine lv_ifnull hx hb d_LN_unit_7 ?_
  refine lv_iload_n hx hb d_LN_unit_10 rfl (lv_at hl 3 rfl) ?_
  refine lv_if_lt (tgt := 20) hx hb d_LN_unit_11 (by decide) (fun c_1 => ?_) (fun c_1 => ?_)
  · skip
    refine lv_iconst (v := nI 0) hx hb d_LN_unit_20 (by decide) ?_
    exact hret _ _ _ _ d_LN_unit_21 hP hD hS
  · skip
    refine lv_iload_n hx hb d_LN_unit_14 rfl (lv_at hl 3 rfl) ?_
    refine lv_ldc (v := nI 65535) hx hb hown (hts _ (List.mem_cons_of_mem _ k_115)) d_LN_unit_15 ?_
    refine lv_icmp_le (tgt := 22) hx hb d_LN_unit_17 (by decide) (fun c_2 => ?_) (fun c_2 => ?_)
    · skip
      rcases hu with h9 | h9 <;> contradiction
    · skip
      refine lv_iconst (v := nI 0) hx hb d_LN_unit_20 (by decide) ?_
      exact hret _ _ _ _ d_LN_unit_21 hP hD hS

set_option maxHeartbeats 4000000 in
set_option maxRecDepth 100000 in
theorem c_LN_clear0 (l : Launch) (dC : Nat → ClassId) (dI : Nat → Nat → Nat) (cI : ClassId) (x f0 a0 n0 : Nat) (v0 : Nat → Nat) (f1 a1 n1 : Nat) (v1 : Nat → Nat) (h a : Nat) (b : Nat → Nat) (hp ap : Nat) (pb : Nat → Nat) (hs as : Nat) (B : Nat → Nat) (hn0 : n0 ≤ 255) (hv0 : ∀ j, v0 j < 65536) (hn1 : n1 ≤ 255) (hv1 : ∀ j, v1 j < 65536) (hb9 : ∀ j, b j < 65536) (hpb : ∀ j, pb j < 65536) (hB : ∀ j, B j < 256)  : mM l y_LN_clear w_LN_clear ({ frames := 1, cells := 0, slots := 0, locals := 21 } : Room) [.ref x, .int (nI 0)] (dC, dI) vwCl [(cI, .int)] [(x, .inr (0, [.ref f0, .ref f1, .ref h, .ref hp, .ref hs])), (f0, .inr (1, [.ref a0, .int (nI n0)])), (a0, .inl (cI, 255, .inl (nf v0))), (f1, .inr (1, [.ref a1, .int (nI n1)])), (a1, .inl (cI, 255, .inl (nf v1))), (h, .inr (2, [.ref a])), (a, .inl (cI, 11, .inl (nf b))), (hp, .inr (3, [.ref ap])), (ap, .inl (cI, 32, .inl (nf pb))), (hs, .inr (4, [.ref as])), (as, .inl (cI, 1024, .inl (nf B)))] (some (.int (nI n0))) [(x, .inr (0, [.ref f0, .ref f1, .ref h, .ref hp, .ref hs])), (f0, .inr (1, [.ref a0, .int (nI 0)])), (a0, .inl (cI, 255, .inl (nf v0))), (f1, .inr (1, [.ref a1, .int (nI n1)])), (a1, .inl (cI, 255, .inl (nf v1))), (h, .inr (2, [.ref a])), (a, .inl (cI, 11, .inl (nf b))), (hp, .inr (3, [.ref ap])), (ap, .inl (cI, 32, .inl (nf pb))), (hs, .inr (4, [.ref as])), (as, .inl (cI, 1024, .inl (nf B)))] := by
  refine mk_Mi (cc := b_LN_clear) (maxL := 4) (by decide) rfl (Nat.le_of_ble_eq_true rfl) rfl ?_
  intro p e s m below meth c Q A ls S hP hK hT hS hl hD hA hret
  obtain ⟨hx, hb, hml, hown, hts⟩ := id S
  have hl : lv_has ls 4 [(0, .ref x), (1, .int (nI 0))] := hl
  refine lv_aload_n hx hb d_LN_clear_0 rfl (lv_at hl 0 rfl) ?_
  refine lv_iload_n hx hb d_LN_clear_1 rfl (lv_at hl 1 rfl) ?_
  refine mk_r1 (W.runV (As := [.int (nI 0)]) (rest := []) S (c_LN_row0 l dC dI cI x f0 f1 h hp hs) (gV 1 hts k_111 k_113 k_0 k_24 k_114 (by decide +kernel) ⟨Nat.le_of_ble_eq_true rfl, Nat.le_of_ble_eq_true rfl⟩) (mk_vR hP hK hT hS [0] rfl (q0 := 0) (ci := 0) rfl rfl) rfl rfl hl.1 rfl (lv_room (Nat.le_of_ble_eq_true rfl)) d_LN_clear_2 ⟨Nat.zero_le _, Nat.zero_le _⟩) ?_
  refine lv_astore_n (lv' := [(2, .ref f0), (0, .ref x), (1, .int (nI 0))]) hx hb d_LN_clear_5 rfl hl (by decide) rfl (fun ls hl => ?_)
  refine lv_aload_n hx hb d_LN_clear_6 rfl (lv_at hl 0 rfl) ?_
  refine lv_ifnonnull (tgt := 12) hx hb d_LN_clear_7 (by decide) ?_
  refine lv_aload_n hx hb d_LN_clear_12 rfl (lv_at hl 0 rfl) ?_
  refine mk_r1 (W.runV (As := []) (rest := []) S (c_Ro_size l dC dI cI f0 a0 n0 v0) (gV 0 hts k_124 k_125 k_126 k_25 k_127 (by decide +kernel) ⟨Nat.le_of_ble_eq_true rfl, Nat.le_of_ble_eq_true rfl⟩) (mk_vR hP hK hT hS [1, 2] rfl (q0 := 1) (ci := 1) rfl rfl) rfl rfl hl.1 rfl (lv_room (Nat.le_of_ble_eq_true rfl)) d_LN_clear_13 ⟨Nat.zero_le _, Nat.zero_le _⟩) ?_
  refine lv_istore_n (lv' := [(3, .int (nI n0)), (2, .ref f0), (0, .ref x), (1, .int (nI 0))]) hx hb d_LN_clear_16 rfl hl (by decide) rfl (fun ls hl => ?_)
  refine lv_aload_n hx hb d_LN_clear_17 rfl (lv_at hl 1 rfl) ?_
  refine mk_w0 (wr := [(x, .inr (0, [.ref f0, .ref f1, .ref h, .ref hp, .ref hs])), (f1, .inr (1, [.ref a1, .int (nI n1)])), (a1, .inl (cI, 255, .inl (nf v1))), (h, .inr (2, [.ref a])), (a, .inl (cI, 11, .inl (nf b))), (hp, .inr (3, [.ref ap])), (ap, .inl (cI, 32, .inl (nf pb))), (hs, .inr (4, [.ref as])), (as, .inl (cI, 1024, .inl (nf B)))]) (W.runV (As := []) (rest := []) S ((c_Ro_empty l dC dI cI f0 a0 n0 v0) _) (gV 0 hts k_128 k_129 k_130 k_25 k_131 (by decide +kernel) ⟨Nat.le_of_ble_eq_true rfl, Nat.le_of_ble_eq_true rfl⟩) (mk_vM hP hD hK hT hS hA [1, 2] rfl rfl (by decide) (q0 := 1) (ci := 1) rfl rfl) rfl rfl hl.1 rfl (lv_room (Nat.le_of_ble_eq_true rfl)) d_LN_clear_18 ⟨Nat.zero_le _, Nat.zero_le _⟩) hP hD hS hA [1, 2] [0, 3, 4, 5, 6, 7, 8, 9, 10] rfl rfl (by decide) (by decide) (fun H locs hP hD hS => ?_)
  have hP : va_P (dC, dI) vwCl [(x, .inr (0, [.ref f0, .ref f1, .ref h, .ref hp, .ref hs])), (f0, .inr (1, [.ref a0, .int (nI 0)])), (a0, .inl (cI, 255, .inl (nf v0))), (f1, .inr (1, [.ref a1, .int (nI n1)])), (a1, .inl (cI, 255, .inl (nf v1))), (h, .inr (2, [.ref a])), (a, .inl (cI, 11, .inl (nf b))), (hp, .inr (3, [.ref ap])), (ap, .inl (cI, 32, .inl (nf pb))), (hs, .inr (4, [.ref as])), (as, .inl (cI, 1024, .inl (nf B)))] H := hP.sub [0, 9, 10, 1, 2, 3, 4, 5, 6, 7, 8] rfl
  have hD : va_D A [(x, .inr (0, [.ref f0, .ref f1, .ref h, .ref hp, .ref hs])), (f0, .inr (1, [.ref a0, .int (nI 0)])), (a0, .inl (cI, 255, .inl (nf v0))), (f1, .inr (1, [.ref a1, .int (nI n1)])), (a1, .inl (cI, 255, .inl (nf v1))), (h, .inr (2, [.ref a])), (a, .inl (cI, 11, .inl (nf b))), (hp, .inr (3, [.ref ap])), (ap, .inl (cI, 32, .inl (nf pb))), (hs, .inr (4, [.ref as])), (as, .inl (cI, 1024, .inl (nf B)))] := hD.sub [0, 9, 10, 1, 2, 3, 4, 5, 6, 7, 8] (by decide) rfl
  refine lv_iload_n hx hb d_LN_clear_21 rfl (lv_at hl 0 rfl) ?_
  exact hret _ _ _ _ d_LN_clear_22 hP hD hS

set_option maxHeartbeats 4000000 in
set_option maxRecDepth 100000 in
theorem c_LN_about00 (l : Launch) (dC : Nat → ClassId) (dI : Nat → Nat → Nat) (cI : ClassId) (x f0 a0 n0 : Nat) (v0 : Nat → Nat) (f1 a1 n1 : Nat) (v1 : Nat → Nat) (h a : Nat) (b : Nat → Nat) (hp ap : Nat) (pb : Nat → Nat) (hs as : Nat) (B : Nat → Nat) (hn0 : n0 ≤ 255) (hv0 : ∀ j, v0 j < 65536) (hn1 : n1 ≤ 255) (hv1 : ∀ j, v1 j < 65536) (hb9 : ∀ j, b j < 65536) (hpb : ∀ j, pb j < 65536) (hB : ∀ j, B j < 256)  : mR l y_LN_about w_LN_about ({ frames := 1, cells := 0, slots := 0, locals := 21 } : Room) [.ref x, .int (nI 0), .int (nI 0)] (dC, dI) vwCl [(cI, .int)] [(x, .inr (0, [.ref f0, .ref f1, .ref h, .ref hp, .ref hs])), (f0, .inr (1, [.ref a0, .int (nI n0)])), (a0, .inl (cI, 255, .inl (nf v0))), (f1, .inr (1, [.ref a1, .int (nI n1)])), (a1, .inl (cI, 255, .inl (nf v1))), (h, .inr (2, [.ref a])), (a, .inl (cI, 11, .inl (nf b))), (hp, .inr (3, [.ref ap])), (ap, .inl (cI, 32, .inl (nf pb))), (hs, .inr (4, [.ref as])), (as, .inl (cI, 1024, .inl (nf B)))] (some (.int (nI n0))) := by
  refine mk_Ri (cc := b_LN_about) (maxL := 4) (by decide) rfl (Nat.le_of_ble_eq_true rfl) rfl ?_
  intro p e s m below meth c Q A ls S hP hK hT hS hl hret
  obtain ⟨hx, hb, hml, hown, hts⟩ := id S
  have hl : lv_has ls 4 [(0, .ref x), (1, .int (nI 0)), (2, .int (nI 0))] := hl
  refine lv_aload_n hx hb d_LN_about_0 rfl (lv_at hl 0 rfl) ?_
  refine lv_iload_n hx hb d_LN_about_1 rfl (lv_at hl 1 rfl) ?_
  refine mk_r1 (W.runV (As := [.int (nI 0)]) (rest := []) S (c_LN_row0 l dC dI cI x f0 f1 h hp hs) (gV 1 hts k_111 k_113 k_0 k_24 k_114 (by decide +kernel) ⟨Nat.le_of_ble_eq_true rfl, Nat.le_of_ble_eq_true rfl⟩) (mk_vR hP hK hT hS [0] rfl (q0 := 0) (ci := 0) rfl rfl) rfl rfl hl.1 rfl (lv_room (Nat.le_of_ble_eq_true rfl)) d_LN_about_2 ⟨Nat.zero_le _, Nat.zero_le _⟩) ?_
  refine lv_astore_n (lv' := [(3, .ref f0), (0, .ref x), (1, .int (nI 0)), (2, .int (nI 0))]) hx hb d_LN_about_5 rfl hl (by decide) rfl (fun ls hl => ?_)
  refine lv_aload_n hx hb d_LN_about_6 rfl (lv_at hl 0 rfl) ?_
  refine lv_ifnonnull (tgt := 12) hx hb d_LN_about_7 (by decide) ?_
  refine lv_iload_n hx hb d_LN_about_12 rfl (lv_at hl 3 rfl) ?_
  refine lv_tableIn (tgt := 48) (off := 35) hx hb d_LN_about_13 (by decide) (by decide) (by rfl) (by decide) ?_
  refine lv_aload_n hx hb d_LN_about_48 rfl (lv_at hl 0 rfl) ?_
  refine mk_r1 (W.runV (As := []) (rest := []) S (c_Ro_size l dC dI cI f0 a0 n0 v0) (gV 0 hts k_124 k_125 k_126 k_25 k_127 (by decide +kernel) ⟨Nat.le_of_ble_eq_true rfl, Nat.le_of_ble_eq_true rfl⟩) (mk_vR hP hK hT hS [1, 2] rfl (q0 := 1) (ci := 1) rfl rfl) rfl rfl hl.1 rfl (lv_room (Nat.le_of_ble_eq_true rfl)) d_LN_about_49 ⟨Nat.zero_le _, Nat.zero_le _⟩) ?_
  exact hret _ _ d_LN_about_52

set_option maxHeartbeats 4000000 in
set_option maxRecDepth 100000 in
theorem c_LN_about01 (l : Launch) (dC : Nat → ClassId) (dI : Nat → Nat → Nat) (cI : ClassId) (x f0 a0 n0 : Nat) (v0 : Nat → Nat) (f1 a1 n1 : Nat) (v1 : Nat → Nat) (h a : Nat) (b : Nat → Nat) (hp ap : Nat) (pb : Nat → Nat) (hs as : Nat) (B : Nat → Nat) (hn0 : n0 ≤ 255) (hv0 : ∀ j, v0 j < 65536) (hn1 : n1 ≤ 255) (hv1 : ∀ j, v1 j < 65536) (hb9 : ∀ j, b j < 65536) (hpb : ∀ j, pb j < 65536) (hB : ∀ j, B j < 256)  : mR l y_LN_about w_LN_about ({ frames := 2, cells := 0, slots := 0, locals := 42 } : Room) [.ref x, .int (nI 0), .int (nI 1)] (dC, dI) vwCl [(cI, .int)] [(x, .inr (0, [.ref f0, .ref f1, .ref h, .ref hp, .ref hs])), (f0, .inr (1, [.ref a0, .int (nI n0)])), (a0, .inl (cI, 255, .inl (nf v0))), (f1, .inr (1, [.ref a1, .int (nI n1)])), (a1, .inl (cI, 255, .inl (nf v1))), (h, .inr (2, [.ref a])), (a, .inl (cI, 11, .inl (nf b))), (hp, .inr (3, [.ref ap])), (ap, .inl (cI, 32, .inl (nf pb))), (hs, .inr (4, [.ref as])), (as, .inl (cI, 1024, .inl (nf B)))] (some (.int (bI (nameN v0 n0)))) := by
  refine mk_Ri (cc := b_LN_about) (maxL := 4) (by decide) rfl (Nat.le_of_ble_eq_true rfl) rfl ?_
  intro p e s m below meth c Q A ls S hP hK hT hS hl hret
  obtain ⟨hx, hb, hml, hown, hts⟩ := id S
  have hl : lv_has ls 4 [(0, .ref x), (1, .int (nI 0)), (2, .int (nI 1))] := hl
  refine lv_aload_n hx hb d_LN_about_0 rfl (lv_at hl 0 rfl) ?_
  refine lv_iload_n hx hb d_LN_about_1 rfl (lv_at hl 1 rfl) ?_
  refine mk_r1 (W.runV (As := [.int (nI 0)]) (rest := []) S (c_LN_row0 l dC dI cI x f0 f1 h hp hs) (gV 1 hts k_111 k_113 k_0 k_24 k_114 (by decide +kernel) ⟨Nat.le_of_ble_eq_true rfl, Nat.le_of_ble_eq_true rfl⟩) (mk_vR hP hK hT hS [0] rfl (q0 := 0) (ci := 0) rfl rfl) rfl rfl hl.1 rfl (lv_room (Nat.le_of_ble_eq_true rfl)) d_LN_about_2 ⟨Nat.zero_le _, Nat.zero_le _⟩) ?_
  refine lv_astore_n (lv' := [(3, .ref f0), (0, .ref x), (1, .int (nI 0)), (2, .int (nI 1))]) hx hb d_LN_about_5 rfl hl (by decide) rfl (fun ls hl => ?_)
  refine lv_aload_n hx hb d_LN_about_6 rfl (lv_at hl 0 rfl) ?_
  refine lv_ifnonnull (tgt := 12) hx hb d_LN_about_7 (by decide) ?_
  refine lv_iload_n hx hb d_LN_about_12 rfl (lv_at hl 3 rfl) ?_
  refine lv_tableIn (tgt := 53) (off := 40) hx hb d_LN_about_13 (by decide) (by decide) (by rfl) (by decide) ?_
  refine lv_aload_n hx hb d_LN_about_53 rfl (lv_at hl 0 rfl) ?_
  refine mk_r1 (W.runV (As := []) (rest := []) S (c_Ro_name l dC dI cI f0 a0 n0 v0 (by first | assumption | omega) (by first | assumption | omega)) (gV 0 hts k_136 k_137 k_138 k_25 k_139 (by decide +kernel) ⟨Nat.le_of_ble_eq_true rfl, Nat.le_of_ble_eq_true rfl⟩) (mk_vR hP hK hT hS [1, 2] rfl (q0 := 1) (ci := 1) rfl rfl) rfl rfl hl.1 rfl (lv_room (Nat.le_of_ble_eq_true rfl)) d_LN_about_54 ⟨Nat.zero_le _, Nat.zero_le _⟩) ?_
  refine lv_if_eq (tgt := 64) hx hb d_LN_about_57 (by decide) (fun c_1 => ?_) (fun c_1 => ?_)
  · skip
    have c_1 := bI_0 c_1
    refine lv_iconst (v := nI 0) hx hb d_LN_about_64 (by decide) ?_
    exact mk_ti (by exact mk_bf (by assumption)) (hret _ _ d_LN_about_65)
  · skip
    have c_1 := bI_1 c_1
    refine lv_iconst (v := nI 1) hx hb d_LN_about_60 (by decide) ?_
    refine lv_goto (tgt := 65) hx hb d_LN_about_61 (by decide) ?_
    exact mk_ti (by exact mk_bt (by assumption)) (hret _ _ d_LN_about_65)

set_option maxHeartbeats 4000000 in
set_option maxRecDepth 100000 in
theorem c_LN_about02 (l : Launch) (dC : Nat → ClassId) (dI : Nat → Nat → Nat) (cI : ClassId) (x f0 a0 n0 : Nat) (v0 : Nat → Nat) (f1 a1 n1 : Nat) (v1 : Nat → Nat) (h a : Nat) (b : Nat → Nat) (hp ap : Nat) (pb : Nat → Nat) (hs as : Nat) (B : Nat → Nat) (hn0 : n0 ≤ 255) (hv0 : ∀ j, v0 j < 65536) (hn1 : n1 ≤ 255) (hv1 : ∀ j, v1 j < 65536) (hb9 : ∀ j, b j < 65536) (hpb : ∀ j, pb j < 65536) (hB : ∀ j, B j < 256)  : mR l y_LN_about w_LN_about ({ frames := 3, cells := 0, slots := 0, locals := 66 } : Room) [.ref x, .int (nI 0), .int (nI 2)] (dC, dI) vwCl [(cI, .int)] [(x, .inr (0, [.ref f0, .ref f1, .ref h, .ref hp, .ref hs])), (f0, .inr (1, [.ref a0, .int (nI n0)])), (a0, .inl (cI, 255, .inl (nf v0))), (f1, .inr (1, [.ref a1, .int (nI n1)])), (a1, .inl (cI, 255, .inl (nf v1))), (h, .inr (2, [.ref a])), (a, .inl (cI, 11, .inl (nf b))), (hp, .inr (3, [.ref ap])), (ap, .inl (cI, 32, .inl (nf pb))), (hs, .inr (4, [.ref as])), (as, .inl (cI, 1024, .inl (nf B)))] (some (.int (bI (shortN v0 n0)))) := by
  refine mk_Ri (cc := b_LN_about) (maxL := 4) (by decide) rfl (Nat.le_of_ble_eq_true rfl) rfl ?_
  intro p e s m below meth c Q A ls S hP hK hT hS hl hret
  obtain ⟨hx, hb, hml, hown, hts⟩ := id S
  have hl : lv_has ls 4 [(0, .ref x), (1, .int (nI 0)), (2, .int (nI 2))] := hl
  refine lv_aload_n hx hb d_LN_about_0 rfl (lv_at hl 0 rfl) ?_
  refine lv_iload_n hx hb d_LN_about_1 rfl (lv_at hl 1 rfl) ?_
  refine mk_r1 (W.runV (As := [.int (nI 0)]) (rest := []) S (c_LN_row0 l dC dI cI x f0 f1 h hp hs) (gV 1 hts k_111 k_113 k_0 k_24 k_114 (by decide +kernel) ⟨Nat.le_of_ble_eq_true rfl, Nat.le_of_ble_eq_true rfl⟩) (mk_vR hP hK hT hS [0] rfl (q0 := 0) (ci := 0) rfl rfl) rfl rfl hl.1 rfl (lv_room (Nat.le_of_ble_eq_true rfl)) d_LN_about_2 ⟨Nat.zero_le _, Nat.zero_le _⟩) ?_
  refine lv_astore_n (lv' := [(3, .ref f0), (0, .ref x), (1, .int (nI 0)), (2, .int (nI 2))]) hx hb d_LN_about_5 rfl hl (by decide) rfl (fun ls hl => ?_)
  refine lv_aload_n hx hb d_LN_about_6 rfl (lv_at hl 0 rfl) ?_
  refine lv_ifnonnull (tgt := 12) hx hb d_LN_about_7 (by decide) ?_
  refine lv_iload_n hx hb d_LN_about_12 rfl (lv_at hl 3 rfl) ?_
  refine lv_tableIn (tgt := 66) (off := 53) hx hb d_LN_about_13 (by decide) (by decide) (by rfl) (by decide) ?_
  refine lv_aload_n hx hb d_LN_about_66 rfl (lv_at hl 0 rfl) ?_
  refine mk_r1 (W.runV (As := []) (rest := []) S (c_Ro_short l dC dI cI f0 a0 n0 v0 (by first | assumption | omega) (by first | assumption | omega)) (gV 0 hts k_150 k_151 k_152 k_25 k_153 (by decide +kernel) ⟨Nat.le_of_ble_eq_true rfl, Nat.le_of_ble_eq_true rfl⟩) (mk_vR hP hK hT hS [1, 2] rfl (q0 := 1) (ci := 1) rfl rfl) rfl rfl hl.1 rfl (lv_room (Nat.le_of_ble_eq_true rfl)) d_LN_about_67 ⟨Nat.zero_le _, Nat.zero_le _⟩) ?_
  refine lv_if_eq (tgt := 77) hx hb d_LN_about_70 (by decide) (fun c_1 => ?_) (fun c_1 => ?_)
  · skip
    have c_1 := bI_0 c_1
    refine lv_iconst (v := nI 0) hx hb d_LN_about_77 (by decide) ?_
    exact mk_ti (by exact mk_bf (by assumption)) (hret _ _ d_LN_about_78)
  · skip
    have c_1 := bI_1 c_1
    refine lv_iconst (v := nI 1) hx hb d_LN_about_73 (by decide) ?_
    refine lv_goto (tgt := 78) hx hb d_LN_about_74 (by decide) ?_
    exact mk_ti (by exact mk_bt (by assumption)) (hret _ _ d_LN_about_78)

set_option maxHeartbeats 4000000 in
set_option maxRecDepth 100000 in
theorem c_LN_about03 (l : Launch) (dC : Nat → ClassId) (dI : Nat → Nat → Nat) (cI : ClassId) (x f0 a0 n0 : Nat) (v0 : Nat → Nat) (f1 a1 n1 : Nat) (v1 : Nat → Nat) (h a : Nat) (b : Nat → Nat) (hp ap : Nat) (pb : Nat → Nat) (hs as : Nat) (B : Nat → Nat) (hn0 : n0 ≤ 255) (hv0 : ∀ j, v0 j < 65536) (hn1 : n1 ≤ 255) (hv1 : ∀ j, v1 j < 65536) (hb9 : ∀ j, b j < 65536) (hpb : ∀ j, pb j < 65536) (hB : ∀ j, B j < 256)  : mR l y_LN_about w_LN_about ({ frames := 1, cells := 0, slots := 0, locals := 21 } : Room) [.ref x, .int (nI 0), .int (nI 3)] (dC, dI) vwCl [(cI, .int)] [(x, .inr (0, [.ref f0, .ref f1, .ref h, .ref hp, .ref hs])), (f0, .inr (1, [.ref a0, .int (nI n0)])), (a0, .inl (cI, 255, .inl (nf v0))), (f1, .inr (1, [.ref a1, .int (nI n1)])), (a1, .inl (cI, 255, .inl (nf v1))), (h, .inr (2, [.ref a])), (a, .inl (cI, 11, .inl (nf b))), (hp, .inr (3, [.ref ap])), (ap, .inl (cI, 32, .inl (nf pb))), (hs, .inr (4, [.ref as])), (as, .inl (cI, 1024, .inl (nf B)))] (some (.int (nI (pnN n0)))) := by
  refine mk_Ri (cc := b_LN_about) (maxL := 4) (by decide) rfl (Nat.le_of_ble_eq_true rfl) rfl ?_
  intro p e s m below meth c Q A ls S hP hK hT hS hl hret
  obtain ⟨hx, hb, hml, hown, hts⟩ := id S
  have hl : lv_has ls 4 [(0, .ref x), (1, .int (nI 0)), (2, .int (nI 3))] := hl
  refine lv_aload_n hx hb d_LN_about_0 rfl (lv_at hl 0 rfl) ?_
  refine lv_iload_n hx hb d_LN_about_1 rfl (lv_at hl 1 rfl) ?_
  refine mk_r1 (W.runV (As := [.int (nI 0)]) (rest := []) S (c_LN_row0 l dC dI cI x f0 f1 h hp hs) (gV 1 hts k_111 k_113 k_0 k_24 k_114 (by decide +kernel) ⟨Nat.le_of_ble_eq_true rfl, Nat.le_of_ble_eq_true rfl⟩) (mk_vR hP hK hT hS [0] rfl (q0 := 0) (ci := 0) rfl rfl) rfl rfl hl.1 rfl (lv_room (Nat.le_of_ble_eq_true rfl)) d_LN_about_2 ⟨Nat.zero_le _, Nat.zero_le _⟩) ?_
  refine lv_astore_n (lv' := [(3, .ref f0), (0, .ref x), (1, .int (nI 0)), (2, .int (nI 3))]) hx hb d_LN_about_5 rfl hl (by decide) rfl (fun ls hl => ?_)
  refine lv_aload_n hx hb d_LN_about_6 rfl (lv_at hl 0 rfl) ?_
  refine lv_ifnonnull (tgt := 12) hx hb d_LN_about_7 (by decide) ?_
  refine lv_iload_n hx hb d_LN_about_12 rfl (lv_at hl 3 rfl) ?_
  refine lv_tableIn (tgt := 79) (off := 66) hx hb d_LN_about_13 (by decide) (by decide) (by rfl) (by decide) ?_
  refine lv_aload_n hx hb d_LN_about_79 rfl (lv_at hl 0 rfl) ?_
  refine mk_r1 (W.runV (As := []) (rest := []) S (c_Ro_parts l dC dI cI f0 a0 n0 v0 (by first | assumption | omega)) (gV 0 hts k_161 k_162 k_163 k_25 k_164 (by decide +kernel) ⟨Nat.le_of_ble_eq_true rfl, Nat.le_of_ble_eq_true rfl⟩) (mk_vR hP hK hT hS [1, 2] rfl (q0 := 1) (ci := 1) rfl rfl) rfl rfl hl.1 rfl (lv_room (Nat.le_of_ble_eq_true rfl)) d_LN_about_80 ⟨Nat.zero_le _, Nat.zero_le _⟩) ?_
  have b_1 := pnN_le (show n0 ≤ 255 by omega)
  exact hret _ _ d_LN_about_83

set_option maxHeartbeats 4000000 in
set_option maxRecDepth 100000 in
theorem c_LN_about04 (l : Launch) (dC : Nat → ClassId) (dI : Nat → Nat → Nat) (cI : ClassId) (x f0 a0 n0 : Nat) (v0 : Nat → Nat) (f1 a1 n1 : Nat) (v1 : Nat → Nat) (h a : Nat) (b : Nat → Nat) (hp ap : Nat) (pb : Nat → Nat) (hs as : Nat) (B : Nat → Nat) (hn0 : n0 ≤ 255) (hv0 : ∀ j, v0 j < 65536) (hn1 : n1 ≤ 255) (hv1 : ∀ j, v1 j < 65536) (hb9 : ∀ j, b j < 65536) (hpb : ∀ j, pb j < 65536) (hB : ∀ j, B j < 256)  : mR l y_LN_about w_LN_about ({ frames := 2, cells := 0, slots := 0, locals := 43 } : Room) [.ref x, .int (nI 0), .int (nI 4)] (dC, dI) vwCl [(cI, .int)] [(x, .inr (0, [.ref f0, .ref f1, .ref h, .ref hp, .ref hs])), (f0, .inr (1, [.ref a0, .int (nI n0)])), (a0, .inl (cI, 255, .inl (nf v0))), (f1, .inr (1, [.ref a1, .int (nI n1)])), (a1, .inl (cI, 255, .inl (nf v1))), (h, .inr (2, [.ref a])), (a, .inl (cI, 11, .inl (nf b))), (hp, .inr (3, [.ref ap])), (ap, .inl (cI, 32, .inl (nf pb))), (hs, .inr (4, [.ref as])), (as, .inl (cI, 1024, .inl (nf B)))] (some (.int (nI (esN v0 n0)))) := by
  refine mk_Ri (cc := b_LN_about) (maxL := 4) (by decide) rfl (Nat.le_of_ble_eq_true rfl) rfl ?_
  intro p e s m below meth c Q A ls S hP hK hT hS hl hret
  obtain ⟨hx, hb, hml, hown, hts⟩ := id S
  have hl : lv_has ls 4 [(0, .ref x), (1, .int (nI 0)), (2, .int (nI 4))] := hl
  refine lv_aload_n hx hb d_LN_about_0 rfl (lv_at hl 0 rfl) ?_
  refine lv_iload_n hx hb d_LN_about_1 rfl (lv_at hl 1 rfl) ?_
  refine mk_r1 (W.runV (As := [.int (nI 0)]) (rest := []) S (c_LN_row0 l dC dI cI x f0 f1 h hp hs) (gV 1 hts k_111 k_113 k_0 k_24 k_114 (by decide +kernel) ⟨Nat.le_of_ble_eq_true rfl, Nat.le_of_ble_eq_true rfl⟩) (mk_vR hP hK hT hS [0] rfl (q0 := 0) (ci := 0) rfl rfl) rfl rfl hl.1 rfl (lv_room (Nat.le_of_ble_eq_true rfl)) d_LN_about_2 ⟨Nat.zero_le _, Nat.zero_le _⟩) ?_
  refine lv_astore_n (lv' := [(3, .ref f0), (0, .ref x), (1, .int (nI 0)), (2, .int (nI 4))]) hx hb d_LN_about_5 rfl hl (by decide) rfl (fun ls hl => ?_)
  refine lv_aload_n hx hb d_LN_about_6 rfl (lv_at hl 0 rfl) ?_
  refine lv_ifnonnull (tgt := 12) hx hb d_LN_about_7 (by decide) ?_
  refine lv_iload_n hx hb d_LN_about_12 rfl (lv_at hl 3 rfl) ?_
  refine lv_tableIn (tgt := 84) (off := 71) hx hb d_LN_about_13 (by decide) (by decide) (by rfl) (by decide) ?_
  refine lv_aload_n hx hb d_LN_about_84 rfl (lv_at hl 0 rfl) ?_
  refine mk_r1 (W.runV (As := []) (rest := []) S (c_Ro_es l dC dI cI f0 a0 n0 v0 (by first | assumption | omega) (by first | assumption | omega)) (gV 0 hts k_165 k_166 k_167 k_25 k_168 (by decide +kernel) ⟨Nat.le_of_ble_eq_true rfl, Nat.le_of_ble_eq_true rfl⟩) (mk_vR hP hK hT hS [1, 2] rfl (q0 := 1) (ci := 1) rfl rfl) rfl rfl hl.1 rfl (lv_room (Nat.le_of_ble_eq_true rfl)) d_LN_about_85 ⟨Nat.zero_le _, Nat.zero_le _⟩) ?_
  exact hret _ _ d_LN_about_88

set_option maxHeartbeats 4000000 in
set_option maxRecDepth 100000 in
theorem c_LN_about0x (l : Launch) (dC : Nat → ClassId) (dI : Nat → Nat → Nat) (cI : ClassId) (x f0 a0 n0 : Nat) (v0 : Nat → Nat) (f1 a1 n1 : Nat) (v1 : Nat → Nat) (h a : Nat) (b : Nat → Nat) (hp ap : Nat) (pb : Nat → Nat) (hs as : Nat) (B : Nat → Nat) (w : Int32) (hn0 : n0 ≤ 255) (hv0 : ∀ j, v0 j < 65536) (hn1 : n1 ≤ 255) (hv1 : ∀ j, v1 j < 65536) (hb9 : ∀ j, b j < 65536) (hpb : ∀ j, pb j < 65536) (hB : ∀ j, B j < 256) (hw : w < 0 ∨ nI 4 < w) : mR l y_LN_about w_LN_about ({ frames := 1, cells := 0, slots := 0, locals := 21 } : Room) [.ref x, .int (nI 0), .int w] (dC, dI) vwCl [(cI, .int)] [(x, .inr (0, [.ref f0, .ref f1, .ref h, .ref hp, .ref hs])), (f0, .inr (1, [.ref a0, .int (nI n0)])), (a0, .inl (cI, 255, .inl (nf v0))), (f1, .inr (1, [.ref a1, .int (nI n1)])), (a1, .inl (cI, 255, .inl (nf v1))), (h, .inr (2, [.ref a])), (a, .inl (cI, 11, .inl (nf b))), (hp, .inr (3, [.ref ap])), (ap, .inl (cI, 32, .inl (nf pb))), (hs, .inr (4, [.ref as])), (as, .inl (cI, 1024, .inl (nf B)))] (some (.int (-1))) := by
  refine mk_Ri (cc := b_LN_about) (maxL := 4) (by decide) rfl (Nat.le_of_ble_eq_true rfl) rfl ?_
  intro p e s m below meth c Q A ls S hP hK hT hS hl hret
  obtain ⟨hx, hb, hml, hown, hts⟩ := id S
  have hl : lv_has ls 4 [(0, .ref x), (1, .int (nI 0)), (2, .int w)] := hl
  refine lv_aload_n hx hb d_LN_about_0 rfl (lv_at hl 0 rfl) ?_
  refine lv_iload_n hx hb d_LN_about_1 rfl (lv_at hl 1 rfl) ?_
  refine mk_r1 (W.runV (As := [.int (nI 0)]) (rest := []) S (c_LN_row0 l dC dI cI x f0 f1 h hp hs) (gV 1 hts k_111 k_113 k_0 k_24 k_114 (by decide +kernel) ⟨Nat.le_of_ble_eq_true rfl, Nat.le_of_ble_eq_true rfl⟩) (mk_vR hP hK hT hS [0] rfl (q0 := 0) (ci := 0) rfl rfl) rfl rfl hl.1 rfl (lv_room (Nat.le_of_ble_eq_true rfl)) d_LN_about_2 ⟨Nat.zero_le _, Nat.zero_le _⟩) ?_
  refine lv_astore_n (lv' := [(3, .ref f0), (0, .ref x), (1, .int (nI 0)), (2, .int w)]) hx hb d_LN_about_5 rfl hl (by decide) rfl (fun ls hl => ?_)
  refine lv_aload_n hx hb d_LN_about_6 rfl (lv_at hl 0 rfl) ?_
  refine lv_ifnonnull (tgt := 12) hx hb d_LN_about_7 (by decide) ?_
  refine lv_iload_n hx hb d_LN_about_12 rfl (lv_at hl 3 rfl) ?_
  refine lv_tableOut (tgt := 89) hx hb d_LN_about_13 (mk_tout hw (by decide)) (by decide) ?_
  refine lv_iconst (v := (-1)) hx hb d_LN_about_89 (by decide) ?_
  exact hret _ _ d_LN_about_90

set_option maxHeartbeats 4000000 in
set_option maxRecDepth 100000 in
theorem c_LN_letter0 (l : Launch) (dC : Nat → ClassId) (dI : Nat → Nat → Nat) (cI : ClassId) (x f0 a0 n0 : Nat) (v0 : Nat → Nat) (f1 a1 n1 : Nat) (v1 : Nat → Nat) (h a : Nat) (b : Nat → Nat) (hp ap : Nat) (pb : Nat → Nat) (hs as : Nat) (B : Nat → Nat) (t : Nat) (hn0 : n0 ≤ 255) (hv0 : ∀ j, v0 j < 65536) (hn1 : n1 ≤ 255) (hv1 : ∀ j, v1 j < 65536) (hb9 : ∀ j, b j < 65536) (hpb : ∀ j, pb j < 65536) (hB : ∀ j, B j < 256) (ht : t < 2 ^ 31) : mR l y_LN_letter w_LN_letter ({ frames := 3, cells := 0, slots := 0, locals := 67 } : Room) [.ref x, .int (nI 0), .int (nI t)] (dC, dI) vwCl [(cI, .int)] [(x, .inr (0, [.ref f0, .ref f1, .ref h, .ref hp, .ref hs])), (f0, .inr (1, [.ref a0, .int (nI n0)])), (a0, .inl (cI, 255, .inl (nf v0))), (f1, .inr (1, [.ref a1, .int (nI n1)])), (a1, .inl (cI, 255, .inl (nf v1))), (h, .inr (2, [.ref a])), (a, .inl (cI, 11, .inl (nf b))), (hp, .inr (3, [.ref ap])), (ap, .inl (cI, 32, .inl (nf pb))), (hs, .inr (4, [.ref as])), (as, .inl (cI, 1024, .inl (nf B)))] (some (.int (ebL v0 n0 0 t))) := by
  refine mk_Ri (cc := b_LN_letter) (maxL := 4) (by decide) rfl (Nat.le_of_ble_eq_true rfl) rfl ?_
  intro p e s m below meth c Q A ls S hP hK hT hS hl hret
  obtain ⟨hx, hb, hml, hown, hts⟩ := id S
  have hl : lv_has ls 4 [(0, .ref x), (1, .int (nI 0)), (2, .int (nI t))] := hl
  refine lv_aload_n hx hb d_LN_letter_0 rfl (lv_at hl 0 rfl) ?_
  refine lv_iload_n hx hb d_LN_letter_1 rfl (lv_at hl 1 rfl) ?_
  refine mk_r1 (W.runV (As := [.int (nI 0)]) (rest := []) S (c_LN_row0 l dC dI cI x f0 f1 h hp hs) (gV 1 hts k_111 k_113 k_0 k_24 k_114 (by decide +kernel) ⟨Nat.le_of_ble_eq_true rfl, Nat.le_of_ble_eq_true rfl⟩) (mk_vR hP hK hT hS [0] rfl (q0 := 0) (ci := 0) rfl rfl) rfl rfl hl.1 rfl (lv_room (Nat.le_of_ble_eq_true rfl)) d_LN_letter_2 ⟨Nat.zero_le _, Nat.zero_le _⟩) ?_
  refine lv_astore_n (lv' := [(3, .ref f0), (0, .ref x), (1, .int (nI 0)), (2, .int (nI t))]) hx hb d_LN_letter_5 rfl hl (by decide) rfl (fun ls hl => ?_)
  refine lv_aload_n hx hb d_LN_letter_6 rfl (lv_at hl 0 rfl) ?_
  refine lv_ifnonnull (tgt := 14) hx hb d_LN_letter_7 (by decide) ?_
  refine lv_aload_n hx hb d_LN_letter_14 rfl (lv_at hl 0 rfl) ?_
  refine lv_iload_n hx hb d_LN_letter_15 rfl (lv_at hl 3 rfl) ?_
  refine mk_r1 (W.runV (As := [.int (nI t)]) (rest := []) S (c_Ro_ebN l dC dI cI f0 a0 n0 v0 t (by first | assumption | omega) (by first | assumption | omega) (by first | assumption | omega)) (gV 1 hts k_176 k_177 k_178 k_25 k_179 (by decide +kernel) ⟨Nat.le_of_ble_eq_true rfl, Nat.le_of_ble_eq_true rfl⟩) (mk_vR hP hK hT hS [1, 2] rfl (q0 := 1) (ci := 1) rfl rfl) rfl rfl hl.1 rfl (lv_room (Nat.le_of_ble_eq_true rfl)) d_LN_letter_16 ⟨Nat.zero_le _, Nat.zero_le _⟩) ?_
  exact hret _ _ d_LN_letter_19

set_option maxHeartbeats 4000000 in
set_option maxRecDepth 100000 in
theorem c_LN_letter0x (l : Launch) (dC : Nat → ClassId) (dI : Nat → Nat → Nat) (cI : ClassId) (x f0 a0 n0 : Nat) (v0 : Nat → Nat) (f1 a1 n1 : Nat) (v1 : Nat → Nat) (h a : Nat) (b : Nat → Nat) (hp ap : Nat) (pb : Nat → Nat) (hs as : Nat) (B : Nat → Nat) (t : Int32) (hn0 : n0 ≤ 255) (hv0 : ∀ j, v0 j < 65536) (hn1 : n1 ≤ 255) (hv1 : ∀ j, v1 j < 65536) (hb9 : ∀ j, b j < 65536) (hpb : ∀ j, pb j < 65536) (hB : ∀ j, B j < 256) (ht : t < 0) : mR l y_LN_letter w_LN_letter ({ frames := 1, cells := 0, slots := 0, locals := 24 } : Room) [.ref x, .int (nI 0), .int t] (dC, dI) vwCl [(cI, .int)] [(x, .inr (0, [.ref f0, .ref f1, .ref h, .ref hp, .ref hs])), (f0, .inr (1, [.ref a0, .int (nI n0)])), (a0, .inl (cI, 255, .inl (nf v0))), (f1, .inr (1, [.ref a1, .int (nI n1)])), (a1, .inl (cI, 255, .inl (nf v1))), (h, .inr (2, [.ref a])), (a, .inl (cI, 11, .inl (nf b))), (hp, .inr (3, [.ref ap])), (ap, .inl (cI, 32, .inl (nf pb))), (hs, .inr (4, [.ref as])), (as, .inl (cI, 1024, .inl (nf B)))] (some (.int (-1))) := by
  refine mk_Ri (cc := b_LN_letter) (maxL := 4) (by decide) rfl (Nat.le_of_ble_eq_true rfl) rfl ?_
  intro p e s m below meth c Q A ls S hP hK hT hS hl hret
  obtain ⟨hx, hb, hml, hown, hts⟩ := id S
  have hl : lv_has ls 4 [(0, .ref x), (1, .int (nI 0)), (2, .int t)] := hl
  refine lv_aload_n hx hb d_LN_letter_0 rfl (lv_at hl 0 rfl) ?_
  refine lv_iload_n hx hb d_LN_letter_1 rfl (lv_at hl 1 rfl) ?_
  refine mk_r1 (W.runV (As := [.int (nI 0)]) (rest := []) S (c_LN_row0 l dC dI cI x f0 f1 h hp hs) (gV 1 hts k_111 k_113 k_0 k_24 k_114 (by decide +kernel) ⟨Nat.le_of_ble_eq_true rfl, Nat.le_of_ble_eq_true rfl⟩) (mk_vR hP hK hT hS [0] rfl (q0 := 0) (ci := 0) rfl rfl) rfl rfl hl.1 rfl (lv_room (Nat.le_of_ble_eq_true rfl)) d_LN_letter_2 ⟨Nat.zero_le _, Nat.zero_le _⟩) ?_
  refine lv_astore_n (lv' := [(3, .ref f0), (0, .ref x), (1, .int (nI 0)), (2, .int t)]) hx hb d_LN_letter_5 rfl hl (by decide) rfl (fun ls hl => ?_)
  refine lv_aload_n hx hb d_LN_letter_6 rfl (lv_at hl 0 rfl) ?_
  refine lv_ifnonnull (tgt := 14) hx hb d_LN_letter_7 (by decide) ?_
  refine lv_aload_n hx hb d_LN_letter_14 rfl (lv_at hl 0 rfl) ?_
  refine lv_iload_n hx hb d_LN_letter_15 rfl (lv_at hl 3 rfl) ?_
  refine mk_r1 (W.runV (As := [.int t]) (rest := []) S (c_Ro_ebX l dC dI cI f0 a0 n0 v0 t (by first | assumption | omega)) (gV 1 hts k_176 k_177 k_178 k_25 k_179 (by decide +kernel) ⟨Nat.le_of_ble_eq_true rfl, Nat.le_of_ble_eq_true rfl⟩) (mk_vR hP hK hT hS [1, 2] rfl (q0 := 1) (ci := 1) rfl rfl) rfl rfl hl.1 rfl (lv_room (Nat.le_of_ble_eq_true rfl)) d_LN_letter_16 ⟨Nat.zero_le _, Nat.zero_le _⟩) ?_
  exact hret _ _ d_LN_letter_19

set_option maxHeartbeats 4000000 in
set_option maxRecDepth 100000 in
theorem c_LN_unit1 (l : Launch) (dC : Nat → ClassId) (dI : Nat → Nat → Nat) (cI : ClassId) (x f0 a0 n0 : Nat) (v0 : Nat → Nat) (f1 a1 n1 : Nat) (v1 : Nat → Nat) (h a : Nat) (b : Nat → Nat) (hp ap : Nat) (pb : Nat → Nat) (hs as : Nat) (B : Nat → Nat) (u : Nat) (hn0 : n0 ≤ 255) (hv0 : ∀ j, v0 j < 65536) (hn1 : n1 ≤ 255) (hv1 : ∀ j, v1 j < 65536) (hb9 : ∀ j, b j < 65536) (hpb : ∀ j, pb j < 65536) (hB : ∀ j, B j < 256) (hu : u < 65536) (hf : n1 < 255) : mM l y_LN_unit w_LN_unit ({ frames := 1, cells := 0, slots := 0, locals := 21 } : Room) [.ref x, .int (nI 1), .int (nI u)] (dC, dI) vwCl [(cI, .int)] [(x, .inr (0, [.ref f0, .ref f1, .ref h, .ref hp, .ref hs])), (f0, .inr (1, [.ref a0, .int (nI n0)])), (a0, .inl (cI, 255, .inl (nf v0))), (f1, .inr (1, [.ref a1, .int (nI n1)])), (a1, .inl (cI, 255, .inl (nf v1))), (h, .inr (2, [.ref a])), (a, .inl (cI, 11, .inl (nf b))), (hp, .inr (3, [.ref ap])), (ap, .inl (cI, 32, .inl (nf pb))), (hs, .inr (4, [.ref as])), (as, .inl (cI, 1024, .inl (nf B)))] (some (.int (nI 1))) [(x, .inr (0, [.ref f0, .ref f1, .ref h, .ref hp, .ref hs])), (f0, .inr (1, [.ref a0, .int (nI n0)])), (a0, .inl (cI, 255, .inl (nf v0))), (f1, .inr (1, [.ref a1, .int (nI (n1 + 1))])), (a1, .inl (cI, 255, .inl (nf (uN v1 n1 u)))), (h, .inr (2, [.ref a])), (a, .inl (cI, 11, .inl (nf b))), (hp, .inr (3, [.ref ap])), (ap, .inl (cI, 32, .inl (nf pb))), (hs, .inr (4, [.ref as])), (as, .inl (cI, 1024, .inl (nf B)))] := by
  refine mk_Mi (cc := b_LN_unit) (maxL := 4) (by decide) rfl (Nat.le_of_ble_eq_true rfl) (rfl) ?_
  intro p e s m below meth c Q A ls S hP hK hT hS hl hD hA hret
  obtain ⟨hx, hb, hml, hown, hts⟩ := id S
  have hl : lv_has ls 4 [(0, .ref x), (1, .int (nI 1)), (2, .int (nI u))] := hl
  refine lv_aload_n hx hb d_LN_unit_0 rfl (lv_at hl 0 rfl) ?_
  refine lv_iload_n hx hb d_LN_unit_1 rfl (lv_at hl 1 rfl) ?_
  refine mk_r1 (W.runV (As := [.int (nI 1)]) (rest := []) S (c_LN_row1 l dC dI cI x f0 f1 h hp hs) (gV 1 hts k_111 k_113 k_0 k_24 k_114 (by decide +kernel) ⟨Nat.le_of_ble_eq_true rfl, Nat.le_of_ble_eq_true rfl⟩) (mk_vR hP hK hT hS [0] rfl (q0 := 0) (ci := 0) rfl rfl) rfl rfl hl.1 rfl (lv_room (Nat.le_of_ble_eq_true rfl)) d_LN_unit_2 ⟨Nat.zero_le _, Nat.zero_le _⟩) ?_
  refine lv_astore_n (lv' := [(3, .ref f1), (0, .ref x), (1, .int (nI 1)), (2, .int (nI u))]) hx hb d_LN_unit_5 rfl hl (by decide) rfl (fun ls hl => ?_)
  refine lv_aload_n hx hb d_LN_unit_6 rfl (lv_at hl 0 rfl) ?_
  refine lv_ifnull hx hb d_LN_unit_7 ?_
  refine lv_iload_n hx hb d_LN_unit_10 rfl (lv_at hl 3 rfl) ?_
  refine lv_if_lt (tgt := 20) hx hb d_LN_unit_11 (by decide) (fun c_1 => ?_) (fun c_1 => ?_)
  · skip
    rw [mk_clt (by omega)] at c_1
    first | omega | contradiction
  · skip
    rw [mk_clt (by omega)] at c_1
    refine lv_iload_n hx hb d_LN_unit_14 rfl (lv_at hl 3 rfl) ?_
    refine lv_ldc (v := nI 65535) hx hb hown (hts _ (List.mem_cons_of_mem _ k_115)) d_LN_unit_15 ?_
    refine lv_icmp_le (tgt := 22) hx hb d_LN_unit_17 (by decide) (fun c_2 => ?_) (fun c_2 => ?_)
    · skip
      rw [nI_leI (by omega) (by omega)] at c_2
      refine lv_aload_n hx hb d_LN_unit_22 rfl (lv_at hl 0 rfl) ?_
      refine lv_iload_n hx hb d_LN_unit_23 rfl (lv_at hl 3 rfl) ?_
      refine mk_w1 (wr := [(x, .inr (0, [.ref f0, .ref f1, .ref h, .ref hp, .ref hs])), (f0, .inr (1, [.ref a0, .int (nI n0)])), (a0, .inl (cI, 255, .inl (nf v0))), (h, .inr (2, [.ref a])), (a, .inl (cI, 11, .inl (nf b))), (hp, .inr (3, [.ref ap])), (ap, .inl (cI, 32, .inl (nf pb))), (hs, .inr (4, [.ref as])), (as, .inl (cI, 1024, .inl (nf B)))]) (W.runV (As := [.int (nI u)]) (rest := []) S ((c_Ro_app l dC dI cI f1 a1 n1 v1 u (by first | assumption | omega)) _) (gV 1 hts k_116 k_117 k_118 k_25 k_119 (by decide +kernel) ⟨Nat.le_of_ble_eq_true rfl, Nat.le_of_ble_eq_true rfl⟩) (mk_vM hP hD hK hT hS hA [3, 4] rfl rfl (by decide) (q0 := 3) (ci := 1) rfl rfl) rfl rfl hl.1 rfl (lv_room (Nat.le_of_ble_eq_true rfl)) d_LN_unit_24 ⟨Nat.zero_le _, Nat.zero_le _⟩) hP hD hS hA [3, 4] [0, 1, 2, 5, 6, 7, 8, 9, 10] rfl rfl (by decide) (by decide) (fun H locs hP hD hS => ?_)
      have hP : va_P (dC, dI) vwCl [(x, .inr (0, [.ref f0, .ref f1, .ref h, .ref hp, .ref hs])), (f0, .inr (1, [.ref a0, .int (nI n0)])), (a0, .inl (cI, 255, .inl (nf v0))), (f1, .inr (1, [.ref a1, .int (nI (n1 + 1))])), (a1, .inl (cI, 255, .inl (nf (uN v1 n1 u)))), (h, .inr (2, [.ref a])), (a, .inl (cI, 11, .inl (nf b))), (hp, .inr (3, [.ref ap])), (ap, .inl (cI, 32, .inl (nf pb))), (hs, .inr (4, [.ref as])), (as, .inl (cI, 1024, .inl (nf B)))] H := hP.sub [0, 1, 2, 9, 10, 3, 4, 5, 6, 7, 8] rfl
      have hD : va_D A [(x, .inr (0, [.ref f0, .ref f1, .ref h, .ref hp, .ref hs])), (f0, .inr (1, [.ref a0, .int (nI n0)])), (a0, .inl (cI, 255, .inl (nf v0))), (f1, .inr (1, [.ref a1, .int (nI (n1 + 1))])), (a1, .inl (cI, 255, .inl (nf (uN v1 n1 u)))), (h, .inr (2, [.ref a])), (a, .inl (cI, 11, .inl (nf b))), (hp, .inr (3, [.ref ap])), (ap, .inl (cI, 32, .inl (nf pb))), (hs, .inr (4, [.ref as])), (as, .inl (cI, 1024, .inl (nf B)))] := hD.sub [0, 1, 2, 9, 10, 3, 4, 5, 6, 7, 8] (by decide) rfl
      exact hret _ _ _ _ d_LN_unit_27 hP hD hS
    · skip
      rw [nI_leI (by omega) (by omega)] at c_2
      first | omega | contradiction

set_option maxHeartbeats 4000000 in
set_option maxRecDepth 100000 in
theorem c_LN_unit1f (l : Launch) (dC : Nat → ClassId) (dI : Nat → Nat → Nat) (cI : ClassId) (x f0 a0 n0 : Nat) (v0 : Nat → Nat) (f1 a1 n1 : Nat) (v1 : Nat → Nat) (h a : Nat) (b : Nat → Nat) (hp ap : Nat) (pb : Nat → Nat) (hs as : Nat) (B : Nat → Nat) (u : Nat) (hn0 : n0 ≤ 255) (hv0 : ∀ j, v0 j < 65536) (hn1 : n1 ≤ 255) (hv1 : ∀ j, v1 j < 65536) (hb9 : ∀ j, b j < 65536) (hpb : ∀ j, pb j < 65536) (hB : ∀ j, B j < 256) (hu : u < 65536) (hf : n1 = 255) : mM l y_LN_unit w_LN_unit ({ frames := 1, cells := 0, slots := 0, locals := 21 } : Room) [.ref x, .int (nI 1), .int (nI u)] (dC, dI) vwCl [(cI, .int)] [(x, .inr (0, [.ref f0, .ref f1, .ref h, .ref hp, .ref hs])), (f0, .inr (1, [.ref a0, .int (nI n0)])), (a0, .inl (cI, 255, .inl (nf v0))), (f1, .inr (1, [.ref a1, .int (nI n1)])), (a1, .inl (cI, 255, .inl (nf v1))), (h, .inr (2, [.ref a])), (a, .inl (cI, 11, .inl (nf b))), (hp, .inr (3, [.ref ap])), (ap, .inl (cI, 32, .inl (nf pb))), (hs, .inr (4, [.ref as])), (as, .inl (cI, 1024, .inl (nf B)))] (some (.int (nI 0))) [(x, .inr (0, [.ref f0, .ref f1, .ref h, .ref hp, .ref hs])), (f0, .inr (1, [.ref a0, .int (nI n0)])), (a0, .inl (cI, 255, .inl (nf v0))), (f1, .inr (1, [.ref a1, .int (nI n1)])), (a1, .inl (cI, 255, .inl (nf v1))), (h, .inr (2, [.ref a])), (a, .inl (cI, 11, .inl (nf b))), (hp, .inr (3, [.ref ap])), (ap, .inl (cI, 32, .inl (nf pb))), (hs, .inr (4, [.ref as])), (as, .inl (cI, 1024, .inl (nf B)))] := by
  refine mk_Mi (cc := b_LN_unit) (maxL := 4) (by decide) rfl (Nat.le_of_ble_eq_true rfl) (rfl) ?_
  intro p e s m below meth c Q A ls S hP hK hT hS hl hD hA hret
  obtain ⟨hx, hb, hml, hown, hts⟩ := id S
  have hl : lv_has ls 4 [(0, .ref x), (1, .int (nI 1)), (2, .int (nI u))] := hl
  refine lv_aload_n hx hb d_LN_unit_0 rfl (lv_at hl 0 rfl) ?_
  refine lv_iload_n hx hb d_LN_unit_1 rfl (lv_at hl 1 rfl) ?_
  refine mk_r1 (W.runV (As := [.int (nI 1)]) (rest := []) S (c_LN_row1 l dC dI cI x f0 f1 h hp hs) (gV 1 hts k_111 k_113 k_0 k_24 k_114 (by decide +kernel) ⟨Nat.le_of_ble_eq_true rfl, Nat.le_of_ble_eq_true rfl⟩) (mk_vR hP hK hT hS [0] rfl (q0 := 0) (ci := 0) rfl rfl) rfl rfl hl.1 rfl (lv_room (Nat.le_of_ble_eq_true rfl)) d_LN_unit_2 ⟨Nat.zero_le _, Nat.zero_le _⟩) ?_
  refine lv_astore_n (lv' := [(3, .ref f1), (0, .ref x), (1, .int (nI 1)), (2, .int (nI u))]) hx hb d_LN_unit_5 rfl hl (by decide) rfl (fun ls hl => ?_)
  refine lv_aload_n hx hb d_LN_unit_6 rfl (lv_at hl 0 rfl) ?_
  refine lv_ifnull hx hb d_LN_unit_7 ?_
  refine lv_iload_n hx hb d_LN_unit_10 rfl (lv_at hl 3 rfl) ?_
  refine lv_if_lt (tgt := 20) hx hb d_LN_unit_11 (by decide) (fun c_1 => ?_) (fun c_1 => ?_)
  · skip
    rw [mk_clt (by omega)] at c_1
    first | omega | contradiction
  · skip
    rw [mk_clt (by omega)] at c_1
    refine lv_iload_n hx hb d_LN_unit_14 rfl (lv_at hl 3 rfl) ?_
    refine lv_ldc (v := nI 65535) hx hb hown (hts _ (List.mem_cons_of_mem _ k_115)) d_LN_unit_15 ?_
    refine lv_icmp_le (tgt := 22) hx hb d_LN_unit_17 (by decide) (fun c_2 => ?_) (fun c_2 => ?_)
    · skip
      rw [nI_leI (by omega) (by omega)] at c_2
      refine lv_aload_n hx hb d_LN_unit_22 rfl (lv_at hl 0 rfl) ?_
      refine lv_iload_n hx hb d_LN_unit_23 rfl (lv_at hl 3 rfl) ?_
      refine mk_w1 (wr := [(x, .inr (0, [.ref f0, .ref f1, .ref h, .ref hp, .ref hs])), (f0, .inr (1, [.ref a0, .int (nI n0)])), (a0, .inl (cI, 255, .inl (nf v0))), (h, .inr (2, [.ref a])), (a, .inl (cI, 11, .inl (nf b))), (hp, .inr (3, [.ref ap])), (ap, .inl (cI, 32, .inl (nf pb))), (hs, .inr (4, [.ref as])), (as, .inl (cI, 1024, .inl (nf B)))]) (W.runV (As := [.int (nI u)]) (rest := []) S ((c_Ro_full l dC dI cI f1 a1 n1 v1 (nI u) (by first | assumption | omega)) _) (gV 1 hts k_116 k_117 k_118 k_25 k_119 (by decide +kernel) ⟨Nat.le_of_ble_eq_true rfl, Nat.le_of_ble_eq_true rfl⟩) (mk_vM hP hD hK hT hS hA [3, 4] rfl rfl (by decide) (q0 := 3) (ci := 1) rfl rfl) rfl rfl hl.1 rfl (lv_room (Nat.le_of_ble_eq_true rfl)) d_LN_unit_24 ⟨Nat.zero_le _, Nat.zero_le _⟩) hP hD hS hA [3, 4] [0, 1, 2, 5, 6, 7, 8, 9, 10] rfl rfl (by decide) (by decide) (fun H locs hP hD hS => ?_)
      have hP : va_P (dC, dI) vwCl [(x, .inr (0, [.ref f0, .ref f1, .ref h, .ref hp, .ref hs])), (f0, .inr (1, [.ref a0, .int (nI n0)])), (a0, .inl (cI, 255, .inl (nf v0))), (f1, .inr (1, [.ref a1, .int (nI n1)])), (a1, .inl (cI, 255, .inl (nf v1))), (h, .inr (2, [.ref a])), (a, .inl (cI, 11, .inl (nf b))), (hp, .inr (3, [.ref ap])), (ap, .inl (cI, 32, .inl (nf pb))), (hs, .inr (4, [.ref as])), (as, .inl (cI, 1024, .inl (nf B)))] H := hP.sub [0, 1, 2, 9, 10, 3, 4, 5, 6, 7, 8] rfl
      have hD : va_D A [(x, .inr (0, [.ref f0, .ref f1, .ref h, .ref hp, .ref hs])), (f0, .inr (1, [.ref a0, .int (nI n0)])), (a0, .inl (cI, 255, .inl (nf v0))), (f1, .inr (1, [.ref a1, .int (nI n1)])), (a1, .inl (cI, 255, .inl (nf v1))), (h, .inr (2, [.ref a])), (a, .inl (cI, 11, .inl (nf b))), (hp, .inr (3, [.ref ap])), (ap, .inl (cI, 32, .inl (nf pb))), (hs, .inr (4, [.ref as])), (as, .inl (cI, 1024, .inl (nf B)))] := hD.sub [0, 1, 2, 9, 10, 3, 4, 5, 6, 7, 8] (by decide) rfl
      exact hret _ _ _ _ d_LN_unit_27 hP hD hS
    · skip
      rw [nI_leI (by omega) (by omega)] at c_2
      first | omega | contradiction

set_option maxHeartbeats 4000000 in
set_option maxRecDepth 100000 in
theorem c_LN_unit1b (l : Launch) (dC : Nat → ClassId) (dI : Nat → Nat → Nat) (cI : ClassId) (x f0 a0 n0 : Nat) (v0 : Nat → Nat) (f1 a1 n1 : Nat) (v1 : Nat → Nat) (h a : Nat) (b : Nat → Nat) (hp ap : Nat) (pb : Nat → Nat) (hs as : Nat) (B : Nat → Nat) (u : Int32) (hn0 : n0 ≤ 255) (hv0 : ∀ j, v0 j < 65536) (hn1 : n1 ≤ 255) (hv1 : ∀ j, v1 j < 65536) (hb9 : ∀ j, b j < 65536) (hpb : ∀ j, pb j < 65536) (hB : ∀ j, B j < 256) (hu : u < 0 ∨ ¬ u ≤ nI 65535) : mM l y_LN_unit w_LN_unit ({ frames := 1, cells := 0, slots := 0, locals := 21 } : Room) [.ref x, .int (nI 1), .int u] (dC, dI) vwCl [(cI, .int)] [(x, .inr (0, [.ref f0, .ref f1, .ref h, .ref hp, .ref hs])), (f0, .inr (1, [.ref a0, .int (nI n0)])), (a0, .inl (cI, 255, .inl (nf v0))), (f1, .inr (1, [.ref a1, .int (nI n1)])), (a1, .inl (cI, 255, .inl (nf v1))), (h, .inr (2, [.ref a])), (a, .inl (cI, 11, .inl (nf b))), (hp, .inr (3, [.ref ap])), (ap, .inl (cI, 32, .inl (nf pb))), (hs, .inr (4, [.ref as])), (as, .inl (cI, 1024, .inl (nf B)))] (some (.int (nI 0))) [(x, .inr (0, [.ref f0, .ref f1, .ref h, .ref hp, .ref hs])), (f0, .inr (1, [.ref a0, .int (nI n0)])), (a0, .inl (cI, 255, .inl (nf v0))), (f1, .inr (1, [.ref a1, .int (nI n1)])), (a1, .inl (cI, 255, .inl (nf v1))), (h, .inr (2, [.ref a])), (a, .inl (cI, 11, .inl (nf b))), (hp, .inr (3, [.ref ap])), (ap, .inl (cI, 32, .inl (nf pb))), (hs, .inr (4, [.ref as])), (as, .inl (cI, 1024, .inl (nf B)))] := by
  refine mk_Mi (cc := b_LN_unit) (maxL := 4) (by decide) rfl (Nat.le_of_ble_eq_true rfl) (rfl) ?_
  intro p e s m below meth c Q A ls S hP hK hT hS hl hD hA hret
  obtain ⟨hx, hb, hml, hown, hts⟩ := id S
  have hl : lv_has ls 4 [(0, .ref x), (1, .int (nI 1)), (2, .int u)] := hl
  refine lv_aload_n hx hb d_LN_unit_0 rfl (lv_at hl 0 rfl) ?_
  refine lv_iload_n hx hb d_LN_unit_1 rfl (lv_at hl 1 rfl) ?_
  refine mk_r1 (W.runV (As := [.int (nI 1)]) (rest := []) S (c_LN_row1 l dC dI cI x f0 f1 h hp hs) (gV 1 hts k_111 k_113 k_0 k_24 k_114 (by decide +kernel) ⟨Nat.le_of_ble_eq_true rfl, Nat.le_of_ble_eq_true rfl⟩) (mk_vR hP hK hT hS [0] rfl (q0 := 0) (ci := 0) rfl rfl) rfl rfl hl.1 rfl (lv_room (Nat.le_of_ble_eq_true rfl)) d_LN_unit_2 ⟨Nat.zero_le _, Nat.zero_le _⟩) ?_
  refine lv_astore_n (lv' := [(3, .ref f1), (0, .ref x), (1, .int (nI 1)), (2, .int u)]) hx hb d_LN_unit_5 rfl hl (by decide) rfl (fun ls hl => ?_)
  refine lv_aload_n hx hb d_LN_unit_6 rfl (lv_at hl 0 rfl) ?_
  refine lv_ifnull hx hb d_LN_unit_7 ?_
  refine lv_iload_n hx hb d_LN_unit_10 rfl (lv_at hl 3 rfl) ?_
  refine lv_if_lt (tgt := 20) hx hb d_LN_unit_11 (by decide) (fun c_1 => ?_) (fun c_1 => ?_)
  · skip
    refine lv_iconst (v := nI 0) hx hb d_LN_unit_20 (by decide) ?_
    exact hret _ _ _ _ d_LN_unit_21 hP hD hS
  · skip
    refine lv_iload_n hx hb d_LN_unit_14 rfl (lv_at hl 3 rfl) ?_
    refine lv_ldc (v := nI 65535) hx hb hown (hts _ (List.mem_cons_of_mem _ k_115)) d_LN_unit_15 ?_
    refine lv_icmp_le (tgt := 22) hx hb d_LN_unit_17 (by decide) (fun c_2 => ?_) (fun c_2 => ?_)
    · skip
      rcases hu with h9 | h9 <;> contradiction
    · skip
      refine lv_iconst (v := nI 0) hx hb d_LN_unit_20 (by decide) ?_
      exact hret _ _ _ _ d_LN_unit_21 hP hD hS

set_option maxHeartbeats 4000000 in
set_option maxRecDepth 100000 in
theorem c_LN_clear1 (l : Launch) (dC : Nat → ClassId) (dI : Nat → Nat → Nat) (cI : ClassId) (x f0 a0 n0 : Nat) (v0 : Nat → Nat) (f1 a1 n1 : Nat) (v1 : Nat → Nat) (h a : Nat) (b : Nat → Nat) (hp ap : Nat) (pb : Nat → Nat) (hs as : Nat) (B : Nat → Nat) (hn0 : n0 ≤ 255) (hv0 : ∀ j, v0 j < 65536) (hn1 : n1 ≤ 255) (hv1 : ∀ j, v1 j < 65536) (hb9 : ∀ j, b j < 65536) (hpb : ∀ j, pb j < 65536) (hB : ∀ j, B j < 256)  : mM l y_LN_clear w_LN_clear ({ frames := 1, cells := 0, slots := 0, locals := 21 } : Room) [.ref x, .int (nI 1)] (dC, dI) vwCl [(cI, .int)] [(x, .inr (0, [.ref f0, .ref f1, .ref h, .ref hp, .ref hs])), (f0, .inr (1, [.ref a0, .int (nI n0)])), (a0, .inl (cI, 255, .inl (nf v0))), (f1, .inr (1, [.ref a1, .int (nI n1)])), (a1, .inl (cI, 255, .inl (nf v1))), (h, .inr (2, [.ref a])), (a, .inl (cI, 11, .inl (nf b))), (hp, .inr (3, [.ref ap])), (ap, .inl (cI, 32, .inl (nf pb))), (hs, .inr (4, [.ref as])), (as, .inl (cI, 1024, .inl (nf B)))] (some (.int (nI n1))) [(x, .inr (0, [.ref f0, .ref f1, .ref h, .ref hp, .ref hs])), (f0, .inr (1, [.ref a0, .int (nI n0)])), (a0, .inl (cI, 255, .inl (nf v0))), (f1, .inr (1, [.ref a1, .int (nI 0)])), (a1, .inl (cI, 255, .inl (nf v1))), (h, .inr (2, [.ref a])), (a, .inl (cI, 11, .inl (nf b))), (hp, .inr (3, [.ref ap])), (ap, .inl (cI, 32, .inl (nf pb))), (hs, .inr (4, [.ref as])), (as, .inl (cI, 1024, .inl (nf B)))] := by
  refine mk_Mi (cc := b_LN_clear) (maxL := 4) (by decide) rfl (Nat.le_of_ble_eq_true rfl) rfl ?_
  intro p e s m below meth c Q A ls S hP hK hT hS hl hD hA hret
  obtain ⟨hx, hb, hml, hown, hts⟩ := id S
  have hl : lv_has ls 4 [(0, .ref x), (1, .int (nI 1))] := hl
  refine lv_aload_n hx hb d_LN_clear_0 rfl (lv_at hl 0 rfl) ?_
  refine lv_iload_n hx hb d_LN_clear_1 rfl (lv_at hl 1 rfl) ?_
  refine mk_r1 (W.runV (As := [.int (nI 1)]) (rest := []) S (c_LN_row1 l dC dI cI x f0 f1 h hp hs) (gV 1 hts k_111 k_113 k_0 k_24 k_114 (by decide +kernel) ⟨Nat.le_of_ble_eq_true rfl, Nat.le_of_ble_eq_true rfl⟩) (mk_vR hP hK hT hS [0] rfl (q0 := 0) (ci := 0) rfl rfl) rfl rfl hl.1 rfl (lv_room (Nat.le_of_ble_eq_true rfl)) d_LN_clear_2 ⟨Nat.zero_le _, Nat.zero_le _⟩) ?_
  refine lv_astore_n (lv' := [(2, .ref f1), (0, .ref x), (1, .int (nI 1))]) hx hb d_LN_clear_5 rfl hl (by decide) rfl (fun ls hl => ?_)
  refine lv_aload_n hx hb d_LN_clear_6 rfl (lv_at hl 0 rfl) ?_
  refine lv_ifnonnull (tgt := 12) hx hb d_LN_clear_7 (by decide) ?_
  refine lv_aload_n hx hb d_LN_clear_12 rfl (lv_at hl 0 rfl) ?_
  refine mk_r1 (W.runV (As := []) (rest := []) S (c_Ro_size l dC dI cI f1 a1 n1 v1) (gV 0 hts k_124 k_125 k_126 k_25 k_127 (by decide +kernel) ⟨Nat.le_of_ble_eq_true rfl, Nat.le_of_ble_eq_true rfl⟩) (mk_vR hP hK hT hS [3, 4] rfl (q0 := 3) (ci := 1) rfl rfl) rfl rfl hl.1 rfl (lv_room (Nat.le_of_ble_eq_true rfl)) d_LN_clear_13 ⟨Nat.zero_le _, Nat.zero_le _⟩) ?_
  refine lv_istore_n (lv' := [(3, .int (nI n1)), (2, .ref f1), (0, .ref x), (1, .int (nI 1))]) hx hb d_LN_clear_16 rfl hl (by decide) rfl (fun ls hl => ?_)
  refine lv_aload_n hx hb d_LN_clear_17 rfl (lv_at hl 1 rfl) ?_
  refine mk_w0 (wr := [(x, .inr (0, [.ref f0, .ref f1, .ref h, .ref hp, .ref hs])), (f0, .inr (1, [.ref a0, .int (nI n0)])), (a0, .inl (cI, 255, .inl (nf v0))), (h, .inr (2, [.ref a])), (a, .inl (cI, 11, .inl (nf b))), (hp, .inr (3, [.ref ap])), (ap, .inl (cI, 32, .inl (nf pb))), (hs, .inr (4, [.ref as])), (as, .inl (cI, 1024, .inl (nf B)))]) (W.runV (As := []) (rest := []) S ((c_Ro_empty l dC dI cI f1 a1 n1 v1) _) (gV 0 hts k_128 k_129 k_130 k_25 k_131 (by decide +kernel) ⟨Nat.le_of_ble_eq_true rfl, Nat.le_of_ble_eq_true rfl⟩) (mk_vM hP hD hK hT hS hA [3, 4] rfl rfl (by decide) (q0 := 3) (ci := 1) rfl rfl) rfl rfl hl.1 rfl (lv_room (Nat.le_of_ble_eq_true rfl)) d_LN_clear_18 ⟨Nat.zero_le _, Nat.zero_le _⟩) hP hD hS hA [3, 4] [0, 1, 2, 5, 6, 7, 8, 9, 10] rfl rfl (by decide) (by decide) (fun H locs hP hD hS => ?_)
  have hP : va_P (dC, dI) vwCl [(x, .inr (0, [.ref f0, .ref f1, .ref h, .ref hp, .ref hs])), (f0, .inr (1, [.ref a0, .int (nI n0)])), (a0, .inl (cI, 255, .inl (nf v0))), (f1, .inr (1, [.ref a1, .int (nI 0)])), (a1, .inl (cI, 255, .inl (nf v1))), (h, .inr (2, [.ref a])), (a, .inl (cI, 11, .inl (nf b))), (hp, .inr (3, [.ref ap])), (ap, .inl (cI, 32, .inl (nf pb))), (hs, .inr (4, [.ref as])), (as, .inl (cI, 1024, .inl (nf B)))] H := hP.sub [0, 1, 2, 9, 10, 3, 4, 5, 6, 7, 8] rfl
  have hD : va_D A [(x, .inr (0, [.ref f0, .ref f1, .ref h, .ref hp, .ref hs])), (f0, .inr (1, [.ref a0, .int (nI n0)])), (a0, .inl (cI, 255, .inl (nf v0))), (f1, .inr (1, [.ref a1, .int (nI 0)])), (a1, .inl (cI, 255, .inl (nf v1))), (h, .inr (2, [.ref a])), (a, .inl (cI, 11, .inl (nf b))), (hp, .inr (3, [.ref ap])), (ap, .inl (cI, 32, .inl (nf pb))), (hs, .inr (4, [.ref as])), (as, .inl (cI, 1024, .inl (nf B)))] := hD.sub [0, 1, 2, 9, 10, 3, 4, 5, 6, 7, 8] (by decide) rfl
  refine lv_iload_n hx hb d_LN_clear_21 rfl (lv_at hl 0 rfl) ?_
  exact hret _ _ _ _ d_LN_clear_22 hP hD hS

set_option maxHeartbeats 4000000 in
set_option maxRecDepth 100000 in
theorem c_LN_about10 (l : Launch) (dC : Nat → ClassId) (dI : Nat → Nat → Nat) (cI : ClassId) (x f0 a0 n0 : Nat) (v0 : Nat → Nat) (f1 a1 n1 : Nat) (v1 : Nat → Nat) (h a : Nat) (b : Nat → Nat) (hp ap : Nat) (pb : Nat → Nat) (hs as : Nat) (B : Nat → Nat) (hn0 : n0 ≤ 255) (hv0 : ∀ j, v0 j < 65536) (hn1 : n1 ≤ 255) (hv1 : ∀ j, v1 j < 65536) (hb9 : ∀ j, b j < 65536) (hpb : ∀ j, pb j < 65536) (hB : ∀ j, B j < 256)  : mR l y_LN_about w_LN_about ({ frames := 1, cells := 0, slots := 0, locals := 21 } : Room) [.ref x, .int (nI 1), .int (nI 0)] (dC, dI) vwCl [(cI, .int)] [(x, .inr (0, [.ref f0, .ref f1, .ref h, .ref hp, .ref hs])), (f0, .inr (1, [.ref a0, .int (nI n0)])), (a0, .inl (cI, 255, .inl (nf v0))), (f1, .inr (1, [.ref a1, .int (nI n1)])), (a1, .inl (cI, 255, .inl (nf v1))), (h, .inr (2, [.ref a])), (a, .inl (cI, 11, .inl (nf b))), (hp, .inr (3, [.ref ap])), (ap, .inl (cI, 32, .inl (nf pb))), (hs, .inr (4, [.ref as])), (as, .inl (cI, 1024, .inl (nf B)))] (some (.int (nI n1))) := by
  refine mk_Ri (cc := b_LN_about) (maxL := 4) (by decide) rfl (Nat.le_of_ble_eq_true rfl) rfl ?_
  intro p e s m below meth c Q A ls S hP hK hT hS hl hret
  obtain ⟨hx, hb, hml, hown, hts⟩ := id S
  have hl : lv_has ls 4 [(0, .ref x), (1, .int (nI 1)), (2, .int (nI 0))] := hl
  refine lv_aload_n hx hb d_LN_about_0 rfl (lv_at hl 0 rfl) ?_
  refine lv_iload_n hx hb d_LN_about_1 rfl (lv_at hl 1 rfl) ?_
  refine mk_r1 (W.runV (As := [.int (nI 1)]) (rest := []) S (c_LN_row1 l dC dI cI x f0 f1 h hp hs) (gV 1 hts k_111 k_113 k_0 k_24 k_114 (by decide +kernel) ⟨Nat.le_of_ble_eq_true rfl, Nat.le_of_ble_eq_true rfl⟩) (mk_vR hP hK hT hS [0] rfl (q0 := 0) (ci := 0) rfl rfl) rfl rfl hl.1 rfl (lv_room (Nat.le_of_ble_eq_true rfl)) d_LN_about_2 ⟨Nat.zero_le _, Nat.zero_le _⟩) ?_
  refine lv_astore_n (lv' := [(3, .ref f1), (0, .ref x), (1, .int (nI 1)), (2, .int (nI 0))]) hx hb d_LN_about_5 rfl hl (by decide) rfl (fun ls hl => ?_)
  refine lv_aload_n hx hb d_LN_about_6 rfl (lv_at hl 0 rfl) ?_
  refine lv_ifnonnull (tgt := 12) hx hb d_LN_about_7 (by decide) ?_
  refine lv_iload_n hx hb d_LN_about_12 rfl (lv_at hl 3 rfl) ?_
  refine lv_tableIn (tgt := 48) (off := 35) hx hb d_LN_about_13 (by decide) (by decide) (by rfl) (by decide) ?_
  refine lv_aload_n hx hb d_LN_about_48 rfl (lv_at hl 0 rfl) ?_
  refine mk_r1 (W.runV (As := []) (rest := []) S (c_Ro_size l dC dI cI f1 a1 n1 v1) (gV 0 hts k_124 k_125 k_126 k_25 k_127 (by decide +kernel) ⟨Nat.le_of_ble_eq_true rfl, Nat.le_of_ble_eq_true rfl⟩) (mk_vR hP hK hT hS [3, 4] rfl (q0 := 3) (ci := 1) rfl rfl) rfl rfl hl.1 rfl (lv_room (Nat.le_of_ble_eq_true rfl)) d_LN_about_49 ⟨Nat.zero_le _, Nat.zero_le _⟩) ?_
  exact hret _ _ d_LN_about_52

set_option maxHeartbeats 4000000 in
set_option maxRecDepth 100000 in
theorem c_LN_about11 (l : Launch) (dC : Nat → ClassId) (dI : Nat → Nat → Nat) (cI : ClassId) (x f0 a0 n0 : Nat) (v0 : Nat → Nat) (f1 a1 n1 : Nat) (v1 : Nat → Nat) (h a : Nat) (b : Nat → Nat) (hp ap : Nat) (pb : Nat → Nat) (hs as : Nat) (B : Nat → Nat) (hn0 : n0 ≤ 255) (hv0 : ∀ j, v0 j < 65536) (hn1 : n1 ≤ 255) (hv1 : ∀ j, v1 j < 65536) (hb9 : ∀ j, b j < 65536) (hpb : ∀ j, pb j < 65536) (hB : ∀ j, B j < 256)  : mR l y_LN_about w_LN_about ({ frames := 2, cells := 0, slots := 0, locals := 42 } : Room) [.ref x, .int (nI 1), .int (nI 1)] (dC, dI) vwCl [(cI, .int)] [(x, .inr (0, [.ref f0, .ref f1, .ref h, .ref hp, .ref hs])), (f0, .inr (1, [.ref a0, .int (nI n0)])), (a0, .inl (cI, 255, .inl (nf v0))), (f1, .inr (1, [.ref a1, .int (nI n1)])), (a1, .inl (cI, 255, .inl (nf v1))), (h, .inr (2, [.ref a])), (a, .inl (cI, 11, .inl (nf b))), (hp, .inr (3, [.ref ap])), (ap, .inl (cI, 32, .inl (nf pb))), (hs, .inr (4, [.ref as])), (as, .inl (cI, 1024, .inl (nf B)))] (some (.int (bI (nameN v1 n1)))) := by
  refine mk_Ri (cc := b_LN_about) (maxL := 4) (by decide) rfl (Nat.le_of_ble_eq_true rfl) rfl ?_
  intro p e s m below meth c Q A ls S hP hK hT hS hl hret
  obtain ⟨hx, hb, hml, hown, hts⟩ := id S
  have hl : lv_has ls 4 [(0, .ref x), (1, .int (nI 1)), (2, .int (nI 1))] := hl
  refine lv_aload_n hx hb d_LN_about_0 rfl (lv_at hl 0 rfl) ?_
  refine lv_iload_n hx hb d_LN_about_1 rfl (lv_at hl 1 rfl) ?_
  refine mk_r1 (W.runV (As := [.int (nI 1)]) (rest := []) S (c_LN_row1 l dC dI cI x f0 f1 h hp hs) (gV 1 hts k_111 k_113 k_0 k_24 k_114 (by decide +kernel) ⟨Nat.le_of_ble_eq_true rfl, Nat.le_of_ble_eq_true rfl⟩) (mk_vR hP hK hT hS [0] rfl (q0 := 0) (ci := 0) rfl rfl) rfl rfl hl.1 rfl (lv_room (Nat.le_of_ble_eq_true rfl)) d_LN_about_2 ⟨Nat.zero_le _, Nat.zero_le _⟩) ?_
  refine lv_astore_n (lv' := [(3, .ref f1), (0, .ref x), (1, .int (nI 1)), (2, .int (nI 1))]) hx hb d_LN_about_5 rfl hl (by decide) rfl (fun ls hl => ?_)
  refine lv_aload_n hx hb d_LN_about_6 rfl (lv_at hl 0 rfl) ?_
  refine lv_ifnonnull (tgt := 12) hx hb d_LN_about_7 (by decide) ?_
  refine lv_iload_n hx hb d_LN_about_12 rfl (lv_at hl 3 rfl) ?_
  refine lv_tableIn (tgt := 53) (off := 40) hx hb d_LN_about_13 (by decide) (by decide) (by rfl) (by decide) ?_
  refine lv_aload_n hx hb d_LN_about_53 rfl (lv_at hl 0 rfl) ?_
  refine mk_r1 (W.runV (As := []) (rest := []) S (c_Ro_name l dC dI cI f1 a1 n1 v1 (by first | assumption | omega) (by first | assumption | omega)) (gV 0 hts k_136 k_137 k_138 k_25 k_139 (by decide +kernel) ⟨Nat.le_of_ble_eq_true rfl, Nat.le_of_ble_eq_true rfl⟩) (mk_vR hP hK hT hS [3, 4] rfl (q0 := 3) (ci := 1) rfl rfl) rfl rfl hl.1 rfl (lv_room (Nat.le_of_ble_eq_true rfl)) d_LN_about_54 ⟨Nat.zero_le _, Nat.zero_le _⟩) ?_
  refine lv_if_eq (tgt := 64) hx hb d_LN_about_57 (by decide) (fun c_1 => ?_) (fun c_1 => ?_)
  · skip
    have c_1 := bI_0 c_1
    refine lv_iconst (v := nI 0) hx hb d_LN_about_64 (by decide) ?_
    exact mk_ti (by exact mk_bf (by assumption)) (hret _ _ d_LN_about_65)
  · skip
    have c_1 := bI_1 c_1
    refine lv_iconst (v := nI 1) hx hb d_LN_about_60 (by decide) ?_
    refine lv_goto (tgt := 65) hx hb d_LN_about_61 (by decide) ?_
    exact mk_ti (by exact mk_bt (by assumption)) (hret _ _ d_LN_about_65)

set_option maxHeartbeats 4000000 in
set_option maxRecDepth 100000 in
theorem c_LN_about12 (l : Launch) (dC : Nat → ClassId) (dI : Nat → Nat → Nat) (cI : ClassId) (x f0 a0 n0 : Nat) (v0 : Nat → Nat) (f1 a1 n1 : Nat) (v1 : Nat → Nat) (h a : Nat) (b : Nat → Nat) (hp ap : Nat) (pb : Nat → Nat) (hs as : Nat) (B : Nat → Nat) (hn0 : n0 ≤ 255) (hv0 : ∀ j, v0 j < 65536) (hn1 : n1 ≤ 255) (hv1 : ∀ j, v1 j < 65536) (hb9 : ∀ j, b j < 65536) (hpb : ∀ j, pb j < 65536) (hB : ∀ j, B j < 256)  : mR l y_LN_about w_LN_about ({ frames := 3, cells := 0, slots := 0, locals := 66 } : Room) [.ref x, .int (nI 1), .int (nI 2)] (dC, dI) vwCl [(cI, .int)] [(x, .inr (0, [.ref f0, .ref f1, .ref h, .ref hp, .ref hs])), (f0, .inr (1, [.ref a0, .int (nI n0)])), (a0, .inl (cI, 255, .inl (nf v0))), (f1, .inr (1, [.ref a1, .int (nI n1)])), (a1, .inl (cI, 255, .inl (nf v1))), (h, .inr (2, [.ref a])), (a, .inl (cI, 11, .inl (nf b))), (hp, .inr (3, [.ref ap])), (ap, .inl (cI, 32, .inl (nf pb))), (hs, .inr (4, [.ref as])), (as, .inl (cI, 1024, .inl (nf B)))] (some (.int (bI (shortN v1 n1)))) := by
  refine mk_Ri (cc := b_LN_about) (maxL := 4) (by decide) rfl (Nat.le_of_ble_eq_true rfl) rfl ?_
  intro p e s m below meth c Q A ls S hP hK hT hS hl hret
  obtain ⟨hx, hb, hml, hown, hts⟩ := id S
  have hl : lv_has ls 4 [(0, .ref x), (1, .int (nI 1)), (2, .int (nI 2))] := hl
  refine lv_aload_n hx hb d_LN_about_0 rfl (lv_at hl 0 rfl) ?_
  refine lv_iload_n hx hb d_LN_about_1 rfl (lv_at hl 1 rfl) ?_
  refine mk_r1 (W.runV (As := [.int (nI 1)]) (rest := []) S (c_LN_row1 l dC dI cI x f0 f1 h hp hs) (gV 1 hts k_111 k_113 k_0 k_24 k_114 (by decide +kernel) ⟨Nat.le_of_ble_eq_true rfl, Nat.le_of_ble_eq_true rfl⟩) (mk_vR hP hK hT hS [0] rfl (q0 := 0) (ci := 0) rfl rfl) rfl rfl hl.1 rfl (lv_room (Nat.le_of_ble_eq_true rfl)) d_LN_about_2 ⟨Nat.zero_le _, Nat.zero_le _⟩) ?_
  refine lv_astore_n (lv' := [(3, .ref f1), (0, .ref x), (1, .int (nI 1)), (2, .int (nI 2))]) hx hb d_LN_about_5 rfl hl (by decide) rfl (fun ls hl => ?_)
  refine lv_aload_n hx hb d_LN_about_6 rfl (lv_at hl 0 rfl) ?_
  refine lv_ifnonnull (tgt := 12) hx hb d_LN_about_7 (by decide) ?_
  refine lv_iload_n hx hb d_LN_about_12 rfl (lv_at hl 3 rfl) ?_
  refine lv_tableIn (tgt := 66) (off := 53) hx hb d_LN_about_13 (by decide) (by decide) (by rfl) (by decide) ?_
  refine lv_aload_n hx hb d_LN_about_66 rfl (lv_at hl 0 rfl) ?_
  refine mk_r1 (W.runV (As := []) (rest := []) S (c_Ro_short l dC dI cI f1 a1 n1 v1 (by first | assumption | omega) (by first | assumption | omega)) (gV 0 hts k_150 k_151 k_152 k_25 k_153 (by decide +kernel) ⟨Nat.le_of_ble_eq_true rfl, Nat.le_of_ble_eq_true rfl⟩) (mk_vR hP hK hT hS [3, 4] rfl (q0 := 3) (ci := 1) rfl rfl) rfl rfl hl.1 rfl (lv_room (Nat.le_of_ble_eq_true rfl)) d_LN_about_67 ⟨Nat.zero_le _, Nat.zero_le _⟩) ?_
  refine lv_if_eq (tgt := 77) hx hb d_LN_about_70 (by decide) (fun c_1 => ?_) (fun c_1 => ?_)
  · skip
    have c_1 := bI_0 c_1
    refine lv_iconst (v := nI 0) hx hb d_LN_about_77 (by decide) ?_
    exact mk_ti (by exact mk_bf (by assumption)) (hret _ _ d_LN_about_78)
  · skip
    have c_1 := bI_1 c_1
    refine lv_iconst (v := nI 1) hx hb d_LN_about_73 (by decide) ?_
    refine lv_goto (tgt := 78) hx hb d_LN_about_74 (by decide) ?_
    exact mk_ti (by exact mk_bt (by assumption)) (hret _ _ d_LN_about_78)

set_option maxHeartbeats 4000000 in
set_option maxRecDepth 100000 in
theorem c_LN_about13 (l : Launch) (dC : Nat → ClassId) (dI : Nat → Nat → Nat) (cI : ClassId) (x f0 a0 n0 : Nat) (v0 : Nat → Nat) (f1 a1 n1 : Nat) (v1 : Nat → Nat) (h a : Nat) (b : Nat → Nat) (hp ap : Nat) (pb : Nat → Nat) (hs as : Nat) (B : Nat → Nat) (hn0 : n0 ≤ 255) (hv0 : ∀ j, v0 j < 65536) (hn1 : n1 ≤ 255) (hv1 : ∀ j, v1 j < 65536) (hb9 : ∀ j, b j < 65536) (hpb : ∀ j, pb j < 65536) (hB : ∀ j, B j < 256)  : mR l y_LN_about w_LN_about ({ frames := 1, cells := 0, slots := 0, locals := 21 } : Room) [.ref x, .int (nI 1), .int (nI 3)] (dC, dI) vwCl [(cI, .int)] [(x, .inr (0, [.ref f0, .ref f1, .ref h, .ref hp, .ref hs])), (f0, .inr (1, [.ref a0, .int (nI n0)])), (a0, .inl (cI, 255, .inl (nf v0))), (f1, .inr (1, [.ref a1, .int (nI n1)])), (a1, .inl (cI, 255, .inl (nf v1))), (h, .inr (2, [.ref a])), (a, .inl (cI, 11, .inl (nf b))), (hp, .inr (3, [.ref ap])), (ap, .inl (cI, 32, .inl (nf pb))), (hs, .inr (4, [.ref as])), (as, .inl (cI, 1024, .inl (nf B)))] (some (.int (nI (pnN n1)))) := by
  refine mk_Ri (cc := b_LN_about) (maxL := 4) (by decide) rfl (Nat.le_of_ble_eq_true rfl) rfl ?_
  intro p e s m below meth c Q A ls S hP hK hT hS hl hret
  obtain ⟨hx, hb, hml, hown, hts⟩ := id S
  have hl : lv_has ls 4 [(0, .ref x), (1, .int (nI 1)), (2, .int (nI 3))] := hl
  refine lv_aload_n hx hb d_LN_about_0 rfl (lv_at hl 0 rfl) ?_
  refine lv_iload_n hx hb d_LN_about_1 rfl (lv_at hl 1 rfl) ?_
  refine mk_r1 (W.runV (As := [.int (nI 1)]) (rest := []) S (c_LN_row1 l dC dI cI x f0 f1 h hp hs) (gV 1 hts k_111 k_113 k_0 k_24 k_114 (by decide +kernel) ⟨Nat.le_of_ble_eq_true rfl, Nat.le_of_ble_eq_true rfl⟩) (mk_vR hP hK hT hS [0] rfl (q0 := 0) (ci := 0) rfl rfl) rfl rfl hl.1 rfl (lv_room (Nat.le_of_ble_eq_true rfl)) d_LN_about_2 ⟨Nat.zero_le _, Nat.zero_le _⟩) ?_
  refine lv_astore_n (lv' := [(3, .ref f1), (0, .ref x), (1, .int (nI 1)), (2, .int (nI 3))]) hx hb d_LN_about_5 rfl hl (by decide) rfl (fun ls hl => ?_)
  refine lv_aload_n hx hb d_LN_about_6 rfl (lv_at hl 0 rfl) ?_
  refine lv_ifnonnull (tgt := 12) hx hb d_LN_about_7 (by decide) ?_
  refine lv_iload_n hx hb d_LN_about_12 rfl (lv_at hl 3 rfl) ?_
  refine lv_tableIn (tgt := 79) (off := 66) hx hb d_LN_about_13 (by decide) (by decide) (by rfl) (by decide) ?_
  refine lv_aload_n hx hb d_LN_about_79 rfl (lv_at hl 0 rfl) ?_
  refine mk_r1 (W.runV (As := []) (rest := []) S (c_Ro_parts l dC dI cI f1 a1 n1 v1 (by first | assumption | omega)) (gV 0 hts k_161 k_162 k_163 k_25 k_164 (by decide +kernel) ⟨Nat.le_of_ble_eq_true rfl, Nat.le_of_ble_eq_true rfl⟩) (mk_vR hP hK hT hS [3, 4] rfl (q0 := 3) (ci := 1) rfl rfl) rfl rfl hl.1 rfl (lv_room (Nat.le_of_ble_eq_true rfl)) d_LN_about_80 ⟨Nat.zero_le _, Nat.zero_le _⟩) ?_
  have b_1 := pnN_le (show n1 ≤ 255 by omega)
  exact hret _ _ d_LN_about_83

set_option maxHeartbeats 4000000 in
set_option maxRecDepth 100000 in
theorem c_LN_about14 (l : Launch) (dC : Nat → ClassId) (dI : Nat → Nat → Nat) (cI : ClassId) (x f0 a0 n0 : Nat) (v0 : Nat → Nat) (f1 a1 n1 : Nat) (v1 : Nat → Nat) (h a : Nat) (b : Nat → Nat) (hp ap : Nat) (pb : Nat → Nat) (hs as : Nat) (B : Nat → Nat) (hn0 : n0 ≤ 255) (hv0 : ∀ j, v0 j < 65536) (hn1 : n1 ≤ 255) (hv1 : ∀ j, v1 j < 65536) (hb9 : ∀ j, b j < 65536) (hpb : ∀ j, pb j < 65536) (hB : ∀ j, B j < 256)  : mR l y_LN_about w_LN_about ({ frames := 2, cells := 0, slots := 0, locals := 43 } : Room) [.ref x, .int (nI 1), .int (nI 4)] (dC, dI) vwCl [(cI, .int)] [(x, .inr (0, [.ref f0, .ref f1, .ref h, .ref hp, .ref hs])), (f0, .inr (1, [.ref a0, .int (nI n0)])), (a0, .inl (cI, 255, .inl (nf v0))), (f1, .inr (1, [.ref a1, .int (nI n1)])), (a1, .inl (cI, 255, .inl (nf v1))), (h, .inr (2, [.ref a])), (a, .inl (cI, 11, .inl (nf b))), (hp, .inr (3, [.ref ap])), (ap, .inl (cI, 32, .inl (nf pb))), (hs, .inr (4, [.ref as])), (as, .inl (cI, 1024, .inl (nf B)))] (some (.int (nI (esN v1 n1)))) := by
  refine mk_Ri (cc := b_LN_about) (maxL := 4) (by decide) rfl (Nat.le_of_ble_eq_true rfl) rfl ?_
  intro p e s m below meth c Q A ls S hP hK hT hS hl hret
  obtain ⟨hx, hb, hml, hown, hts⟩ := id S
  have hl : lv_has ls 4 [(0, .ref x), (1, .int (nI 1)), (2, .int (nI 4))] := hl
  refine lv_aload_n hx hb d_LN_about_0 rfl (lv_at hl 0 rfl) ?_
  refine lv_iload_n hx hb d_LN_about_1 rfl (lv_at hl 1 rfl) ?_
  refine mk_r1 (W.runV (As := [.int (nI 1)]) (rest := []) S (c_LN_row1 l dC dI cI x f0 f1 h hp hs) (gV 1 hts k_111 k_113 k_0 k_24 k_114 (by decide +kernel) ⟨Nat.le_of_ble_eq_true rfl, Nat.le_of_ble_eq_true rfl⟩) (mk_vR hP hK hT hS [0] rfl (q0 := 0) (ci := 0) rfl rfl) rfl rfl hl.1 rfl (lv_room (Nat.le_of_ble_eq_true rfl)) d_LN_about_2 ⟨Nat.zero_le _, Nat.zero_le _⟩) ?_
  refine lv_astore_n (lv' := [(3, .ref f1), (0, .ref x), (1, .int (nI 1)), (2, .int (nI 4))]) hx hb d_LN_about_5 rfl hl (by decide) rfl (fun ls hl => ?_)
  refine lv_aload_n hx hb d_LN_about_6 rfl (lv_at hl 0 rfl) ?_
  refine lv_ifnonnull (tgt := 12) hx hb d_LN_about_7 (by decide) ?_
  refine lv_iload_n hx hb d_LN_about_12 rfl (lv_at hl 3 rfl) ?_
  refine lv_tableIn (tgt := 84) (off := 71) hx hb d_LN_about_13 (by decide) (by decide) (by rfl) (by decide) ?_
  refine lv_aload_n hx hb d_LN_about_84 rfl (lv_at hl 0 rfl) ?_
  refine mk_r1 (W.runV (As := []) (rest := []) S (c_Ro_es l dC dI cI f1 a1 n1 v1 (by first | assumption | omega) (by first | assumption | omega)) (gV 0 hts k_165 k_166 k_167 k_25 k_168 (by decide +kernel) ⟨Nat.le_of_ble_eq_true rfl, Nat.le_of_ble_eq_true rfl⟩) (mk_vR hP hK hT hS [3, 4] rfl (q0 := 3) (ci := 1) rfl rfl) rfl rfl hl.1 rfl (lv_room (Nat.le_of_ble_eq_true rfl)) d_LN_about_85 ⟨Nat.zero_le _, Nat.zero_le _⟩) ?_
  exact hret _ _ d_LN_about_88

set_option maxHeartbeats 4000000 in
set_option maxRecDepth 100000 in
theorem c_LN_about1x (l : Launch) (dC : Nat → ClassId) (dI : Nat → Nat → Nat) (cI : ClassId) (x f0 a0 n0 : Nat) (v0 : Nat → Nat) (f1 a1 n1 : Nat) (v1 : Nat → Nat) (h a : Nat) (b : Nat → Nat) (hp ap : Nat) (pb : Nat → Nat) (hs as : Nat) (B : Nat → Nat) (w : Int32) (hn0 : n0 ≤ 255) (hv0 : ∀ j, v0 j < 65536) (hn1 : n1 ≤ 255) (hv1 : ∀ j, v1 j < 65536) (hb9 : ∀ j, b j < 65536) (hpb : ∀ j, pb j < 65536) (hB : ∀ j, B j < 256) (hw : w < 0 ∨ nI 4 < w) : mR l y_LN_about w_LN_about ({ frames := 1, cells := 0, slots := 0, locals := 21 } : Room) [.ref x, .int (nI 1), .int w] (dC, dI) vwCl [(cI, .int)] [(x, .inr (0, [.ref f0, .ref f1, .ref h, .ref hp, .ref hs])), (f0, .inr (1, [.ref a0, .int (nI n0)])), (a0, .inl (cI, 255, .inl (nf v0))), (f1, .inr (1, [.ref a1, .int (nI n1)])), (a1, .inl (cI, 255, .inl (nf v1))), (h, .inr (2, [.ref a])), (a, .inl (cI, 11, .inl (nf b))), (hp, .inr (3, [.ref ap])), (ap, .inl (cI, 32, .inl (nf pb))), (hs, .inr (4, [.ref as])), (as, .inl (cI, 1024, .inl (nf B)))] (some (.int (-1))) := by
  refine mk_Ri (cc := b_LN_about) (maxL := 4) (by decide) rfl (Nat.le_of_ble_eq_true rfl) rfl ?_
  intro p e s m below meth c Q A ls S hP hK hT hS hl hret
  obtain ⟨hx, hb, hml, hown, hts⟩ := id S
  have hl : lv_has ls 4 [(0, .ref x), (1, .int (nI 1)), (2, .int w)] := hl
  refine lv_aload_n hx hb d_LN_about_0 rfl (lv_at hl 0 rfl) ?_
  refine lv_iload_n hx hb d_LN_about_1 rfl (lv_at hl 1 rfl) ?_
  refine mk_r1 (W.runV (As := [.int (nI 1)]) (rest := []) S (c_LN_row1 l dC dI cI x f0 f1 h hp hs) (gV 1 hts k_111 k_113 k_0 k_24 k_114 (by decide +kernel) ⟨Nat.le_of_ble_eq_true rfl, Nat.le_of_ble_eq_true rfl⟩) (mk_vR hP hK hT hS [0] rfl (q0 := 0) (ci := 0) rfl rfl) rfl rfl hl.1 rfl (lv_room (Nat.le_of_ble_eq_true rfl)) d_LN_about_2 ⟨Nat.zero_le _, Nat.zero_le _⟩) ?_
  refine lv_astore_n (lv' := [(3, .ref f1), (0, .ref x), (1, .int (nI 1)), (2, .int w)]) hx hb d_LN_about_5 rfl hl (by decide) rfl (fun ls hl => ?_)
  refine lv_aload_n hx hb d_LN_about_6 rfl (lv_at hl 0 rfl) ?_
  refine lv_ifnonnull (tgt := 12) hx hb d_LN_about_7 (by decide) ?_
  refine lv_iload_n hx hb d_LN_about_12 rfl (lv_at hl 3 rfl) ?_
  refine lv_tableOut (tgt := 89) hx hb d_LN_about_13 (mk_tout hw (by decide)) (by decide) ?_
  refine lv_iconst (v := (-1)) hx hb d_LN_about_89 (by decide) ?_
  exact hret _ _ d_LN_about_90

set_option maxHeartbeats 4000000 in
set_option maxRecDepth 100000 in
theorem c_LN_letter1 (l : Launch) (dC : Nat → ClassId) (dI : Nat → Nat → Nat) (cI : ClassId) (x f0 a0 n0 : Nat) (v0 : Nat → Nat) (f1 a1 n1 : Nat) (v1 : Nat → Nat) (h a : Nat) (b : Nat → Nat) (hp ap : Nat) (pb : Nat → Nat) (hs as : Nat) (B : Nat → Nat) (t : Nat) (hn0 : n0 ≤ 255) (hv0 : ∀ j, v0 j < 65536) (hn1 : n1 ≤ 255) (hv1 : ∀ j, v1 j < 65536) (hb9 : ∀ j, b j < 65536) (hpb : ∀ j, pb j < 65536) (hB : ∀ j, B j < 256) (ht : t < 2 ^ 31) : mR l y_LN_letter w_LN_letter ({ frames := 3, cells := 0, slots := 0, locals := 67 } : Room) [.ref x, .int (nI 1), .int (nI t)] (dC, dI) vwCl [(cI, .int)] [(x, .inr (0, [.ref f0, .ref f1, .ref h, .ref hp, .ref hs])), (f0, .inr (1, [.ref a0, .int (nI n0)])), (a0, .inl (cI, 255, .inl (nf v0))), (f1, .inr (1, [.ref a1, .int (nI n1)])), (a1, .inl (cI, 255, .inl (nf v1))), (h, .inr (2, [.ref a])), (a, .inl (cI, 11, .inl (nf b))), (hp, .inr (3, [.ref ap])), (ap, .inl (cI, 32, .inl (nf pb))), (hs, .inr (4, [.ref as])), (as, .inl (cI, 1024, .inl (nf B)))] (some (.int (ebL v1 n1 0 t))) := by
  refine mk_Ri (cc := b_LN_letter) (maxL := 4) (by decide) rfl (Nat.le_of_ble_eq_true rfl) rfl ?_
  intro p e s m below meth c Q A ls S hP hK hT hS hl hret
  obtain ⟨hx, hb, hml, hown, hts⟩ := id S
  have hl : lv_has ls 4 [(0, .ref x), (1, .int (nI 1)), (2, .int (nI t))] := hl
  refine lv_aload_n hx hb d_LN_letter_0 rfl (lv_at hl 0 rfl) ?_
  refine lv_iload_n hx hb d_LN_letter_1 rfl (lv_at hl 1 rfl) ?_
  refine mk_r1 (W.runV (As := [.int (nI 1)]) (rest := []) S (c_LN_row1 l dC dI cI x f0 f1 h hp hs) (gV 1 hts k_111 k_113 k_0 k_24 k_114 (by decide +kernel) ⟨Nat.le_of_ble_eq_true rfl, Nat.le_of_ble_eq_true rfl⟩) (mk_vR hP hK hT hS [0] rfl (q0 := 0) (ci := 0) rfl rfl) rfl rfl hl.1 rfl (lv_room (Nat.le_of_ble_eq_true rfl)) d_LN_letter_2 ⟨Nat.zero_le _, Nat.zero_le _⟩) ?_
  refine lv_astore_n (lv' := [(3, .ref f1), (0, .ref x), (1, .int (nI 1)), (2, .int (nI t))]) hx hb d_LN_letter_5 rfl hl (by decide) rfl (fun ls hl => ?_)
  refine lv_aload_n hx hb d_LN_letter_6 rfl (lv_at hl 0 rfl) ?_
  refine lv_ifnonnull (tgt := 14) hx hb d_LN_letter_7 (by decide) ?_
  refine lv_aload_n hx hb d_LN_letter_14 rfl (lv_at hl 0 rfl) ?_
  refine lv_iload_n hx hb d_LN_letter_15 rfl (lv_at hl 3 rfl) ?_
  refine mk_r1 (W.runV (As := [.int (nI t)]) (rest := []) S (c_Ro_ebN l dC dI cI f1 a1 n1 v1 t (by first | assumption | omega) (by first | assumption | omega) (by first | assumption | omega)) (gV 1 hts k_176 k_177 k_178 k_25 k_179 (by decide +kernel) ⟨Nat.le_of_ble_eq_true rfl, Nat.le_of_ble_eq_true rfl⟩) (mk_vR hP hK hT hS [3, 4] rfl (q0 := 3) (ci := 1) rfl rfl) rfl rfl hl.1 rfl (lv_room (Nat.le_of_ble_eq_true rfl)) d_LN_letter_16 ⟨Nat.zero_le _, Nat.zero_le _⟩) ?_
  exact hret _ _ d_LN_letter_19

set_option maxHeartbeats 4000000 in
set_option maxRecDepth 100000 in
theorem c_LN_letter1x (l : Launch) (dC : Nat → ClassId) (dI : Nat → Nat → Nat) (cI : ClassId) (x f0 a0 n0 : Nat) (v0 : Nat → Nat) (f1 a1 n1 : Nat) (v1 : Nat → Nat) (h a : Nat) (b : Nat → Nat) (hp ap : Nat) (pb : Nat → Nat) (hs as : Nat) (B : Nat → Nat) (t : Int32) (hn0 : n0 ≤ 255) (hv0 : ∀ j, v0 j < 65536) (hn1 : n1 ≤ 255) (hv1 : ∀ j, v1 j < 65536) (hb9 : ∀ j, b j < 65536) (hpb : ∀ j, pb j < 65536) (hB : ∀ j, B j < 256) (ht : t < 0) : mR l y_LN_letter w_LN_letter ({ frames := 1, cells := 0, slots := 0, locals := 24 } : Room) [.ref x, .int (nI 1), .int t] (dC, dI) vwCl [(cI, .int)] [(x, .inr (0, [.ref f0, .ref f1, .ref h, .ref hp, .ref hs])), (f0, .inr (1, [.ref a0, .int (nI n0)])), (a0, .inl (cI, 255, .inl (nf v0))), (f1, .inr (1, [.ref a1, .int (nI n1)])), (a1, .inl (cI, 255, .inl (nf v1))), (h, .inr (2, [.ref a])), (a, .inl (cI, 11, .inl (nf b))), (hp, .inr (3, [.ref ap])), (ap, .inl (cI, 32, .inl (nf pb))), (hs, .inr (4, [.ref as])), (as, .inl (cI, 1024, .inl (nf B)))] (some (.int (-1))) := by
  refine mk_Ri (cc := b_LN_letter) (maxL := 4) (by decide) rfl (Nat.le_of_ble_eq_true rfl) rfl ?_
  intro p e s m below meth c Q A ls S hP hK hT hS hl hret
  obtain ⟨hx, hb, hml, hown, hts⟩ := id S
  have hl : lv_has ls 4 [(0, .ref x), (1, .int (nI 1)), (2, .int t)] := hl
  refine lv_aload_n hx hb d_LN_letter_0 rfl (lv_at hl 0 rfl) ?_
  refine lv_iload_n hx hb d_LN_letter_1 rfl (lv_at hl 1 rfl) ?_
  refine mk_r1 (W.runV (As := [.int (nI 1)]) (rest := []) S (c_LN_row1 l dC dI cI x f0 f1 h hp hs) (gV 1 hts k_111 k_113 k_0 k_24 k_114 (by decide +kernel) ⟨Nat.le_of_ble_eq_true rfl, Nat.le_of_ble_eq_true rfl⟩) (mk_vR hP hK hT hS [0] rfl (q0 := 0) (ci := 0) rfl rfl) rfl rfl hl.1 rfl (lv_room (Nat.le_of_ble_eq_true rfl)) d_LN_letter_2 ⟨Nat.zero_le _, Nat.zero_le _⟩) ?_
  refine lv_astore_n (lv' := [(3, .ref f1), (0, .ref x), (1, .int (nI 1)), (2, .int t)]) hx hb d_LN_letter_5 rfl hl (by decide) rfl (fun ls hl => ?_)
  refine lv_aload_n hx hb d_LN_letter_6 rfl (lv_at hl 0 rfl) ?_
  refine lv_ifnonnull (tgt := 14) hx hb d_LN_letter_7 (by decide) ?_
  refine lv_aload_n hx hb d_LN_letter_14 rfl (lv_at hl 0 rfl) ?_
  refine lv_iload_n hx hb d_LN_letter_15 rfl (lv_at hl 3 rfl) ?_
  refine mk_r1 (W.runV (As := [.int t]) (rest := []) S (c_Ro_ebX l dC dI cI f1 a1 n1 v1 t (by first | assumption | omega)) (gV 1 hts k_176 k_177 k_178 k_25 k_179 (by decide +kernel) ⟨Nat.le_of_ble_eq_true rfl, Nat.le_of_ble_eq_true rfl⟩) (mk_vR hP hK hT hS [3, 4] rfl (q0 := 3) (ci := 1) rfl rfl) rfl rfl hl.1 rfl (lv_room (Nat.le_of_ble_eq_true rfl)) d_LN_letter_16 ⟨Nat.zero_le _, Nat.zero_le _⟩) ?_
  exact hret _ _ d_LN_letter_19

set_option maxHeartbeats 4000000 in
set_option maxRecDepth 100000 in
theorem c_LN_unitx (l : Launch) (dC : Nat → ClassId) (dI : Nat → Nat → Nat) (cI : ClassId) (x f0 a0 n0 : Nat) (v0 : Nat → Nat) (f1 a1 n1 : Nat) (v1 : Nat → Nat) (h a : Nat) (b : Nat → Nat) (hp ap : Nat) (pb : Nat → Nat) (hs as : Nat) (B : Nat → Nat) (r u : Int32) (hn0 : n0 ≤ 255) (hv0 : ∀ j, v0 j < 65536) (hn1 : n1 ≤ 255) (hv1 : ∀ j, v1 j < 65536) (hb9 : ∀ j, b j < 65536) (hpb : ∀ j, pb j < 65536) (hB : ∀ j, B j < 256) (hr0 : ¬ r = 0) (hr1 : ¬ r = nI 1) : mM l y_LN_unit w_LN_unit ({ frames := 1, cells := 0, slots := 0, locals := 21 } : Room) [.ref x, .int r, .int u] (dC, dI) vwCl [(cI, .int)] [(x, .inr (0, [.ref f0, .ref f1, .ref h, .ref hp, .ref hs])), (f0, .inr (1, [.ref a0, .int (nI n0)])), (a0, .inl (cI, 255, .inl (nf v0))), (f1, .inr (1, [.ref a1, .int (nI n1)])), (a1, .inl (cI, 255, .inl (nf v1))), (h, .inr (2, [.ref a])), (a, .inl (cI, 11, .inl (nf b))), (hp, .inr (3, [.ref ap])), (ap, .inl (cI, 32, .inl (nf pb))), (hs, .inr (4, [.ref as])), (as, .inl (cI, 1024, .inl (nf B)))] (some (.int (nI 0))) [(x, .inr (0, [.ref f0, .ref f1, .ref h, .ref hp, .ref hs])), (f0, .inr (1, [.ref a0, .int (nI n0)])), (a0, .inl (cI, 255, .inl (nf v0))), (f1, .inr (1, [.ref a1, .int (nI n1)])), (a1, .inl (cI, 255, .inl (nf v1))), (h, .inr (2, [.ref a])), (a, .inl (cI, 11, .inl (nf b))), (hp, .inr (3, [.ref ap])), (ap, .inl (cI, 32, .inl (nf pb))), (hs, .inr (4, [.ref as])), (as, .inl (cI, 1024, .inl (nf B)))] := by
  refine mk_Mi (cc := b_LN_unit) (maxL := 4) (by decide) rfl (Nat.le_of_ble_eq_true rfl) (rfl) ?_
  intro p e s m below meth c Q A ls S hP hK hT hS hl hD hA hret
  obtain ⟨hx, hb, hml, hown, hts⟩ := id S
  have hl : lv_has ls 4 [(0, .ref x), (1, .int r), (2, .int u)] := hl
  refine lv_aload_n hx hb d_LN_unit_0 rfl (lv_at hl 0 rfl) ?_
  refine lv_iload_n hx hb d_LN_unit_1 rfl (lv_at hl 1 rfl) ?_
  refine mk_r1 (W.runV (As := [.int r]) (rest := []) S (c_LN_rowX l dC dI cI x f0 f1 h hp hs r (by first | assumption | omega) (by first | assumption | omega)) (gV 1 hts k_111 k_113 k_0 k_24 k_114 (by decide +kernel) ⟨Nat.le_of_ble_eq_true rfl, Nat.le_of_ble_eq_true rfl⟩) (mk_vR hP hK hT hS [0] rfl (q0 := 0) (ci := 0) rfl rfl) rfl rfl hl.1 rfl (lv_room (Nat.le_of_ble_eq_true rfl)) d_LN_unit_2 ⟨Nat.zero_le _, Nat.zero_le _⟩) ?_
  refine lv_astore_nN (lv' := [(3, .null), (0, .ref x), (1, .int r), (2, .int u)]) hx hb d_LN_unit_5 rfl hl (by decide) rfl (fun ls hl => ?_)
  refine lv_aload_nN hx hb d_LN_unit_6 rfl (lv_at hl 0 rfl) ?_
  refine lv_ifnullN (tgt := 20) hx hb d_LN_unit_7 (by decide) ?_
  refine lv_iconst (v := nI 0) hx hb d_LN_unit_20 (by decide) ?_
  exact hret _ _ _ _ d_LN_unit_21 hP hD hS

set_option maxHeartbeats 4000000 in
set_option maxRecDepth 100000 in
theorem c_LN_clearx (l : Launch) (dC : Nat → ClassId) (dI : Nat → Nat → Nat) (cI : ClassId) (x f0 a0 n0 : Nat) (v0 : Nat → Nat) (f1 a1 n1 : Nat) (v1 : Nat → Nat) (h a : Nat) (b : Nat → Nat) (hp ap : Nat) (pb : Nat → Nat) (hs as : Nat) (B : Nat → Nat) (r : Int32) (hn0 : n0 ≤ 255) (hv0 : ∀ j, v0 j < 65536) (hn1 : n1 ≤ 255) (hv1 : ∀ j, v1 j < 65536) (hb9 : ∀ j, b j < 65536) (hpb : ∀ j, pb j < 65536) (hB : ∀ j, B j < 256) (hr0 : ¬ r = 0) (hr1 : ¬ r = nI 1) : mM l y_LN_clear w_LN_clear ({ frames := 1, cells := 0, slots := 0, locals := 21 } : Room) [.ref x, .int r] (dC, dI) vwCl [(cI, .int)] [(x, .inr (0, [.ref f0, .ref f1, .ref h, .ref hp, .ref hs])), (f0, .inr (1, [.ref a0, .int (nI n0)])), (a0, .inl (cI, 255, .inl (nf v0))), (f1, .inr (1, [.ref a1, .int (nI n1)])), (a1, .inl (cI, 255, .inl (nf v1))), (h, .inr (2, [.ref a])), (a, .inl (cI, 11, .inl (nf b))), (hp, .inr (3, [.ref ap])), (ap, .inl (cI, 32, .inl (nf pb))), (hs, .inr (4, [.ref as])), (as, .inl (cI, 1024, .inl (nf B)))] (some (.int (-1))) [(x, .inr (0, [.ref f0, .ref f1, .ref h, .ref hp, .ref hs])), (f0, .inr (1, [.ref a0, .int (nI n0)])), (a0, .inl (cI, 255, .inl (nf v0))), (f1, .inr (1, [.ref a1, .int (nI n1)])), (a1, .inl (cI, 255, .inl (nf v1))), (h, .inr (2, [.ref a])), (a, .inl (cI, 11, .inl (nf b))), (hp, .inr (3, [.ref ap])), (ap, .inl (cI, 32, .inl (nf pb))), (hs, .inr (4, [.ref as])), (as, .inl (cI, 1024, .inl (nf B)))] := by
  refine mk_Mi (cc := b_LN_clear) (maxL := 4) (by decide) rfl (Nat.le_of_ble_eq_true rfl) rfl ?_
  intro p e s m below meth c Q A ls S hP hK hT hS hl hD hA hret
  obtain ⟨hx, hb, hml, hown, hts⟩ := id S
  have hl : lv_has ls 4 [(0, .ref x), (1, .int r)] := hl
  refine lv_aload_n hx hb d_LN_clear_0 rfl (lv_at hl 0 rfl) ?_
  refine lv_iload_n hx hb d_LN_clear_1 rfl (lv_at hl 1 rfl) ?_
  refine mk_r1 (W.runV (As := [.int r]) (rest := []) S (c_LN_rowX l dC dI cI x f0 f1 h hp hs r (by first | assumption | omega) (by first | assumption | omega)) (gV 1 hts k_111 k_113 k_0 k_24 k_114 (by decide +kernel) ⟨Nat.le_of_ble_eq_true rfl, Nat.le_of_ble_eq_true rfl⟩) (mk_vR hP hK hT hS [0] rfl (q0 := 0) (ci := 0) rfl rfl) rfl rfl hl.1 rfl (lv_room (Nat.le_of_ble_eq_true rfl)) d_LN_clear_2 ⟨Nat.zero_le _, Nat.zero_le _⟩) ?_
  refine lv_astore_nN (lv' := [(2, .null), (0, .ref x), (1, .int r)]) hx hb d_LN_clear_5 rfl hl (by decide) rfl (fun ls hl => ?_)
  refine lv_aload_nN hx hb d_LN_clear_6 rfl (lv_at hl 0 rfl) ?_
  refine lv_ifnonnullN hx hb d_LN_clear_7 ?_
  refine lv_iconst (v := (-1)) hx hb d_LN_clear_10 (by decide) ?_
  exact hret _ _ _ _ d_LN_clear_11 hP hD hS

set_option maxHeartbeats 4000000 in
set_option maxRecDepth 100000 in
theorem c_LN_aboutx (l : Launch) (dC : Nat → ClassId) (dI : Nat → Nat → Nat) (cI : ClassId) (x f0 a0 n0 : Nat) (v0 : Nat → Nat) (f1 a1 n1 : Nat) (v1 : Nat → Nat) (h a : Nat) (b : Nat → Nat) (hp ap : Nat) (pb : Nat → Nat) (hs as : Nat) (B : Nat → Nat) (r w : Int32) (hn0 : n0 ≤ 255) (hv0 : ∀ j, v0 j < 65536) (hn1 : n1 ≤ 255) (hv1 : ∀ j, v1 j < 65536) (hb9 : ∀ j, b j < 65536) (hpb : ∀ j, pb j < 65536) (hB : ∀ j, B j < 256) (hr0 : ¬ r = 0) (hr1 : ¬ r = nI 1) : mR l y_LN_about w_LN_about ({ frames := 1, cells := 0, slots := 0, locals := 21 } : Room) [.ref x, .int r, .int w] (dC, dI) vwCl [(cI, .int)] [(x, .inr (0, [.ref f0, .ref f1, .ref h, .ref hp, .ref hs])), (f0, .inr (1, [.ref a0, .int (nI n0)])), (a0, .inl (cI, 255, .inl (nf v0))), (f1, .inr (1, [.ref a1, .int (nI n1)])), (a1, .inl (cI, 255, .inl (nf v1))), (h, .inr (2, [.ref a])), (a, .inl (cI, 11, .inl (nf b))), (hp, .inr (3, [.ref ap])), (ap, .inl (cI, 32, .inl (nf pb))), (hs, .inr (4, [.ref as])), (as, .inl (cI, 1024, .inl (nf B)))] (some (.int (-1))) := by
  refine mk_Ri (cc := b_LN_about) (maxL := 4) (by decide) rfl (Nat.le_of_ble_eq_true rfl) rfl ?_
  intro p e s m below meth c Q A ls S hP hK hT hS hl hret
  obtain ⟨hx, hb, hml, hown, hts⟩ := id S
  have hl : lv_has ls 4 [(0, .ref x), (1, .int r), (2, .int w)] := hl
  refine lv_aload_n hx hb d_LN_about_0 rfl (lv_at hl 0 rfl) ?_
  refine lv_iload_n hx hb d_LN_about_1 rfl (lv_at hl 1 rfl) ?_
  refine mk_r1 (W.runV (As := [.int r]) (rest := []) S (c_LN_rowX l dC dI cI x f0 f1 h hp hs r (by first | assumption | omega) (by first | assumption | omega)) (gV 1 hts k_111 k_113 k_0 k_24 k_114 (by decide +kernel) ⟨Nat.le_of_ble_eq_true rfl, Nat.le_of_ble_eq_true rfl⟩) (mk_vR hP hK hT hS [0] rfl (q0 := 0) (ci := 0) rfl rfl) rfl rfl hl.1 rfl (lv_room (Nat.le_of_ble_eq_true rfl)) d_LN_about_2 ⟨Nat.zero_le _, Nat.zero_le _⟩) ?_
  refine lv_astore_nN (lv' := [(3, .null), (0, .ref x), (1, .int r), (2, .int w)]) hx hb d_LN_about_5 rfl hl (by decide) rfl (fun ls hl => ?_)
  refine lv_aload_nN hx hb d_LN_about_6 rfl (lv_at hl 0 rfl) ?_
  refine lv_ifnonnullN hx hb d_LN_about_7 ?_
  refine lv_iconst (v := (-1)) hx hb d_LN_about_10 (by decide) ?_
  exact hret _ _ d_LN_about_11

set_option maxHeartbeats 4000000 in
set_option maxRecDepth 100000 in
theorem c_LN_letterx (l : Launch) (dC : Nat → ClassId) (dI : Nat → Nat → Nat) (cI : ClassId) (x f0 a0 n0 : Nat) (v0 : Nat → Nat) (f1 a1 n1 : Nat) (v1 : Nat → Nat) (h a : Nat) (b : Nat → Nat) (hp ap : Nat) (pb : Nat → Nat) (hs as : Nat) (B : Nat → Nat) (r t : Int32) (hn0 : n0 ≤ 255) (hv0 : ∀ j, v0 j < 65536) (hn1 : n1 ≤ 255) (hv1 : ∀ j, v1 j < 65536) (hb9 : ∀ j, b j < 65536) (hpb : ∀ j, pb j < 65536) (hB : ∀ j, B j < 256) (hr0 : ¬ r = 0) (hr1 : ¬ r = nI 1) : mR l y_LN_letter w_LN_letter ({ frames := 1, cells := 0, slots := 0, locals := 21 } : Room) [.ref x, .int r, .int t] (dC, dI) vwCl [(cI, .int)] [(x, .inr (0, [.ref f0, .ref f1, .ref h, .ref hp, .ref hs])), (f0, .inr (1, [.ref a0, .int (nI n0)])), (a0, .inl (cI, 255, .inl (nf v0))), (f1, .inr (1, [.ref a1, .int (nI n1)])), (a1, .inl (cI, 255, .inl (nf v1))), (h, .inr (2, [.ref a])), (a, .inl (cI, 11, .inl (nf b))), (hp, .inr (3, [.ref ap])), (ap, .inl (cI, 32, .inl (nf pb))), (hs, .inr (4, [.ref as])), (as, .inl (cI, 1024, .inl (nf B)))] (some (.int (-1))) := by
  refine mk_Ri (cc := b_LN_letter) (maxL := 4) (by decide) rfl (Nat.le_of_ble_eq_true rfl) rfl ?_
  intro p e s m below meth c Q A ls S hP hK hT hS hl hret
  obtain ⟨hx, hb, hml, hown, hts⟩ := id S
  have hl : lv_has ls 4 [(0, .ref x), (1, .int r), (2, .int t)] := hl
  refine lv_aload_n hx hb d_LN_letter_0 rfl (lv_at hl 0 rfl) ?_
  refine lv_iload_n hx hb d_LN_letter_1 rfl (lv_at hl 1 rfl) ?_
  refine mk_r1 (W.runV (As := [.int r]) (rest := []) S (c_LN_rowX l dC dI cI x f0 f1 h hp hs r (by first | assumption | omega) (by first | assumption | omega)) (gV 1 hts k_111 k_113 k_0 k_24 k_114 (by decide +kernel) ⟨Nat.le_of_ble_eq_true rfl, Nat.le_of_ble_eq_true rfl⟩) (mk_vR hP hK hT hS [0] rfl (q0 := 0) (ci := 0) rfl rfl) rfl rfl hl.1 rfl (lv_room (Nat.le_of_ble_eq_true rfl)) d_LN_letter_2 ⟨Nat.zero_le _, Nat.zero_le _⟩) ?_
  refine lv_astore_nN (lv' := [(3, .null), (0, .ref x), (1, .int r), (2, .int t)]) hx hb d_LN_letter_5 rfl hl (by decide) rfl (fun ls hl => ?_)
  refine lv_aload_nN hx hb d_LN_letter_6 rfl (lv_at hl 0 rfl) ?_
  refine lv_ifnonnullN hx hb d_LN_letter_7 ?_
  refine lv_iconst (v := (-1)) hx hb d_LN_letter_10 (by decide) ?_
  refine lv_goto (tgt := 19) hx hb d_LN_letter_11 (by decide) ?_
  exact hret _ _ d_LN_letter_19

set_option maxHeartbeats 4000000 in
set_option maxRecDepth 100000 in
theorem c_LN_alike (l : Launch) (dC : Nat → ClassId) (dI : Nat → Nat → Nat) (cI : ClassId) (x f0 a0 n0 : Nat) (v0 : Nat → Nat) (f1 a1 n1 : Nat) (v1 : Nat → Nat) (h a : Nat) (b : Nat → Nat) (hp ap : Nat) (pb : Nat → Nat) (hs as : Nat) (B : Nat → Nat) (hn0 : n0 ≤ 255) (hv0 : ∀ j, v0 j < 65536) (hn1 : n1 ≤ 255) (hv1 : ∀ j, v1 j < 65536) (hb9 : ∀ j, b j < 65536) (hpb : ∀ j, pb j < 65536) (hB : ∀ j, B j < 256)  : mR l y_LN_alike w_LN_alike ({ frames := 2, cells := 0, slots := 0, locals := 43 } : Room) [.ref x] (dC, dI) vwCl [(cI, .int)] [(x, .inr (0, [.ref f0, .ref f1, .ref h, .ref hp, .ref hs])), (f0, .inr (1, [.ref a0, .int (nI n0)])), (a0, .inl (cI, 255, .inl (nf v0))), (f1, .inr (1, [.ref a1, .int (nI n1)])), (a1, .inl (cI, 255, .inl (nf v1))), (h, .inr (2, [.ref a])), (a, .inl (cI, 11, .inl (nf b))), (hp, .inr (3, [.ref ap])), (ap, .inl (cI, 32, .inl (nf pb))), (hs, .inr (4, [.ref as])), (as, .inl (cI, 1024, .inl (nf B)))] (some (.int (bI (likeN v0 n0 v1 n1)))) := by
  refine mk_Ri (cc := b_LN_alike) (maxL := 1) (by decide) rfl (Nat.le_of_ble_eq_true rfl) (mk_nz _) ?_
  intro p e s m below meth c Q A ls S hP hK hT hS hl hret
  obtain ⟨hx, hb, hml, hown, hts⟩ := id S
  have hl : lv_has ls 1 [(0, .ref x)] := hl
  refine lv_aload_n hx hb d_LN_alike_0 rfl (lv_at hl 0 rfl) ?_
  refine va_get (D := (dC, dI)) (ci := 0) (v := .ref f0) (C := "LongNames") (T := F_LN) (N := 5) hx hb hts (iw_LN _) hown hK hP 0 rfl rfl 0 (by decide) (hts _ (List.mem_cons_of_mem _ k_91)) (fun _ h9 => h9) rfl d_LN_alike_1 ?_
  refine lv_aload_n hx hb d_LN_alike_4 rfl (lv_at hl 0 rfl) ?_
  refine va_get (D := (dC, dI)) (ci := 0) (v := .ref f1) (C := "LongNames") (T := F_LN) (N := 5) hx hb hts (iw_LN _) hown hK hP 0 rfl rfl 1 (by decide) (hts _ (List.mem_cons_of_mem _ k_92)) (fun _ h9 => h9) rfl d_LN_alike_5 ?_
  refine mk_r1 (W.runV (As := [.ref f1]) (rest := []) S (c_Ro_like l dC dI cI f0 a0 n0 v0 f1 a1 n1 v1 (by first | assumption | omega) (by first | assumption | omega) (by first | assumption | omega) (by first | assumption | omega)) (gV 1 hts k_188 k_189 k_190 k_25 k_191 (by decide +kernel) ⟨Nat.le_of_ble_eq_true rfl, Nat.le_of_ble_eq_true rfl⟩) (mk_vR hP hK hT hS [1, 2, 3, 4] rfl (q0 := 1) (ci := 1) rfl rfl) rfl rfl hl.1 rfl (lv_room (Nat.le_of_ble_eq_true rfl)) d_LN_alike_8 ⟨Nat.zero_le _, Nat.zero_le _⟩) ?_
  exact hret _ _ d_LN_alike_11

set_option maxHeartbeats 4000000 in
set_option maxRecDepth 100000 in
theorem c_LN_poke (l : Launch) (dC : Nat → ClassId) (dI : Nat → Nat → Nat) (cI : ClassId) (x f0 a0 n0 : Nat) (v0 : Nat → Nat) (f1 a1 n1 : Nat) (v1 : Nat → Nat) (h a : Nat) (b : Nat → Nat) (hp ap : Nat) (pb : Nat → Nat) (hs as : Nat) (B : Nat → Nat) (k j y : Nat) (hn0 : n0 ≤ 255) (hv0 : ∀ j, v0 j < 65536) (hn1 : n1 ≤ 255) (hv1 : ∀ j, v1 j < 65536) (hb9 : ∀ j, b j < 65536) (hpb : ∀ j, pb j < 65536) (hB : ∀ j, B j < 256) (hk : k < 32) (hj : j < 32) (hy : y < 2 ^ 32) : mM l y_LN_poke w_LN_poke ({ frames := 3, cells := 0, slots := 0, locals := 64 } : Room) [.ref x, .int (nI k), .int (nI j), .int (nI y)] (dC, dI) vwCl [(cI, .int)] [(x, .inr (0, [.ref f0, .ref f1, .ref h, .ref hp, .ref hs])), (f0, .inr (1, [.ref a0, .int (nI n0)])), (a0, .inl (cI, 255, .inl (nf v0))), (f1, .inr (1, [.ref a1, .int (nI n1)])), (a1, .inl (cI, 255, .inl (nf v1))), (h, .inr (2, [.ref a])), (a, .inl (cI, 11, .inl (nf b))), (hp, .inr (3, [.ref ap])), (ap, .inl (cI, 32, .inl (nf pb))), (hs, .inr (4, [.ref as])), (as, .inl (cI, 1024, .inl (nf B)))] (some (.int (nI 1))) [(x, .inr (0, [.ref f0, .ref f1, .ref h, .ref hp, .ref hs])), (f0, .inr (1, [.ref a0, .int (nI n0)])), (a0, .inl (cI, 255, .inl (nf v0))), (f1, .inr (1, [.ref a1, .int (nI n1)])), (a1, .inl (cI, 255, .inl (nf v1))), (h, .inr (2, [.ref a])), (a, .inl (cI, 11, .inl (nf b))), (hp, .inr (3, [.ref ap])), (ap, .inl (cI, 32, .inl (nf pb))), (hs, .inr (4, [.ref as])), (as, .inl (cI, 1024, .inl (nf (uN B (k * 32 + j) (y % 2 ^ 8)))))] := by
  refine mk_Mi (cc := b_LN_poke) (maxL := 4) (by decide) rfl (Nat.le_of_ble_eq_true rfl) (rfl) ?_
  intro p e s m below meth c Q A ls S hP hK hT hS hl hD hA hret
  obtain ⟨hx, hb, hml, hown, hts⟩ := id S
  have hl : lv_has ls 4 [(0, .ref x), (1, .int (nI k)), (2, .int (nI j)), (3, .int (nI y))] := hl
  refine lv_aload_n hx hb d_LN_poke_0 rfl (lv_at hl 0 rfl) ?_
  refine va_get (D := (dC, dI)) (ci := 0) (v := .ref hs) (C := "LongNames") (T := F_LN) (N := 5) hx hb hts (iw_LN _) hown hK hP 0 rfl rfl 4 (by decide) (hts _ (List.mem_cons_of_mem _ k_95)) (fun _ h9 => h9) rfl d_LN_poke_1 ?_
  refine lv_iload_n hx hb d_LN_poke_4 rfl (lv_at hl 1 rfl) ?_
  refine lv_iload_n hx hb d_LN_poke_5 rfl (lv_at hl 2 rfl) ?_
  refine lv_iload_n hx hb d_LN_poke_6 rfl (lv_at hl 3 rfl) ?_
  refine mk_w1 (wr := [(x, .inr (0, [.ref f0, .ref f1, .ref h, .ref hp, .ref hs])), (f0, .inr (1, [.ref a0, .int (nI n0)])), (a0, .inl (cI, 255, .inl (nf v0))), (f1, .inr (1, [.ref a1, .int (nI n1)])), (a1, .inl (cI, 255, .inl (nf v1))), (h, .inr (2, [.ref a])), (a, .inl (cI, 11, .inl (nf b))), (hp, .inr (3, [.ref ap])), (ap, .inl (cI, 32, .inl (nf pb)))]) (W.runV (As := [.int (nI k), .int (nI j), .int (nI y)]) (rest := []) S ((c_Sl_putN l dC dI cI hs as B k j y (by first | assumption | omega) (by first | assumption | omega) (by first | assumption | omega)) _) (gV 3 hts k_199 k_200 k_201 k_28 k_202 (by decide +kernel) ⟨Nat.le_of_ble_eq_true rfl, Nat.le_of_ble_eq_true rfl⟩) (mk_vM hP hD hK hT hS hA [9, 10] rfl rfl (by decide) (q0 := 9) (ci := 4) rfl rfl) rfl rfl hl.1 rfl (lv_room (Nat.le_of_ble_eq_true rfl)) d_LN_poke_7 ⟨Nat.zero_le _, Nat.zero_le _⟩) hP hD hS hA [9, 10] [0, 1, 2, 3, 4, 5, 6, 7, 8] rfl rfl (by decide) (by decide) (fun H locs hP hD hS => ?_)
  have hP : va_P (dC, dI) vwCl [(x, .inr (0, [.ref f0, .ref f1, .ref h, .ref hp, .ref hs])), (f0, .inr (1, [.ref a0, .int (nI n0)])), (a0, .inl (cI, 255, .inl (nf v0))), (f1, .inr (1, [.ref a1, .int (nI n1)])), (a1, .inl (cI, 255, .inl (nf v1))), (h, .inr (2, [.ref a])), (a, .inl (cI, 11, .inl (nf b))), (hp, .inr (3, [.ref ap])), (ap, .inl (cI, 32, .inl (nf pb))), (hs, .inr (4, [.ref as])), (as, .inl (cI, 1024, .inl (nf (uN B (k * 32 + j) (y % 2 ^ 8)))))] H := hP.sub [0, 1, 2, 3, 4, 5, 6, 7, 8, 9, 10] rfl
  have hD : va_D A [(x, .inr (0, [.ref f0, .ref f1, .ref h, .ref hp, .ref hs])), (f0, .inr (1, [.ref a0, .int (nI n0)])), (a0, .inl (cI, 255, .inl (nf v0))), (f1, .inr (1, [.ref a1, .int (nI n1)])), (a1, .inl (cI, 255, .inl (nf v1))), (h, .inr (2, [.ref a])), (a, .inl (cI, 11, .inl (nf b))), (hp, .inr (3, [.ref ap])), (ap, .inl (cI, 32, .inl (nf pb))), (hs, .inr (4, [.ref as])), (as, .inl (cI, 1024, .inl (nf (uN B (k * 32 + j) (y % 2 ^ 8)))))] := hD.sub [0, 1, 2, 3, 4, 5, 6, 7, 8, 9, 10] (by decide) rfl
  exact hret _ _ _ _ d_LN_poke_10 hP hD hS

set_option maxHeartbeats 4000000 in
set_option maxRecDepth 100000 in
theorem c_LN_pokey (l : Launch) (dC : Nat → ClassId) (dI : Nat → Nat → Nat) (cI : ClassId) (x f0 a0 n0 : Nat) (v0 : Nat → Nat) (f1 a1 n1 : Nat) (v1 : Nat → Nat) (h a : Nat) (b : Nat → Nat) (hp ap : Nat) (pb : Nat → Nat) (hs as : Nat) (B : Nat → Nat) (k : Nat) (x9 y : Int32) (hn0 : n0 ≤ 255) (hv0 : ∀ j, v0 j < 65536) (hn1 : n1 ≤ 255) (hv1 : ∀ j, v1 j < 65536) (hb9 : ∀ j, b j < 65536) (hpb : ∀ j, pb j < 65536) (hB : ∀ j, B j < 256) (hk : k < 32) (hj : x9 < 0 ∨ nI 32 ≤ x9) : mM l y_LN_poke w_LN_poke ({ frames := 3, cells := 0, slots := 0, locals := 64 } : Room) [.ref x, .int (nI k), .int x9, .int y] (dC, dI) vwCl [(cI, .int)] [(x, .inr (0, [.ref f0, .ref f1, .ref h, .ref hp, .ref hs])), (f0, .inr (1, [.ref a0, .int (nI n0)])), (a0, .inl (cI, 255, .inl (nf v0))), (f1, .inr (1, [.ref a1, .int (nI n1)])), (a1, .inl (cI, 255, .inl (nf v1))), (h, .inr (2, [.ref a])), (a, .inl (cI, 11, .inl (nf b))), (hp, .inr (3, [.ref ap])), (ap, .inl (cI, 32, .inl (nf pb))), (hs, .inr (4, [.ref as])), (as, .inl (cI, 1024, .inl (nf B)))] (some (.int (nI 0))) [(x, .inr (0, [.ref f0, .ref f1, .ref h, .ref hp, .ref hs])), (f0, .inr (1, [.ref a0, .int (nI n0)])), (a0, .inl (cI, 255, .inl (nf v0))), (f1, .inr (1, [.ref a1, .int (nI n1)])), (a1, .inl (cI, 255, .inl (nf v1))), (h, .inr (2, [.ref a])), (a, .inl (cI, 11, .inl (nf b))), (hp, .inr (3, [.ref ap])), (ap, .inl (cI, 32, .inl (nf pb))), (hs, .inr (4, [.ref as])), (as, .inl (cI, 1024, .inl (nf B)))] := by
  refine mk_Mi (cc := b_LN_poke) (maxL := 4) (by decide) rfl (Nat.le_of_ble_eq_true rfl) (rfl) ?_
  intro p e s m below meth c Q A ls S hP hK hT hS hl hD hA hret
  obtain ⟨hx, hb, hml, hown, hts⟩ := id S
  have hl : lv_has ls 4 [(0, .ref x), (1, .int (nI k)), (2, .int x9), (3, .int y)] := hl
  refine lv_aload_n hx hb d_LN_poke_0 rfl (lv_at hl 0 rfl) ?_
  refine va_get (D := (dC, dI)) (ci := 0) (v := .ref hs) (C := "LongNames") (T := F_LN) (N := 5) hx hb hts (iw_LN _) hown hK hP 0 rfl rfl 4 (by decide) (hts _ (List.mem_cons_of_mem _ k_95)) (fun _ h9 => h9) rfl d_LN_poke_1 ?_
  refine lv_iload_n hx hb d_LN_poke_4 rfl (lv_at hl 1 rfl) ?_
  refine lv_iload_n hx hb d_LN_poke_5 rfl (lv_at hl 2 rfl) ?_
  refine lv_iload_n hx hb d_LN_poke_6 rfl (lv_at hl 3 rfl) ?_
  refine mk_w1 (wr := [(x, .inr (0, [.ref f0, .ref f1, .ref h, .ref hp, .ref hs])), (f0, .inr (1, [.ref a0, .int (nI n0)])), (a0, .inl (cI, 255, .inl (nf v0))), (f1, .inr (1, [.ref a1, .int (nI n1)])), (a1, .inl (cI, 255, .inl (nf v1))), (h, .inr (2, [.ref a])), (a, .inl (cI, 11, .inl (nf b))), (hp, .inr (3, [.ref ap])), (ap, .inl (cI, 32, .inl (nf pb)))]) (W.runV (As := [.int (nI k), .int x9, .int y]) (rest := []) S ((c_Sl_putY l dC dI cI hs as B k x9 y (by first | assumption | omega) (by first | assumption | omega)) _) (gV 3 hts k_199 k_200 k_201 k_28 k_202 (by decide +kernel) ⟨Nat.le_of_ble_eq_true rfl, Nat.le_of_ble_eq_true rfl⟩) (mk_vM hP hD hK hT hS hA [9, 10] rfl rfl (by decide) (q0 := 9) (ci := 4) rfl rfl) rfl rfl hl.1 rfl (lv_room (Nat.le_of_ble_eq_true rfl)) d_LN_poke_7 ⟨Nat.zero_le _, Nat.zero_le _⟩) hP hD hS hA [9, 10] [0, 1, 2, 3, 4, 5, 6, 7, 8] rfl rfl (by decide) (by decide) (fun H locs hP hD hS => ?_)
  have hP : va_P (dC, dI) vwCl [(x, .inr (0, [.ref f0, .ref f1, .ref h, .ref hp, .ref hs])), (f0, .inr (1, [.ref a0, .int (nI n0)])), (a0, .inl (cI, 255, .inl (nf v0))), (f1, .inr (1, [.ref a1, .int (nI n1)])), (a1, .inl (cI, 255, .inl (nf v1))), (h, .inr (2, [.ref a])), (a, .inl (cI, 11, .inl (nf b))), (hp, .inr (3, [.ref ap])), (ap, .inl (cI, 32, .inl (nf pb))), (hs, .inr (4, [.ref as])), (as, .inl (cI, 1024, .inl (nf B)))] H := hP.sub [0, 1, 2, 3, 4, 5, 6, 7, 8, 9, 10] rfl
  have hD : va_D A [(x, .inr (0, [.ref f0, .ref f1, .ref h, .ref hp, .ref hs])), (f0, .inr (1, [.ref a0, .int (nI n0)])), (a0, .inl (cI, 255, .inl (nf v0))), (f1, .inr (1, [.ref a1, .int (nI n1)])), (a1, .inl (cI, 255, .inl (nf v1))), (h, .inr (2, [.ref a])), (a, .inl (cI, 11, .inl (nf b))), (hp, .inr (3, [.ref ap])), (ap, .inl (cI, 32, .inl (nf pb))), (hs, .inr (4, [.ref as])), (as, .inl (cI, 1024, .inl (nf B)))] := hD.sub [0, 1, 2, 3, 4, 5, 6, 7, 8, 9, 10] (by decide) rfl
  exact hret _ _ _ _ d_LN_poke_10 hP hD hS

set_option maxHeartbeats 4000000 in
set_option maxRecDepth 100000 in
theorem c_LN_pokex (l : Launch) (dC : Nat → ClassId) (dI : Nat → Nat → Nat) (cI : ClassId) (x f0 a0 n0 : Nat) (v0 : Nat → Nat) (f1 a1 n1 : Nat) (v1 : Nat → Nat) (h a : Nat) (b : Nat → Nat) (hp ap : Nat) (pb : Nat → Nat) (hs as : Nat) (B : Nat → Nat) (x9 z9 y : Int32) (hn0 : n0 ≤ 255) (hv0 : ∀ j, v0 j < 65536) (hn1 : n1 ≤ 255) (hv1 : ∀ j, v1 j < 65536) (hb9 : ∀ j, b j < 65536) (hpb : ∀ j, pb j < 65536) (hB : ∀ j, B j < 256) (hk : x9 < 0 ∨ nI 32 ≤ x9) : mM l y_LN_poke w_LN_poke ({ frames := 3, cells := 0, slots := 0, locals := 64 } : Room) [.ref x, .int x9, .int z9, .int y] (dC, dI) vwCl [(cI, .int)] [(x, .inr (0, [.ref f0, .ref f1, .ref h, .ref hp, .ref hs])), (f0, .inr (1, [.ref a0, .int (nI n0)])), (a0, .inl (cI, 255, .inl (nf v0))), (f1, .inr (1, [.ref a1, .int (nI n1)])), (a1, .inl (cI, 255, .inl (nf v1))), (h, .inr (2, [.ref a])), (a, .inl (cI, 11, .inl (nf b))), (hp, .inr (3, [.ref ap])), (ap, .inl (cI, 32, .inl (nf pb))), (hs, .inr (4, [.ref as])), (as, .inl (cI, 1024, .inl (nf B)))] (some (.int (nI 0))) [(x, .inr (0, [.ref f0, .ref f1, .ref h, .ref hp, .ref hs])), (f0, .inr (1, [.ref a0, .int (nI n0)])), (a0, .inl (cI, 255, .inl (nf v0))), (f1, .inr (1, [.ref a1, .int (nI n1)])), (a1, .inl (cI, 255, .inl (nf v1))), (h, .inr (2, [.ref a])), (a, .inl (cI, 11, .inl (nf b))), (hp, .inr (3, [.ref ap])), (ap, .inl (cI, 32, .inl (nf pb))), (hs, .inr (4, [.ref as])), (as, .inl (cI, 1024, .inl (nf B)))] := by
  refine mk_Mi (cc := b_LN_poke) (maxL := 4) (by decide) rfl (Nat.le_of_ble_eq_true rfl) (rfl) ?_
  intro p e s m below meth c Q A ls S hP hK hT hS hl hD hA hret
  obtain ⟨hx, hb, hml, hown, hts⟩ := id S
  have hl : lv_has ls 4 [(0, .ref x), (1, .int x9), (2, .int z9), (3, .int y)] := hl
  refine lv_aload_n hx hb d_LN_poke_0 rfl (lv_at hl 0 rfl) ?_
  refine va_get (D := (dC, dI)) (ci := 0) (v := .ref hs) (C := "LongNames") (T := F_LN) (N := 5) hx hb hts (iw_LN _) hown hK hP 0 rfl rfl 4 (by decide) (hts _ (List.mem_cons_of_mem _ k_95)) (fun _ h9 => h9) rfl d_LN_poke_1 ?_
  refine lv_iload_n hx hb d_LN_poke_4 rfl (lv_at hl 1 rfl) ?_
  refine lv_iload_n hx hb d_LN_poke_5 rfl (lv_at hl 2 rfl) ?_
  refine lv_iload_n hx hb d_LN_poke_6 rfl (lv_at hl 3 rfl) ?_
  refine mk_w1 (wr := [(x, .inr (0, [.ref f0, .ref f1, .ref h, .ref hp, .ref hs])), (f0, .inr (1, [.ref a0, .int (nI n0)])), (a0, .inl (cI, 255, .inl (nf v0))), (f1, .inr (1, [.ref a1, .int (nI n1)])), (a1, .inl (cI, 255, .inl (nf v1))), (h, .inr (2, [.ref a])), (a, .inl (cI, 11, .inl (nf b))), (hp, .inr (3, [.ref ap])), (ap, .inl (cI, 32, .inl (nf pb)))]) (W.runV (As := [.int x9, .int z9, .int y]) (rest := []) S ((c_Sl_putX l dC dI cI hs as B x9 z9 y (by first | assumption | omega)) _) (gV 3 hts k_199 k_200 k_201 k_28 k_202 (by decide +kernel) ⟨Nat.le_of_ble_eq_true rfl, Nat.le_of_ble_eq_true rfl⟩) (mk_vM hP hD hK hT hS hA [9, 10] rfl rfl (by decide) (q0 := 9) (ci := 4) rfl rfl) rfl rfl hl.1 rfl (lv_room (Nat.le_of_ble_eq_true rfl)) d_LN_poke_7 ⟨Nat.zero_le _, Nat.zero_le _⟩) hP hD hS hA [9, 10] [0, 1, 2, 3, 4, 5, 6, 7, 8] rfl rfl (by decide) (by decide) (fun H locs hP hD hS => ?_)
  have hP : va_P (dC, dI) vwCl [(x, .inr (0, [.ref f0, .ref f1, .ref h, .ref hp, .ref hs])), (f0, .inr (1, [.ref a0, .int (nI n0)])), (a0, .inl (cI, 255, .inl (nf v0))), (f1, .inr (1, [.ref a1, .int (nI n1)])), (a1, .inl (cI, 255, .inl (nf v1))), (h, .inr (2, [.ref a])), (a, .inl (cI, 11, .inl (nf b))), (hp, .inr (3, [.ref ap])), (ap, .inl (cI, 32, .inl (nf pb))), (hs, .inr (4, [.ref as])), (as, .inl (cI, 1024, .inl (nf B)))] H := hP.sub [0, 1, 2, 3, 4, 5, 6, 7, 8, 9, 10] rfl
  have hD : va_D A [(x, .inr (0, [.ref f0, .ref f1, .ref h, .ref hp, .ref hs])), (f0, .inr (1, [.ref a0, .int (nI n0)])), (a0, .inl (cI, 255, .inl (nf v0))), (f1, .inr (1, [.ref a1, .int (nI n1)])), (a1, .inl (cI, 255, .inl (nf v1))), (h, .inr (2, [.ref a])), (a, .inl (cI, 11, .inl (nf b))), (hp, .inr (3, [.ref ap])), (ap, .inl (cI, 32, .inl (nf pb))), (hs, .inr (4, [.ref as])), (as, .inl (cI, 1024, .inl (nf B)))] := hD.sub [0, 1, 2, 3, 4, 5, 6, 7, 8, 9, 10] (by decide) rfl
  exact hret _ _ _ _ d_LN_poke_10 hP hD hS

set_option maxHeartbeats 4000000 in
set_option maxRecDepth 100000 in
theorem c_LN_byte (l : Launch) (dC : Nat → ClassId) (dI : Nat → Nat → Nat) (cI : ClassId) (x f0 a0 n0 : Nat) (v0 : Nat → Nat) (f1 a1 n1 : Nat) (v1 : Nat → Nat) (h a : Nat) (b : Nat → Nat) (hp ap : Nat) (pb : Nat → Nat) (hs as : Nat) (B : Nat → Nat) (k j : Nat) (hn0 : n0 ≤ 255) (hv0 : ∀ j, v0 j < 65536) (hn1 : n1 ≤ 255) (hv1 : ∀ j, v1 j < 65536) (hb9 : ∀ j, b j < 65536) (hpb : ∀ j, pb j < 65536) (hB : ∀ j, B j < 256) (hk : k < 32) (hj : j < 32) : mR l y_LN_byteAt w_LN_byteAt ({ frames := 3, cells := 0, slots := 0, locals := 63 } : Room) [.ref x, .int (nI k), .int (nI j)] (dC, dI) vwCl [(cI, .int)] [(x, .inr (0, [.ref f0, .ref f1, .ref h, .ref hp, .ref hs])), (f0, .inr (1, [.ref a0, .int (nI n0)])), (a0, .inl (cI, 255, .inl (nf v0))), (f1, .inr (1, [.ref a1, .int (nI n1)])), (a1, .inl (cI, 255, .inl (nf v1))), (h, .inr (2, [.ref a])), (a, .inl (cI, 11, .inl (nf b))), (hp, .inr (3, [.ref ap])), (ap, .inl (cI, 32, .inl (nf pb))), (hs, .inr (4, [.ref as])), (as, .inl (cI, 1024, .inl (nf B)))] (some (.int (nI (B (k * 32 + j))))) := by
  refine mk_Ri (cc := b_LN_byteAt) (maxL := 3) (by decide) rfl (Nat.le_of_ble_eq_true rfl) rfl ?_
  intro p e s m below meth c Q A ls S hP hK hT hS hl hret
  obtain ⟨hx, hb, hml, hown, hts⟩ := id S
  have hl : lv_has ls 3 [(0, .ref x), (1, .int (nI k)), (2, .int (nI j))] := hl
  refine lv_aload_n hx hb d_LN_byteAt_0 rfl (lv_at hl 0 rfl) ?_
  refine va_get (D := (dC, dI)) (ci := 0) (v := .ref hs) (C := "LongNames") (T := F_LN) (N := 5) hx hb hts (iw_LN _) hown hK hP 0 rfl rfl 4 (by decide) (hts _ (List.mem_cons_of_mem _ k_95)) (fun _ h9 => h9) rfl d_LN_byteAt_1 ?_
  refine lv_iload_n hx hb d_LN_byteAt_4 rfl (lv_at hl 1 rfl) ?_
  refine lv_iload_n hx hb d_LN_byteAt_5 rfl (lv_at hl 2 rfl) ?_
  refine mk_r1 (W.runV (As := [.int (nI k), .int (nI j)]) (rest := []) S (c_Sl_getN l dC dI cI hs as B k j (by first | assumption | omega) (by first | assumption | omega) (by first | assumption | omega)) (gV 2 hts k_213 k_214 k_215 k_28 k_216 (by decide +kernel) ⟨Nat.le_of_ble_eq_true rfl, Nat.le_of_ble_eq_true rfl⟩) (mk_vR hP hK hT hS [9, 10] rfl (q0 := 9) (ci := 4) rfl rfl) rfl rfl hl.1 rfl (lv_room (Nat.le_of_ble_eq_true rfl)) d_LN_byteAt_6 ⟨Nat.zero_le _, Nat.zero_le _⟩) ?_
  have b_1 := (show ∀ j9, B j9 < 256 by assumption) (k * 32 + j)
  exact hret _ _ d_LN_byteAt_9

set_option maxHeartbeats 4000000 in
set_option maxRecDepth 100000 in
theorem c_LN_bytey (l : Launch) (dC : Nat → ClassId) (dI : Nat → Nat → Nat) (cI : ClassId) (x f0 a0 n0 : Nat) (v0 : Nat → Nat) (f1 a1 n1 : Nat) (v1 : Nat → Nat) (h a : Nat) (b : Nat → Nat) (hp ap : Nat) (pb : Nat → Nat) (hs as : Nat) (B : Nat → Nat) (k : Nat) (x9 : Int32) (hn0 : n0 ≤ 255) (hv0 : ∀ j, v0 j < 65536) (hn1 : n1 ≤ 255) (hv1 : ∀ j, v1 j < 65536) (hb9 : ∀ j, b j < 65536) (hpb : ∀ j, pb j < 65536) (hB : ∀ j, B j < 256) (hk : k < 32) (hj : x9 < 0 ∨ nI 32 ≤ x9) : mR l y_LN_byteAt w_LN_byteAt ({ frames := 3, cells := 0, slots := 0, locals := 63 } : Room) [.ref x, .int (nI k), .int x9] (dC, dI) vwCl [(cI, .int)] [(x, .inr (0, [.ref f0, .ref f1, .ref h, .ref hp, .ref hs])), (f0, .inr (1, [.ref a0, .int (nI n0)])), (a0, .inl (cI, 255, .inl (nf v0))), (f1, .inr (1, [.ref a1, .int (nI n1)])), (a1, .inl (cI, 255, .inl (nf v1))), (h, .inr (2, [.ref a])), (a, .inl (cI, 11, .inl (nf b))), (hp, .inr (3, [.ref ap])), (ap, .inl (cI, 32, .inl (nf pb))), (hs, .inr (4, [.ref as])), (as, .inl (cI, 1024, .inl (nf B)))] (some (.int (-1))) := by
  refine mk_Ri (cc := b_LN_byteAt) (maxL := 3) (by decide) rfl (Nat.le_of_ble_eq_true rfl) rfl ?_
  intro p e s m below meth c Q A ls S hP hK hT hS hl hret
  obtain ⟨hx, hb, hml, hown, hts⟩ := id S
  have hl : lv_has ls 3 [(0, .ref x), (1, .int (nI k)), (2, .int x9)] := hl
  refine lv_aload_n hx hb d_LN_byteAt_0 rfl (lv_at hl 0 rfl) ?_
  refine va_get (D := (dC, dI)) (ci := 0) (v := .ref hs) (C := "LongNames") (T := F_LN) (N := 5) hx hb hts (iw_LN _) hown hK hP 0 rfl rfl 4 (by decide) (hts _ (List.mem_cons_of_mem _ k_95)) (fun _ h9 => h9) rfl d_LN_byteAt_1 ?_
  refine lv_iload_n hx hb d_LN_byteAt_4 rfl (lv_at hl 1 rfl) ?_
  refine lv_iload_n hx hb d_LN_byteAt_5 rfl (lv_at hl 2 rfl) ?_
  refine mk_r1 (W.runV (As := [.int (nI k), .int x9]) (rest := []) S (c_Sl_getY l dC dI cI hs as B k x9 (by first | assumption | omega) (by first | assumption | omega)) (gV 2 hts k_213 k_214 k_215 k_28 k_216 (by decide +kernel) ⟨Nat.le_of_ble_eq_true rfl, Nat.le_of_ble_eq_true rfl⟩) (mk_vR hP hK hT hS [9, 10] rfl (q0 := 9) (ci := 4) rfl rfl) rfl rfl hl.1 rfl (lv_room (Nat.le_of_ble_eq_true rfl)) d_LN_byteAt_6 ⟨Nat.zero_le _, Nat.zero_le _⟩) ?_
  exact hret _ _ d_LN_byteAt_9

set_option maxHeartbeats 4000000 in
set_option maxRecDepth 100000 in
theorem c_LN_bytex (l : Launch) (dC : Nat → ClassId) (dI : Nat → Nat → Nat) (cI : ClassId) (x f0 a0 n0 : Nat) (v0 : Nat → Nat) (f1 a1 n1 : Nat) (v1 : Nat → Nat) (h a : Nat) (b : Nat → Nat) (hp ap : Nat) (pb : Nat → Nat) (hs as : Nat) (B : Nat → Nat) (x9 z9 : Int32) (hn0 : n0 ≤ 255) (hv0 : ∀ j, v0 j < 65536) (hn1 : n1 ≤ 255) (hv1 : ∀ j, v1 j < 65536) (hb9 : ∀ j, b j < 65536) (hpb : ∀ j, pb j < 65536) (hB : ∀ j, B j < 256) (hk : x9 < 0 ∨ nI 32 ≤ x9) : mR l y_LN_byteAt w_LN_byteAt ({ frames := 3, cells := 0, slots := 0, locals := 63 } : Room) [.ref x, .int x9, .int z9] (dC, dI) vwCl [(cI, .int)] [(x, .inr (0, [.ref f0, .ref f1, .ref h, .ref hp, .ref hs])), (f0, .inr (1, [.ref a0, .int (nI n0)])), (a0, .inl (cI, 255, .inl (nf v0))), (f1, .inr (1, [.ref a1, .int (nI n1)])), (a1, .inl (cI, 255, .inl (nf v1))), (h, .inr (2, [.ref a])), (a, .inl (cI, 11, .inl (nf b))), (hp, .inr (3, [.ref ap])), (ap, .inl (cI, 32, .inl (nf pb))), (hs, .inr (4, [.ref as])), (as, .inl (cI, 1024, .inl (nf B)))] (some (.int (-1))) := by
  refine mk_Ri (cc := b_LN_byteAt) (maxL := 3) (by decide) rfl (Nat.le_of_ble_eq_true rfl) rfl ?_
  intro p e s m below meth c Q A ls S hP hK hT hS hl hret
  obtain ⟨hx, hb, hml, hown, hts⟩ := id S
  have hl : lv_has ls 3 [(0, .ref x), (1, .int x9), (2, .int z9)] := hl
  refine lv_aload_n hx hb d_LN_byteAt_0 rfl (lv_at hl 0 rfl) ?_
  refine va_get (D := (dC, dI)) (ci := 0) (v := .ref hs) (C := "LongNames") (T := F_LN) (N := 5) hx hb hts (iw_LN _) hown hK hP 0 rfl rfl 4 (by decide) (hts _ (List.mem_cons_of_mem _ k_95)) (fun _ h9 => h9) rfl d_LN_byteAt_1 ?_
  refine lv_iload_n hx hb d_LN_byteAt_4 rfl (lv_at hl 1 rfl) ?_
  refine lv_iload_n hx hb d_LN_byteAt_5 rfl (lv_at hl 2 rfl) ?_
  refine mk_r1 (W.runV (As := [.int x9, .int z9]) (rest := []) S (c_Sl_getX l dC dI cI hs as B x9 z9 (by first | assumption | omega)) (gV 2 hts k_213 k_214 k_215 k_28 k_216 (by decide +kernel) ⟨Nat.le_of_ble_eq_true rfl, Nat.le_of_ble_eq_true rfl⟩) (mk_vR hP hK hT hS [9, 10] rfl (q0 := 9) (ci := 4) rfl rfl) rfl rfl hl.1 rfl (lv_room (Nat.le_of_ble_eq_true rfl)) d_LN_byteAt_6 ⟨Nat.zero_le _, Nat.zero_le _⟩) ?_
  exact hret _ _ d_LN_byteAt_9

set_option maxHeartbeats 4000000 in
set_option maxRecDepth 100000 in
theorem c_LN_sum (l : Launch) (dC : Nat → ClassId) (dI : Nat → Nat → Nat) (cI : ClassId) (x f0 a0 n0 : Nat) (v0 : Nat → Nat) (f1 a1 n1 : Nat) (v1 : Nat → Nat) (h a : Nat) (b : Nat → Nat) (hp ap : Nat) (pb : Nat → Nat) (hs as : Nat) (B : Nat → Nat) (q : Nat) (hn0 : n0 ≤ 255) (hv0 : ∀ j, v0 j < 65536) (hn1 : n1 ≤ 255) (hv1 : ∀ j, v1 j < 65536) (hb9 : ∀ j, b j < 65536) (hpb : ∀ j, pb j < 65536) (hB : ∀ j, B j < 256) (hq : q < 32) : mR l y_LN_sum w_LN_sum ({ frames := 4, cells := 0, slots := 0, locals := 87 } : Room) [.ref x, .int (nI q)] (dC, dI) vwCl [(cI, .int)] [(x, .inr (0, [.ref f0, .ref f1, .ref h, .ref hp, .ref hs])), (f0, .inr (1, [.ref a0, .int (nI n0)])), (a0, .inl (cI, 255, .inl (nf v0))), (f1, .inr (1, [.ref a1, .int (nI n1)])), (a1, .inl (cI, 255, .inl (nf v1))), (h, .inr (2, [.ref a])), (a, .inl (cI, 11, .inl (nf b))), (hp, .inr (3, [.ref ap])), (ap, .inl (cI, 32, .inl (nf pb))), (hs, .inr (4, [.ref as])), (as, .inl (cI, 1024, .inl (nf B)))] (some (.int (nI (suN B (q * 32) 11)))) := by
  refine mk_Ri (cc := b_LN_sum) (maxL := 2) (by decide) rfl (Nat.le_of_ble_eq_true rfl) rfl ?_
  intro p e s m below meth c Q A ls S hP hK hT hS hl hret
  obtain ⟨hx, hb, hml, hown, hts⟩ := id S
  have hl : lv_has ls 2 [(0, .ref x), (1, .int (nI q))] := hl
  refine lv_iload_n hx hb d_LN_sum_0 rfl (lv_at hl 1 rfl) ?_
  refine mk_r1 (W.runS (As := [.int (nI q)]) (rest := []) S (c_Sl_isN l dC dI cI q (by first | assumption | omega)) (gS 1 hts k_221 k_207 k_28 k_208 (by decide +kernel) ⟨Nat.le_of_ble_eq_true rfl, Nat.le_of_ble_eq_true rfl⟩) (mk_sR hP hK hT hS [] rfl) rfl rfl hl.1 rfl (lv_room (Nat.le_of_ble_eq_true rfl)) d_LN_sum_1 ⟨Nat.zero_le _, Nat.zero_le _⟩) ?_
  refine lv_if_eq (tgt := 18) hx hb d_LN_sum_4 (by decide) (fun c_1 => ?_) (fun c_1 => ?_)
  · skip
    rw [mk_ceq (by omega)] at c_1
    first | omega | contradiction
  · skip
    rw [mk_ceq (by omega)] at c_1
    refine lv_aload_n hx hb d_LN_sum_7 rfl (lv_at hl 0 rfl) ?_
    refine va_get (D := (dC, dI)) (ci := 0) (v := .ref hs) (C := "LongNames") (T := F_LN) (N := 5) hx hb hts (iw_LN _) hown hK hP 0 rfl rfl 4 (by decide) (hts _ (List.mem_cons_of_mem _ k_95)) (fun _ h9 => h9) rfl d_LN_sum_8 ?_
    refine lv_iload_n hx hb d_LN_sum_11 rfl (lv_at hl 1 rfl) ?_
    refine mk_r1 (W.runV (As := [.int (nI q)]) (rest := []) S (c_Sl_sum l dC dI cI hs as B q (by first | assumption | omega) (by first | assumption | omega)) (gV 1 hts k_222 k_223 k_224 k_28 k_225 (by decide +kernel) ⟨Nat.le_of_ble_eq_true rfl, Nat.le_of_ble_eq_true rfl⟩) (mk_vR hP hK hT hS [9, 10] rfl (q0 := 9) (ci := 4) rfl rfl) rfl rfl hl.1 rfl (lv_room (Nat.le_of_ble_eq_true rfl)) d_LN_sum_12 ⟨Nat.zero_le _, Nat.zero_le _⟩) ?_
    refine lv_goto (tgt := 19) hx hb d_LN_sum_15 (by decide) ?_
    exact hret _ _ d_LN_sum_19

set_option maxHeartbeats 4000000 in
set_option maxRecDepth 100000 in
theorem c_LN_sumx (l : Launch) (dC : Nat → ClassId) (dI : Nat → Nat → Nat) (cI : ClassId) (x f0 a0 n0 : Nat) (v0 : Nat → Nat) (f1 a1 n1 : Nat) (v1 : Nat → Nat) (h a : Nat) (b : Nat → Nat) (hp ap : Nat) (pb : Nat → Nat) (hs as : Nat) (B : Nat → Nat) (x9 : Int32) (hn0 : n0 ≤ 255) (hv0 : ∀ j, v0 j < 65536) (hn1 : n1 ≤ 255) (hv1 : ∀ j, v1 j < 65536) (hb9 : ∀ j, b j < 65536) (hpb : ∀ j, pb j < 65536) (hB : ∀ j, B j < 256) (hk : x9 < 0 ∨ nI 32 ≤ x9) : mR l y_LN_sum w_LN_sum ({ frames := 1, cells := 0, slots := 0, locals := 20 } : Room) [.ref x, .int x9] (dC, dI) vwCl [(cI, .int)] [(x, .inr (0, [.ref f0, .ref f1, .ref h, .ref hp, .ref hs])), (f0, .inr (1, [.ref a0, .int (nI n0)])), (a0, .inl (cI, 255, .inl (nf v0))), (f1, .inr (1, [.ref a1, .int (nI n1)])), (a1, .inl (cI, 255, .inl (nf v1))), (h, .inr (2, [.ref a])), (a, .inl (cI, 11, .inl (nf b))), (hp, .inr (3, [.ref ap])), (ap, .inl (cI, 32, .inl (nf pb))), (hs, .inr (4, [.ref as])), (as, .inl (cI, 1024, .inl (nf B)))] (some (.int (-1))) := by
  refine mk_Ri (cc := b_LN_sum) (maxL := 2) (by decide) rfl (Nat.le_of_ble_eq_true rfl) rfl ?_
  intro p e s m below meth c Q A ls S hP hK hT hS hl hret
  obtain ⟨hx, hb, hml, hown, hts⟩ := id S
  have hl : lv_has ls 2 [(0, .ref x), (1, .int x9)] := hl
  refine lv_iload_n hx hb d_LN_sum_0 rfl (lv_at hl 1 rfl) ?_
  refine mk_r1 (W.runS (As := [.int x9]) (rest := []) S (c_Sl_isX l dC dI cI x9 (by first | assumption | omega)) (gS 1 hts k_221 k_207 k_28 k_208 (by decide +kernel) ⟨Nat.le_of_ble_eq_true rfl, Nat.le_of_ble_eq_true rfl⟩) (mk_sR hP hK hT hS [] rfl) rfl rfl hl.1 rfl (lv_room (Nat.le_of_ble_eq_true rfl)) d_LN_sum_1 ⟨Nat.zero_le _, Nat.zero_le _⟩) ?_
  refine lv_if_eq (tgt := 18) hx hb d_LN_sum_4 (by decide) (fun c_1 => ?_) (fun c_1 => ?_)
  · skip
    rw [mk_ceq (by omega)] at c_1
    refine lv_iconst (v := (-1)) hx hb d_LN_sum_18 (by decide) ?_
    exact hret _ _ d_LN_sum_19
  · skip
    rw [mk_ceq (by omega)] at c_1
    first | omega | contradiction

set_option maxHeartbeats 4000000 in
set_option maxRecDepth 100000 in
theorem c_LN_secx (l : Launch) (dC : Nat → ClassId) (dI : Nat → Nat → Nat) (cI : ClassId) (x f0 a0 n0 : Nat) (v0 : Nat → Nat) (f1 a1 n1 : Nat) (v1 : Nat → Nat) (h a : Nat) (b : Nat → Nat) (hp ap : Nat) (pb : Nat → Nat) (hs as : Nat) (B : Nat → Nat) (x9 z9 : Int32) (hn0 : n0 ≤ 255) (hv0 : ∀ j, v0 j < 65536) (hn1 : n1 ≤ 255) (hv1 : ∀ j, v1 j < 65536) (hb9 : ∀ j, b j < 65536) (hpb : ∀ j, pb j < 65536) (hB : ∀ j, B j < 256) (hd : x9 < 0 ∨ ¬ x9 ≤ nI 65535) : mR l y_LN_seconds w_LN_seconds ({ frames := 1, cells := 0, slots := 0, locals := 21 } : Room) [.ref x, .int x9, .int z9] (dC, dI) vwCl [(cI, .int)] [(x, .inr (0, [.ref f0, .ref f1, .ref h, .ref hp, .ref hs])), (f0, .inr (1, [.ref a0, .int (nI n0)])), (a0, .inl (cI, 255, .inl (nf v0))), (f1, .inr (1, [.ref a1, .int (nI n1)])), (a1, .inl (cI, 255, .inl (nf v1))), (h, .inr (2, [.ref a])), (a, .inl (cI, 11, .inl (nf b))), (hp, .inr (3, [.ref ap])), (ap, .inl (cI, 32, .inl (nf pb))), (hs, .inr (4, [.ref as])), (as, .inl (cI, 1024, .inl (nf B)))] (some (.long (-1))) := by
  refine mk_Rl (cc := b_LN_seconds) (maxL := 3) (by decide) rfl (Nat.le_of_ble_eq_true rfl) ?_
  intro p e s m below meth c Q A ls S hP hK hT hS hl hret
  obtain ⟨hx, hb, hml, hown, hts⟩ := id S
  have hl : lv_has ls 3 [(0, .ref x), (1, .int x9), (2, .int z9)] := hl
  refine lv_iload_n hx hb d_LN_seconds_0 rfl (lv_at hl 1 rfl) ?_
  refine mk_r1 (W.runS (As := [.int x9]) (rest := []) S (c_Dy_isDayX l dC dI cI x9 (by first | assumption | omega)) (gS 1 hts k_231 k_232 k_38 k_233 (by decide +kernel) ⟨Nat.le_of_ble_eq_true rfl, Nat.le_of_ble_eq_true rfl⟩) (mk_sR hP hK hT hS [] rfl) rfl rfl hl.1 rfl (lv_room (Nat.le_of_ble_eq_true rfl)) d_LN_seconds_1 ⟨Nat.zero_le _, Nat.zero_le _⟩) ?_
  refine lv_if_eq (tgt := 14) hx hb d_LN_seconds_4 (by decide) (fun c_1 => ?_) (fun c_1 => ?_)
  · skip
    rw [mk_ceq (by omega)] at c_1
    refine lv_ldc2 (v := (-1)) hx hb hown (hts _ (List.mem_cons_of_mem _ k_264)) d_LN_seconds_14 ?_
    exact hret _ _ d_LN_seconds_17
  · skip
    rw [mk_ceq (by omega)] at c_1
    first | omega | contradiction

set_option maxHeartbeats 4000000 in
set_option maxRecDepth 100000 in
theorem c_LN_secd (l : Launch) (dC : Nat → ClassId) (dI : Nat → Nat → Nat) (cI : ClassId) (x f0 a0 n0 : Nat) (v0 : Nat → Nat) (f1 a1 n1 : Nat) (v1 : Nat → Nat) (h a : Nat) (b : Nat → Nat) (hp ap : Nat) (pb : Nat → Nat) (hs as : Nat) (B : Nat → Nat) (d : Nat) (z9 : Int32) (hn0 : n0 ≤ 255) (hv0 : ∀ j, v0 j < 65536) (hn1 : n1 ≤ 255) (hv1 : ∀ j, v1 j < 65536) (hb9 : ∀ j, b j < 65536) (hpb : ∀ j, pb j < 65536) (hB : ∀ j, B j < 256) (hd : d < 65536) (hi : idN d = false) : mR l y_LN_seconds w_LN_seconds ({ frames := 3, cells := 0, slots := 0, locals := 62 } : Room) [.ref x, .int (nI d), .int z9] (dC, dI) vwCl [(cI, .int)] [(x, .inr (0, [.ref f0, .ref f1, .ref h, .ref hp, .ref hs])), (f0, .inr (1, [.ref a0, .int (nI n0)])), (a0, .inl (cI, 255, .inl (nf v0))), (f1, .inr (1, [.ref a1, .int (nI n1)])), (a1, .inl (cI, 255, .inl (nf v1))), (h, .inr (2, [.ref a])), (a, .inl (cI, 11, .inl (nf b))), (hp, .inr (3, [.ref ap])), (ap, .inl (cI, 32, .inl (nf pb))), (hs, .inr (4, [.ref as])), (as, .inl (cI, 1024, .inl (nf B)))] (some (.long (-1))) := by
  refine mk_Rl (cc := b_LN_seconds) (maxL := 3) (by decide) rfl (Nat.le_of_ble_eq_true rfl) ?_
  intro p e s m below meth c Q A ls S hP hK hT hS hl hret
  obtain ⟨hx, hb, hml, hown, hts⟩ := id S
  have hl : lv_has ls 3 [(0, .ref x), (1, .int (nI d)), (2, .int z9)] := hl
  refine lv_iload_n hx hb d_LN_seconds_0 rfl (lv_at hl 1 rfl) ?_
  refine mk_r1 (W.runS (As := [.int (nI d)]) (rest := []) S (c_Dy_isDay l dC dI cI d (by first | assumption | omega)) (gS 1 hts k_231 k_232 k_38 k_233 (by decide +kernel) ⟨Nat.le_of_ble_eq_true rfl, Nat.le_of_ble_eq_true rfl⟩) (mk_sR hP hK hT hS [] rfl) rfl rfl hl.1 rfl (lv_room (Nat.le_of_ble_eq_true rfl)) d_LN_seconds_1 ⟨Nat.zero_le _, Nat.zero_le _⟩) ?_
  refine lv_if_eq (tgt := 14) hx hb d_LN_seconds_4 (by decide) (fun c_1 => ?_) (fun c_1 => ?_)
  · skip
    have c_1 := bI_0 c_1
    refine lv_ldc2 (v := (-1)) hx hb hown (hts _ (List.mem_cons_of_mem _ k_264)) d_LN_seconds_14 ?_
    exact hret _ _ d_LN_seconds_17
  · skip
    have c_1 := bI_1 c_1
    rw [hi] at c_1; exact absurd c_1 (by decide)

set_option maxHeartbeats 4000000 in
set_option maxRecDepth 100000 in
theorem c_LN_secy (l : Launch) (dC : Nat → ClassId) (dI : Nat → Nat → Nat) (cI : ClassId) (x f0 a0 n0 : Nat) (v0 : Nat → Nat) (f1 a1 n1 : Nat) (v1 : Nat → Nat) (h a : Nat) (b : Nat → Nat) (hp ap : Nat) (pb : Nat → Nat) (hs as : Nat) (B : Nat → Nat) (d : Nat) (x9 : Int32) (hn0 : n0 ≤ 255) (hv0 : ∀ j, v0 j < 65536) (hn1 : n1 ≤ 255) (hv1 : ∀ j, v1 j < 65536) (hb9 : ∀ j, b j < 65536) (hpb : ∀ j, pb j < 65536) (hB : ∀ j, B j < 256) (hd : d < 65536) (hi : idN d = true) (ht : x9 < 0 ∨ ¬ x9 ≤ nI 65535) : mR l y_LN_seconds w_LN_seconds ({ frames := 3, cells := 0, slots := 0, locals := 62 } : Room) [.ref x, .int (nI d), .int x9] (dC, dI) vwCl [(cI, .int)] [(x, .inr (0, [.ref f0, .ref f1, .ref h, .ref hp, .ref hs])), (f0, .inr (1, [.ref a0, .int (nI n0)])), (a0, .inl (cI, 255, .inl (nf v0))), (f1, .inr (1, [.ref a1, .int (nI n1)])), (a1, .inl (cI, 255, .inl (nf v1))), (h, .inr (2, [.ref a])), (a, .inl (cI, 11, .inl (nf b))), (hp, .inr (3, [.ref ap])), (ap, .inl (cI, 32, .inl (nf pb))), (hs, .inr (4, [.ref as])), (as, .inl (cI, 1024, .inl (nf B)))] (some (.long (-1))) := by
  refine mk_Rl (cc := b_LN_seconds) (maxL := 3) (by decide) rfl (Nat.le_of_ble_eq_true rfl) ?_
  intro p e s m below meth c Q A ls S hP hK hT hS hl hret
  obtain ⟨hx, hb, hml, hown, hts⟩ := id S
  have hl : lv_has ls 3 [(0, .ref x), (1, .int (nI d)), (2, .int x9)] := hl
  refine lv_iload_n hx hb d_LN_seconds_0 rfl (lv_at hl 1 rfl) ?_
  refine mk_r1 (W.runS (As := [.int (nI d)]) (rest := []) S (c_Dy_isDay l dC dI cI d (by first | assumption | omega)) (gS 1 hts k_231 k_232 k_38 k_233 (by decide +kernel) ⟨Nat.le_of_ble_eq_true rfl, Nat.le_of_ble_eq_true rfl⟩) (mk_sR hP hK hT hS [] rfl) rfl rfl hl.1 rfl (lv_room (Nat.le_of_ble_eq_true rfl)) d_LN_seconds_1 ⟨Nat.zero_le _, Nat.zero_le _⟩) ?_
  refine lv_if_eq (tgt := 14) hx hb d_LN_seconds_4 (by decide) (fun c_1 => ?_) (fun c_1 => ?_)
  · skip
    have c_1 := bI_0 c_1
    rw [hi] at c_1; exact absurd c_1 (by decide)
  · skip
    have c_1 := bI_1 c_1
    refine lv_iload_n hx hb d_LN_seconds_7 rfl (lv_at hl 2 rfl) ?_
    refine mk_r1 (W.runS (As := [.int x9]) (rest := []) S (c_Dy_isTimeX l dC dI cI x9 (by first | assumption | omega)) (gS 1 hts k_252 k_253 k_38 k_254 (by decide +kernel) ⟨Nat.le_of_ble_eq_true rfl, Nat.le_of_ble_eq_true rfl⟩) (mk_sR hP hK hT hS [] rfl) rfl rfl hl.1 rfl (lv_room (Nat.le_of_ble_eq_true rfl)) d_LN_seconds_8 ⟨Nat.zero_le _, Nat.zero_le _⟩) ?_
    refine lv_if_ne (tgt := 18) hx hb d_LN_seconds_11 (by decide) (fun c_2 => ?_) (fun c_2 => ?_)
    · skip
      rw [mk_ceq (by omega)] at c_2
      first | omega | contradiction
    · skip
      rw [mk_ceq (by omega)] at c_2
      refine lv_ldc2 (v := (-1)) hx hb hown (hts _ (List.mem_cons_of_mem _ k_264)) d_LN_seconds_14 ?_
      exact hret _ _ d_LN_seconds_17

set_option maxHeartbeats 4000000 in
set_option maxRecDepth 100000 in
theorem c_LN_sect (l : Launch) (dC : Nat → ClassId) (dI : Nat → Nat → Nat) (cI : ClassId) (x f0 a0 n0 : Nat) (v0 : Nat → Nat) (f1 a1 n1 : Nat) (v1 : Nat → Nat) (h a : Nat) (b : Nat → Nat) (hp ap : Nat) (pb : Nat → Nat) (hs as : Nat) (B : Nat → Nat) (d t : Nat) (hn0 : n0 ≤ 255) (hv0 : ∀ j, v0 j < 65536) (hn1 : n1 ≤ 255) (hv1 : ∀ j, v1 j < 65536) (hb9 : ∀ j, b j < 65536) (hpb : ∀ j, pb j < 65536) (hB : ∀ j, B j < 256) (hd : d < 65536) (hi : idN d = true) (ht : t < 65536) (hj : itN t = false) : mR l y_LN_seconds w_LN_seconds ({ frames := 3, cells := 0, slots := 0, locals := 62 } : Room) [.ref x, .int (nI d), .int (nI t)] (dC, dI) vwCl [(cI, .int)] [(x, .inr (0, [.ref f0, .ref f1, .ref h, .ref hp, .ref hs])), (f0, .inr (1, [.ref a0, .int (nI n0)])), (a0, .inl (cI, 255, .inl (nf v0))), (f1, .inr (1, [.ref a1, .int (nI n1)])), (a1, .inl (cI, 255, .inl (nf v1))), (h, .inr (2, [.ref a])), (a, .inl (cI, 11, .inl (nf b))), (hp, .inr (3, [.ref ap])), (ap, .inl (cI, 32, .inl (nf pb))), (hs, .inr (4, [.ref as])), (as, .inl (cI, 1024, .inl (nf B)))] (some (.long (-1))) := by
  refine mk_Rl (cc := b_LN_seconds) (maxL := 3) (by decide) rfl (Nat.le_of_ble_eq_true rfl) ?_
  intro p e s m below meth c Q A ls S hP hK hT hS hl hret
  obtain ⟨hx, hb, hml, hown, hts⟩ := id S
  have hl : lv_has ls 3 [(0, .ref x), (1, .int (nI d)), (2, .int (nI t))] := hl
  refine lv_iload_n hx hb d_LN_seconds_0 rfl (lv_at hl 1 rfl) ?_
  refine mk_r1 (W.runS (As := [.int (nI d)]) (rest := []) S (c_Dy_isDay l dC dI cI d (by first | assumption | omega)) (gS 1 hts k_231 k_232 k_38 k_233 (by decide +kernel) ⟨Nat.le_of_ble_eq_true rfl, Nat.le_of_ble_eq_true rfl⟩) (mk_sR hP hK hT hS [] rfl) rfl rfl hl.1 rfl (lv_room (Nat.le_of_ble_eq_true rfl)) d_LN_seconds_1 ⟨Nat.zero_le _, Nat.zero_le _⟩) ?_
  refine lv_if_eq (tgt := 14) hx hb d_LN_seconds_4 (by decide) (fun c_1 => ?_) (fun c_1 => ?_)
  · skip
    have c_1 := bI_0 c_1
    rw [hi] at c_1; exact absurd c_1 (by decide)
  · skip
    have c_1 := bI_1 c_1
    refine lv_iload_n hx hb d_LN_seconds_7 rfl (lv_at hl 2 rfl) ?_
    refine mk_r1 (W.runS (As := [.int (nI t)]) (rest := []) S (c_Dy_isTime l dC dI cI t (by first | assumption | omega)) (gS 1 hts k_252 k_253 k_38 k_254 (by decide +kernel) ⟨Nat.le_of_ble_eq_true rfl, Nat.le_of_ble_eq_true rfl⟩) (mk_sR hP hK hT hS [] rfl) rfl rfl hl.1 rfl (lv_room (Nat.le_of_ble_eq_true rfl)) d_LN_seconds_8 ⟨Nat.zero_le _, Nat.zero_le _⟩) ?_
    refine lv_if_ne (tgt := 18) hx hb d_LN_seconds_11 (by decide) (fun c_2 => ?_) (fun c_2 => ?_)
    · skip
      have c_2 := bI_1 c_2
      rw [hj] at c_2; exact absurd c_2 (by decide)
    · skip
      have c_2 := bI_0 c_2
      refine lv_ldc2 (v := (-1)) hx hb hown (hts _ (List.mem_cons_of_mem _ k_264)) d_LN_seconds_14 ?_
      exact hret _ _ d_LN_seconds_17

set_option maxHeartbeats 4000000 in
set_option maxRecDepth 100000 in
theorem c_LN_sec (l : Launch) (dC : Nat → ClassId) (dI : Nat → Nat → Nat) (cI : ClassId) (x f0 a0 n0 : Nat) (v0 : Nat → Nat) (f1 a1 n1 : Nat) (v1 : Nat → Nat) (h a : Nat) (b : Nat → Nat) (hp ap : Nat) (pb : Nat → Nat) (hs as : Nat) (B : Nat → Nat) (d t : Nat) (hn0 : n0 ≤ 255) (hv0 : ∀ j, v0 j < 65536) (hn1 : n1 ≤ 255) (hv1 : ∀ j, v1 j < 65536) (hb9 : ∀ j, b j < 65536) (hpb : ∀ j, pb j < 65536) (hB : ∀ j, B j < 256) (hd : d < 65536) (hi : idN d = true) (ht : t < 65536) (hj : itN t = true) : mR l y_LN_seconds w_LN_seconds ({ frames := 3, cells := 0, slots := 0, locals := 66 } : Room) [.ref x, .int (nI d), .int (nI t)] (dC, dI) vwCl [(cI, .int)] [(x, .inr (0, [.ref f0, .ref f1, .ref h, .ref hp, .ref hs])), (f0, .inr (1, [.ref a0, .int (nI n0)])), (a0, .inl (cI, 255, .inl (nf v0))), (f1, .inr (1, [.ref a1, .int (nI n1)])), (a1, .inl (cI, 255, .inl (nf v1))), (h, .inr (2, [.ref a])), (a, .inl (cI, 11, .inl (nf b))), (hp, .inr (3, [.ref ap])), (ap, .inl (cI, 32, .inl (nf pb))), (hs, .inr (4, [.ref as])), (as, .inl (cI, 1024, .inl (nf B)))] (some (.long (lN (sdN d + stmN t)))) := by
  have h7 := idN_ok hi
  refine mk_Rl (cc := b_LN_seconds) (maxL := 3) (by decide) rfl (Nat.le_of_ble_eq_true rfl) ?_
  intro p e s m below meth c Q A ls S hP hK hT hS hl hret
  obtain ⟨hx, hb, hml, hown, hts⟩ := id S
  have hl : lv_has ls 3 [(0, .ref x), (1, .int (nI d)), (2, .int (nI t))] := hl
  refine lv_iload_n hx hb d_LN_seconds_0 rfl (lv_at hl 1 rfl) ?_
  refine mk_r1 (W.runS (As := [.int (nI d)]) (rest := []) S (c_Dy_isDay l dC dI cI d (by first | assumption | omega)) (gS 1 hts k_231 k_232 k_38 k_233 (by decide +kernel) ⟨Nat.le_of_ble_eq_true rfl, Nat.le_of_ble_eq_true rfl⟩) (mk_sR hP hK hT hS [] rfl) rfl rfl hl.1 rfl (lv_room (Nat.le_of_ble_eq_true rfl)) d_LN_seconds_1 ⟨Nat.zero_le _, Nat.zero_le _⟩) ?_
  refine lv_if_eq (tgt := 14) hx hb d_LN_seconds_4 (by decide) (fun c_1 => ?_) (fun c_1 => ?_)
  · skip
    have c_1 := bI_0 c_1
    rw [hi] at c_1; exact absurd c_1 (by decide)
  · skip
    have c_1 := bI_1 c_1
    refine lv_iload_n hx hb d_LN_seconds_7 rfl (lv_at hl 2 rfl) ?_
    refine mk_r1 (W.runS (As := [.int (nI t)]) (rest := []) S (c_Dy_isTime l dC dI cI t (by first | assumption | omega)) (gS 1 hts k_252 k_253 k_38 k_254 (by decide +kernel) ⟨Nat.le_of_ble_eq_true rfl, Nat.le_of_ble_eq_true rfl⟩) (mk_sR hP hK hT hS [] rfl) rfl rfl hl.1 rfl (lv_room (Nat.le_of_ble_eq_true rfl)) d_LN_seconds_8 ⟨Nat.zero_le _, Nat.zero_le _⟩) ?_
    refine lv_if_ne (tgt := 18) hx hb d_LN_seconds_11 (by decide) (fun c_2 => ?_) (fun c_2 => ?_)
    · skip
      have c_2 := bI_1 c_2
      refine lv_iload_n hx hb d_LN_seconds_18 rfl (lv_at hl 1 rfl) ?_
      refine mk_r1 (W.runS (As := [.int (nI d)]) (rest := []) S (c_Dy_sbd l dC dI cI d (by first | assumption | omega) (by first | assumption | omega) (by first | assumption | omega)) (gS 1 hts k_265 k_266 k_38 k_267 (by decide +kernel) ⟨Nat.le_of_ble_eq_true rfl, Nat.le_of_ble_eq_true rfl⟩) (mk_sR hP hK hT hS [] rfl) rfl rfl hl.1 rfl (lv_room (Nat.le_of_ble_eq_true rfl)) d_LN_seconds_19 ⟨Nat.zero_le _, Nat.zero_le _⟩) ?_
      refine lv_iload_n hx hb d_LN_seconds_22 rfl (lv_at hl 2 rfl) ?_
      refine mk_r1 (W.runS (As := [.int (nI t)]) (rest := [.long (lN (sdN d))]) S (c_Dy_sot l dC dI cI t (by first | assumption | omega)) (gS 1 hts k_271 k_272 k_38 k_273 (by decide +kernel) ⟨Nat.le_of_ble_eq_true rfl, Nat.le_of_ble_eq_true rfl⟩) (mk_sR hP hK hT hS [] rfl) rfl rfl hl.1 rfl (lv_room (Nat.le_of_ble_eq_true rfl)) d_LN_seconds_23 ⟨Nat.zero_le _, Nat.zero_le _⟩) ?_
      refine lv_ladd hx hb d_LN_seconds_26 ?_
      refine mk_tl (y := lN (sdN d + stmN t)) (lN_add (sdN d) (stmN t)) ?_
      exact hret _ _ d_LN_seconds_27
    · skip
      have c_2 := bI_0 c_2
      rw [hj] at c_2; exact absurd c_2 (by decide)

