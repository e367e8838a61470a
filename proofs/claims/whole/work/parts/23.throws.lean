theorem th_in_IllegalArgumentException : ∀ z ∈ th_at "LongNames" 81 "java/lang/IllegalArgumentException", z ∈ BIG := by decide +kernel
theorem th_ok_IllegalArgumentException : th_ok "LongNames" 81 "java/lang/IllegalArgumentException" = true := by decide +kernel
theorem th_in_IndexOutOfBoundsException : ∀ z ∈ th_at "LongNames" 95 "java/lang/IndexOutOfBoundsException", z ∈ BIG := by decide +kernel
theorem th_ok_IndexOutOfBoundsException : th_ok "LongNames" 95 "java/lang/IndexOutOfBoundsException" = true := by decide +kernel
theorem th_in_IllegalStateException : ∀ z ∈ th_at "LongNames" 125 "java/lang/IllegalStateException", z ∈ BIG := by decide +kernel
theorem th_ok_IllegalStateException : th_ok "LongNames" 125 "java/lang/IllegalStateException" = true := by decide +kernel
theorem th_good {ws : List Cond} (z : Cond) (hw : ws = z :: BIG) (hz : goodWord z = true := by rfl) : ∀ w ∈ ws, goodWord w = true := by
  intro w h
  rw [hw] at h
  rcases List.mem_cons.mp h with rfl | h
  · exact hz
  · exact big_good w h
set_option maxHeartbeats 1000000 in
set_option maxRecDepth 100000 in
theorem x_write (l : Launch) (dC : Nat → ClassId) (dI : Nat → Nat → Nat) (cI : ClassId) (x f0 a0 n0 : Nat) (v0 : Nat → Nat) (f1 a1 n1 : Nat) (v1 : Nat → Nat) (h a : Nat) (b : Nat → Nat) (hp ap : Nat) (pb : Nat → Nat) (hs as : Nat) (B : Nat → Nat) (r y9 z9 : Int32) (hn0 : n0 ≤ 255) (hv0 : ∀ j, v0 j < 65536) (hn1 : n1 ≤ 255) (hv1 : ∀ j, v1 j < 65536) (hb9 : ∀ j, b j < 65536) (hpb : ∀ j, pb j < 65536) (hB : ∀ j, B j < 256) (hr0 : ¬ r = 0) (hr1 : ¬ r = nI 1) (htr : l.stackTraces = false) : mT l y_LN_write w_LN_write ({ frames := 6, cells := 1, slots := 6, locals := 82 } : Room) [.ref x, .int r, .int y9, .int z9] (dC, dI) vwCl [(cI, .int)] [(x, .inr (0, [.ref f0, .ref f1, .ref h, .ref hp, .ref hs])), (f0, .inr (1, [.ref a0, .int (nI n0)])), (a0, .inl (cI, 255, .inl (nf v0))), (f1, .inr (1, [.ref a1, .int (nI n1)])), (a1, .inl (cI, 255, .inl (nf v1))), (h, .inr (2, [.ref a])), (a, .inl (cI, 11, .inl (nf b))), (hp, .inr (3, [.ref ap])), (ap, .inl (cI, 32, .inl (nf pb))), (hs, .inr (4, [.ref as])), (as, .inl (cI, 1024, .inl (nf B)))] "java/lang/IllegalArgumentException" [(x, .inr (0, [.ref f0, .ref f1, .ref h, .ref hp, .ref hs])), (f0, .inr (1, [.ref a0, .int (nI n0)])), (a0, .inl (cI, 255, .inl (nf v0))), (f1, .inr (1, [.ref a1, .int (nI n1)])), (a1, .inl (cI, 255, .inl (nf v1))), (h, .inr (2, [.ref a])), (a, .inl (cI, 11, .inl (nf b))), (hp, .inr (3, [.ref ap])), (ap, .inl (cI, 32, .inl (nf pb))), (hs, .inr (4, [.ref as])), (as, .inl (cI, 1024, .inl (nf B)))] := by
  refine mk_Th (cc := b_LN_write) (maxL := 6) (by decide) rfl (Nat.le_of_ble_eq_true rfl) (th_good _ rfl) htr (by decide +kernel) (by decide) (by decide) rfl rfl ?_
  intro p e s m below meth c Q A ls S hP hK hT hS hl hD hA hthr
  obtain ⟨hx, hb, hml, hown, hts⟩ := id S
  have hl : lv_has ls 6 [(0, .ref x), (1, .int r), (2, .int y9), (3, .int z9)] := hl
  refine lv_aload_n hx hb d_LN_write_0 rfl (lv_at hl 0 rfl) ?_
  refine lv_iload_n hx hb d_LN_write_1 rfl (lv_at hl 1 rfl) ?_
  refine mk_r1 (W.runV (As := [.int r]) (rest := []) S (c_LN_rowX l dC dI cI x f0 f1 h hp hs r (by first | assumption | omega) (by first | assumption | omega)) (gV 1 hts k_111 k_113 k_0 k_24 k_114 (by decide +kernel) ⟨Nat.le_of_ble_eq_true rfl, Nat.le_of_ble_eq_true rfl⟩) (mk_vR hP hK hT hS [0] rfl (q0 := 0) (ci := 0) rfl rfl) rfl rfl hl.1 rfl (lv_room (Nat.le_of_ble_eq_true rfl)) d_LN_write_2 ⟨Nat.zero_le _, Nat.zero_le _⟩) ?_
  refine lv_astoreN (lv' := [(4, .null), (0, .ref x), (1, .int r), (2, .int y9), (3, .int z9)]) hx hb d_LN_write_5 hl (by decide) rfl (fun ls hl => ?_)
  refine lv_aloadN hx hb d_LN_write_7 (lv_at hl 0 rfl) ?_
  refine lv_ifnullN (tgt := 20) hx hb d_LN_write_9 (by decide) ?_
  obtain ⟨q9, hq9⟩ := hT.str (79, "the row is no name") (by decide)
  exact hthr 20 _ _ _ 77 79 81 "the row is no name" q9 hl.1 d_LN_write_20 d_LN_write_23 d_LN_write_24 d_LN_write_26 d_LN_write_29 (List.mem_cons_of_mem _ k_286) (List.mem_cons_of_mem _ k_287) (List.mem_cons_of_mem _ k_34) (fun z hz => List.mem_cons_of_mem _ (th_in_IllegalArgumentException z hz)) th_ok_IllegalArgumentException hq9 hP hD hS

set_option maxHeartbeats 1000000 in
set_option maxRecDepth 100000 in
theorem x_read (l : Launch) (dC : Nat → ClassId) (dI : Nat → Nat → Nat) (cI : ClassId) (x f0 a0 n0 : Nat) (v0 : Nat → Nat) (f1 a1 n1 : Nat) (v1 : Nat → Nat) (h a : Nat) (b : Nat → Nat) (hp ap : Nat) (pb : Nat → Nat) (hs as : Nat) (B : Nat → Nat) (r y9 z9 : Int32) (hn0 : n0 ≤ 255) (hv0 : ∀ j, v0 j < 65536) (hn1 : n1 ≤ 255) (hv1 : ∀ j, v1 j < 65536) (hb9 : ∀ j, b j < 65536) (hpb : ∀ j, pb j < 65536) (hB : ∀ j, B j < 256) (hr0 : ¬ r = 0) (hr1 : ¬ r = nI 1) (htr : l.stackTraces = false) : mT l y_LN_read w_LN_read ({ frames := 6, cells := 1, slots := 6, locals := 82 } : Room) [.ref x, .int r, .int y9, .int z9] (dC, dI) vwCl [(cI, .int)] [(x, .inr (0, [.ref f0, .ref f1, .ref h, .ref hp, .ref hs])), (f0, .inr (1, [.ref a0, .int (nI n0)])), (a0, .inl (cI, 255, .inl (nf v0))), (f1, .inr (1, [.ref a1, .int (nI n1)])), (a1, .inl (cI, 255, .inl (nf v1))), (h, .inr (2, [.ref a])), (a, .inl (cI, 11, .inl (nf b))), (hp, .inr (3, [.ref ap])), (ap, .inl (cI, 32, .inl (nf pb))), (hs, .inr (4, [.ref as])), (as, .inl (cI, 1024, .inl (nf B)))] "java/lang/IllegalArgumentException" [(x, .inr (0, [.ref f0, .ref f1, .ref h, .ref hp, .ref hs])), (f0, .inr (1, [.ref a0, .int (nI n0)])), (a0, .inl (cI, 255, .inl (nf v0))), (f1, .inr (1, [.ref a1, .int (nI n1)])), (a1, .inl (cI, 255, .inl (nf v1))), (h, .inr (2, [.ref a])), (a, .inl (cI, 11, .inl (nf b))), (hp, .inr (3, [.ref ap])), (ap, .inl (cI, 32, .inl (nf pb))), (hs, .inr (4, [.ref as])), (as, .inl (cI, 1024, .inl (nf B)))] := by
  refine mk_Th (cc := b_LN_read) (maxL := 5) (by decide) rfl (Nat.le_of_ble_eq_true rfl) (th_good _ rfl) htr (by decide +kernel) (by decide) (by decide) rfl rfl ?_
  intro p e s m below meth c Q A ls S hP hK hT hS hl hD hA hthr
  obtain ⟨hx, hb, hml, hown, hts⟩ := id S
  have hl : lv_has ls 5 [(0, .ref x), (1, .int r), (2, .int y9), (3, .int z9)] := hl
  refine lv_aload_n hx hb d_LN_read_0 rfl (lv_at hl 0 rfl) ?_
  refine lv_iload_n hx hb d_LN_read_1 rfl (lv_at hl 1 rfl) ?_
  refine mk_r1 (W.runV (As := [.int r]) (rest := []) S (c_LN_rowX l dC dI cI x f0 f1 h hp hs r (by first | assumption | omega) (by first | assumption | omega)) (gV 1 hts k_111 k_113 k_0 k_24 k_114 (by decide +kernel) ⟨Nat.le_of_ble_eq_true rfl, Nat.le_of_ble_eq_true rfl⟩) (mk_vR hP hK hT hS [0] rfl (q0 := 0) (ci := 0) rfl rfl) rfl rfl hl.1 rfl (lv_room (Nat.le_of_ble_eq_true rfl)) d_LN_read_2 ⟨Nat.zero_le _, Nat.zero_le _⟩) ?_
  refine lv_astoreN (lv' := [(4, .null), (0, .ref x), (1, .int r), (2, .int y9), (3, .int z9)]) hx hb d_LN_read_5 hl (by decide) rfl (fun ls hl => ?_)
  refine lv_aloadN hx hb d_LN_read_7 (lv_at hl 0 rfl) ?_
  refine lv_ifnonnullN hx hb d_LN_read_9 ?_
  obtain ⟨q9, hq9⟩ := hT.str (108, "there is no such row") (by decide)
  exact hthr 12 _ _ _ 77 108 81 "there is no such row" q9 hl.1 d_LN_read_12 d_LN_read_15 d_LN_read_16 d_LN_read_18 d_LN_read_21 (List.mem_cons_of_mem _ k_286) (List.mem_cons_of_mem _ k_287) (List.mem_cons_of_mem _ k_34) (fun z hz => List.mem_cons_of_mem _ (th_in_IllegalArgumentException z hz)) th_ok_IllegalArgumentException hq9 hP hD hS

set_option maxHeartbeats 1000000 in
set_option maxRecDepth 100000 in
theorem x_writeN0 (l : Launch) (dC : Nat → ClassId) (dI : Nat → Nat → Nat) (cI : ClassId) (x f0 a0 n0 : Nat) (v0 : Nat → Nat) (f1 a1 n1 : Nat) (v1 : Nat → Nat) (h a : Nat) (b : Nat → Nat) (hp ap : Nat) (pb : Nat → Nat) (hs as : Nat) (B : Nat → Nat) (y9 z9 : Int32) (hn0 : n0 ≤ 255) (hv0 : ∀ j, v0 j < 65536) (hn1 : n1 ≤ 255) (hv1 : ∀ j, v1 j < 65536) (hb9 : ∀ j, b j < 65536) (hpb : ∀ j, pb j < 65536) (hB : ∀ j, B j < 256) (h1 : nameN v0 n0 = false) (htr : l.stackTraces = false) : mT l y_LN_write w_LN_write ({ frames := 6, cells := 1, slots := 6, locals := 82 } : Room) [.ref x, .int (nI 0), .int y9, .int z9] (dC, dI) vwCl [(cI, .int)] [(x, .inr (0, [.ref f0, .ref f1, .ref h, .ref hp, .ref hs])), (f0, .inr (1, [.ref a0, .int (nI n0)])), (a0, .inl (cI, 255, .inl (nf v0))), (f1, .inr (1, [.ref a1, .int (nI n1)])), (a1, .inl (cI, 255, .inl (nf v1))), (h, .inr (2, [.ref a])), (a, .inl (cI, 11, .inl (nf b))), (hp, .inr (3, [.ref ap])), (ap, .inl (cI, 32, .inl (nf pb))), (hs, .inr (4, [.ref as])), (as, .inl (cI, 1024, .inl (nf B)))] "java/lang/IllegalArgumentException" [(x, .inr (0, [.ref f0, .ref f1, .ref h, .ref hp, .ref hs])), (f0, .inr (1, [.ref a0, .int (nI n0)])), (a0, .inl (cI, 255, .inl (nf v0))), (f1, .inr (1, [.ref a1, .int (nI n1)])), (a1, .inl (cI, 255, .inl (nf v1))), (h, .inr (2, [.ref a])), (a, .inl (cI, 11, .inl (nf b))), (hp, .inr (3, [.ref ap])), (ap, .inl (cI, 32, .inl (nf pb))), (hs, .inr (4, [.ref as])), (as, .inl (cI, 1024, .inl (nf B)))] := by
  refine mk_Th (cc := b_LN_write) (maxL := 6) (by decide) rfl (Nat.le_of_ble_eq_true rfl) (th_good _ rfl) htr (by decide +kernel) (by decide) (by decide) rfl rfl ?_
  intro p e s m below meth c Q A ls S hP hK hT hS hl hD hA hthr
  obtain ⟨hx, hb, hml, hown, hts⟩ := id S
  have hl : lv_has ls 6 [(0, .ref x), (1, .int (nI 0)), (2, .int y9), (3, .int z9)] := hl
  refine lv_aload_n hx hb d_LN_write_0 rfl (lv_at hl 0 rfl) ?_
  refine lv_iload_n hx hb d_LN_write_1 rfl (lv_at hl 1 rfl) ?_
  refine mk_r1 (W.runV (As := [.int (nI 0)]) (rest := []) S (c_LN_row0 l dC dI cI x f0 f1 h hp hs) (gV 1 hts k_111 k_113 k_0 k_24 k_114 (by decide +kernel) ⟨Nat.le_of_ble_eq_true rfl, Nat.le_of_ble_eq_true rfl⟩) (mk_vR hP hK hT hS [0] rfl (q0 := 0) (ci := 0) rfl rfl) rfl rfl hl.1 rfl (lv_room (Nat.le_of_ble_eq_true rfl)) d_LN_write_2 ⟨Nat.zero_le _, Nat.zero_le _⟩) ?_
  refine lv_astore (lv' := [(4, .ref f0), (0, .ref x), (1, .int (nI 0)), (2, .int y9), (3, .int z9)]) hx hb d_LN_write_5 hl (by decide) rfl (fun ls hl => ?_)
  refine lv_aload hx hb d_LN_write_7 (lv_at hl 0 rfl) ?_
  refine lv_ifnull hx hb d_LN_write_9 ?_
  refine lv_aload hx hb d_LN_write_12 (lv_at hl 0 rfl) ?_
  refine mk_r1 (W.runV (As := []) (rest := []) S (c_Ro_name l dC dI cI f0 a0 n0 v0 (by first | assumption | omega) (by first | assumption | omega)) (gV 0 hts k_136 k_137 k_138 k_25 k_139 (by decide +kernel) ⟨Nat.le_of_ble_eq_true rfl, Nat.le_of_ble_eq_true rfl⟩) (mk_vR hP hK hT hS [1, 2] rfl (q0 := 1) (ci := 1) rfl rfl) rfl rfl hl.1 rfl (lv_room (Nat.le_of_ble_eq_true rfl)) d_LN_write_14 ⟨Nat.zero_le _, Nat.zero_le _⟩) ?_
  refine lv_if_ne (tgt := 30) hx hb d_LN_write_17 (by decide) (fun c_1 => ?_) (fun c_1 => ?_)
  · skip
    have c_1 := bI_1 c_1
    rw [h1] at c_1; exact absurd c_1 (by decide)
  · skip
    have c_1 := bI_0 c_1
    obtain ⟨q9, hq9⟩ := hT.str (79, "the row is no name") (by decide)
    exact hthr 20 _ _ _ 77 79 81 "the row is no name" q9 hl.1 d_LN_write_20 d_LN_write_23 d_LN_write_24 d_LN_write_26 d_LN_write_29 (List.mem_cons_of_mem _ k_286) (List.mem_cons_of_mem _ k_287) (List.mem_cons_of_mem _ k_34) (fun z hz => List.mem_cons_of_mem _ (th_in_IllegalArgumentException z hz)) th_ok_IllegalArgumentException hq9 hP hD hS

set_option maxHeartbeats 1000000 in
set_option maxRecDepth 100000 in
theorem x_writeT0 (l : Launch) (dC : Nat → ClassId) (dI : Nat → Nat → Nat) (cI : ClassId) (x f0 a0 n0 : Nat) (v0 : Nat → Nat) (f1 a1 n1 : Nat) (v1 : Nat → Nat) (h a : Nat) (b : Nat → Nat) (hp ap : Nat) (pb : Nat → Nat) (hs as : Nat) (B : Nat → Nat) (y9 z9 : Int32) (hn0 : n0 ≤ 255) (hv0 : ∀ j, v0 j < 65536) (hn1 : n1 ≤ 255) (hv1 : ∀ j, v1 j < 65536) (hb9 : ∀ j, b j < 65536) (hpb : ∀ j, pb j < 65536) (hB : ∀ j, B j < 256) (h1 : nameN v0 n0 = true) (ht : z9 < 0 ∨ ¬ z9 ≤ nI 9999) (htr : l.stackTraces = false) : mT l y_LN_write w_LN_write ({ frames := 6, cells := 1, slots := 6, locals := 82 } : Room) [.ref x, .int (nI 0), .int y9, .int z9] (dC, dI) vwCl [(cI, .int)] [(x, .inr (0, [.ref f0, .ref f1, .ref h, .ref hp, .ref hs])), (f0, .inr (1, [.ref a0, .int (nI n0)])), (a0, .inl (cI, 255, .inl (nf v0))), (f1, .inr (1, [.ref a1, .int (nI n1)])), (a1, .inl (cI, 255, .inl (nf v1))), (h, .inr (2, [.ref a])), (a, .inl (cI, 11, .inl (nf b))), (hp, .inr (3, [.ref ap])), (ap, .inl (cI, 32, .inl (nf pb))), (hs, .inr (4, [.ref as])), (as, .inl (cI, 1024, .inl (nf B)))] "java/lang/IllegalArgumentException" [(x, .inr (0, [.ref f0, .ref f1, .ref h, .ref hp, .ref hs])), (f0, .inr (1, [.ref a0, .int (nI n0)])), (a0, .inl (cI, 255, .inl (nf v0))), (f1, .inr (1, [.ref a1, .int (nI n1)])), (a1, .inl (cI, 255, .inl (nf v1))), (h, .inr (2, [.ref a])), (a, .inl (cI, 11, .inl (nf b))), (hp, .inr (3, [.ref ap])), (ap, .inl (cI, 32, .inl (nf pb))), (hs, .inr (4, [.ref as])), (as, .inl (cI, 1024, .inl (nf B)))] := by
  refine mk_Th (cc := b_LN_write) (maxL := 6) (by decide) rfl (Nat.le_of_ble_eq_true rfl) (th_good _ rfl) htr (by decide +kernel) (by decide) (by decide) rfl rfl ?_
  intro p e s m below meth c Q A ls S hP hK hT hS hl hD hA hthr
  obtain ⟨hx, hb, hml, hown, hts⟩ := id S
  have hl : lv_has ls 6 [(0, .ref x), (1, .int (nI 0)), (2, .int y9), (3, .int z9)] := hl
  refine lv_aload_n hx hb d_LN_write_0 rfl (lv_at hl 0 rfl) ?_
  refine lv_iload_n hx hb d_LN_write_1 rfl (lv_at hl 1 rfl) ?_
  refine mk_r1 (W.runV (As := [.int (nI 0)]) (rest := []) S (c_LN_row0 l dC dI cI x f0 f1 h hp hs) (gV 1 hts k_111 k_113 k_0 k_24 k_114 (by decide +kernel) ⟨Nat.le_of_ble_eq_true rfl, Nat.le_of_ble_eq_true rfl⟩) (mk_vR hP hK hT hS [0] rfl (q0 := 0) (ci := 0) rfl rfl) rfl rfl hl.1 rfl (lv_room (Nat.le_of_ble_eq_true rfl)) d_LN_write_2 ⟨Nat.zero_le _, Nat.zero_le _⟩) ?_
  refine lv_astore (lv' := [(4, .ref f0), (0, .ref x), (1, .int (nI 0)), (2, .int y9), (3, .int z9)]) hx hb d_LN_write_5 hl (by decide) rfl (fun ls hl => ?_)
  refine lv_aload hx hb d_LN_write_7 (lv_at hl 0 rfl) ?_
  refine lv_ifnull hx hb d_LN_write_9 ?_
  refine lv_aload hx hb d_LN_write_12 (lv_at hl 0 rfl) ?_
  refine mk_r1 (W.runV (As := []) (rest := []) S (c_Ro_name l dC dI cI f0 a0 n0 v0 (by first | assumption | omega) (by first | assumption | omega)) (gV 0 hts k_136 k_137 k_138 k_25 k_139 (by decide +kernel) ⟨Nat.le_of_ble_eq_true rfl, Nat.le_of_ble_eq_true rfl⟩) (mk_vR hP hK hT hS [1, 2] rfl (q0 := 1) (ci := 1) rfl rfl) rfl rfl hl.1 rfl (lv_room (Nat.le_of_ble_eq_true rfl)) d_LN_write_14 ⟨Nat.zero_le _, Nat.zero_le _⟩) ?_
  refine lv_if_ne (tgt := 30) hx hb d_LN_write_17 (by decide) (fun c_1 => ?_) (fun c_1 => ?_)
  · skip
    have c_1 := bI_1 c_1
    refine lv_iload_n hx hb d_LN_write_30 rfl (lv_at hl 4 rfl) ?_
    refine lv_if_lt (tgt := 41) hx hb d_LN_write_31 (by decide) (fun c_2 => ?_) (fun c_2 => ?_)
    · skip
      obtain ⟨q9, hq9⟩ := hT.str (84, "the tail is not 0 to 9999") (by decide)
      exact hthr 41 _ _ _ 77 84 81 "the tail is not 0 to 9999" q9 hl.1 d_LN_write_41 d_LN_write_44 d_LN_write_45 d_LN_write_47 d_LN_write_50 (List.mem_cons_of_mem _ k_286) (List.mem_cons_of_mem _ k_287) (List.mem_cons_of_mem _ k_34) (fun z hz => List.mem_cons_of_mem _ (th_in_IllegalArgumentException z hz)) th_ok_IllegalArgumentException hq9 hP hD hS
    · skip
      refine lv_iload_n hx hb d_LN_write_34 rfl (lv_at hl 4 rfl) ?_
      refine lv_sipush (v := nI 9999) hx hb d_LN_write_35 (by decide) ?_
      refine lv_icmp_le (tgt := 51) hx hb d_LN_write_38 (by decide) (fun c_3 => ?_) (fun c_3 => ?_)
      · skip
        rcases ht with h9 | h9 <;> contradiction
      · skip
        obtain ⟨q9, hq9⟩ := hT.str (84, "the tail is not 0 to 9999") (by decide)
        exact hthr 41 _ _ _ 77 84 81 "the tail is not 0 to 9999" q9 hl.1 d_LN_write_41 d_LN_write_44 d_LN_write_45 d_LN_write_47 d_LN_write_50 (List.mem_cons_of_mem _ k_286) (List.mem_cons_of_mem _ k_287) (List.mem_cons_of_mem _ k_34) (fun z hz => List.mem_cons_of_mem _ (th_in_IllegalArgumentException z hz)) th_ok_IllegalArgumentException hq9 hP hD hS
  · skip
    have c_1 := bI_0 c_1
    rw [h1] at c_1; exact absurd c_1 (by decide)

set_option maxHeartbeats 1000000 in
set_option maxRecDepth 100000 in
theorem x_writeS0 (l : Launch) (dC : Nat → ClassId) (dI : Nat → Nat → Nat) (cI : ClassId) (x f0 a0 n0 : Nat) (v0 : Nat → Nat) (f1 a1 n1 : Nat) (v1 : Nat → Nat) (h a : Nat) (b : Nat → Nat) (hp ap : Nat) (pb : Nat → Nat) (hs as : Nat) (B : Nat → Nat) (y9 : Int32) (hn0 : n0 ≤ 255) (hv0 : ∀ j, v0 j < 65536) (hn1 : n1 ≤ 255) (hv1 : ∀ j, v1 j < 65536) (hb9 : ∀ j, b j < 65536) (hpb : ∀ j, pb j < 65536) (hB : ∀ j, B j < 256) (h1 : nameN v0 n0 = true) (h2 : shortN v0 n0 = false) (htr : l.stackTraces = false) : mT l y_LN_write w_LN_write ({ frames := 6, cells := 1, slots := 6, locals := 82 } : Room) [.ref x, .int (nI 0), .int y9, .int (nI 0)] (dC, dI) vwCl [(cI, .int)] [(x, .inr (0, [.ref f0, .ref f1, .ref h, .ref hp, .ref hs])), (f0, .inr (1, [.ref a0, .int (nI n0)])), (a0, .inl (cI, 255, .inl (nf v0))), (f1, .inr (1, [.ref a1, .int (nI n1)])), (a1, .inl (cI, 255, .inl (nf v1))), (h, .inr (2, [.ref a])), (a, .inl (cI, 11, .inl (nf b))), (hp, .inr (3, [.ref ap])), (ap, .inl (cI, 32, .inl (nf pb))), (hs, .inr (4, [.ref as])), (as, .inl (cI, 1024, .inl (nf B)))] "java/lang/IllegalArgumentException" [(x, .inr (0, [.ref f0, .ref f1, .ref h, .ref hp, .ref hs])), (f0, .inr (1, [.ref a0, .int (nI n0)])), (a0, .inl (cI, 255, .inl (nf v0))), (f1, .inr (1, [.ref a1, .int (nI n1)])), (a1, .inl (cI, 255, .inl (nf v1))), (h, .inr (2, [.ref a])), (a, .inl (cI, 11, .inl (nf b))), (hp, .inr (3, [.ref ap])), (ap, .inl (cI, 32, .inl (nf pb))), (hs, .inr (4, [.ref as])), (as, .inl (cI, 1024, .inl (nf B)))] := by
  refine mk_Th (cc := b_LN_write) (maxL := 6) (by decide) rfl (Nat.le_of_ble_eq_true rfl) (th_good _ rfl) htr (by decide +kernel) (by decide) (by decide) rfl rfl ?_
  intro p e s m below meth c Q A ls S hP hK hT hS hl hD hA hthr
  obtain ⟨hx, hb, hml, hown, hts⟩ := id S
  have hl : lv_has ls 6 [(0, .ref x), (1, .int (nI 0)), (2, .int y9), (3, .int (nI 0))] := hl
  refine lv_aload_n hx hb d_LN_write_0 rfl (lv_at hl 0 rfl) ?_
  refine lv_iload_n hx hb d_LN_write_1 rfl (lv_at hl 1 rfl) ?_
  refine mk_r1 (W.runV (As := [.int (nI 0)]) (rest := []) S (c_LN_row0 l dC dI cI x f0 f1 h hp hs) (gV 1 hts k_111 k_113 k_0 k_24 k_114 (by decide +kernel) ⟨Nat.le_of_ble_eq_true rfl, Nat.le_of_ble_eq_true rfl⟩) (mk_vR hP hK hT hS [0] rfl (q0 := 0) (ci := 0) rfl rfl) rfl rfl hl.1 rfl (lv_room (Nat.le_of_ble_eq_true rfl)) d_LN_write_2 ⟨Nat.zero_le _, Nat.zero_le _⟩) ?_
  refine lv_astore (lv' := [(4, .ref f0), (0, .ref x), (1, .int (nI 0)), (2, .int y9), (3, .int (nI 0))]) hx hb d_LN_write_5 hl (by decide) rfl (fun ls hl => ?_)
  refine lv_aload hx hb d_LN_write_7 (lv_at hl 0 rfl) ?_
  refine lv_ifnull hx hb d_LN_write_9 ?_
  refine lv_aload hx hb d_LN_write_12 (lv_at hl 0 rfl) ?_
  refine mk_r1 (W.runV (As := []) (rest := []) S (c_Ro_name l dC dI cI f0 a0 n0 v0 (by first | assumption | omega) (by first | assumption | omega)) (gV 0 hts k_136 k_137 k_138 k_25 k_139 (by decide +kernel) ⟨Nat.le_of_ble_eq_true rfl, Nat.le_of_ble_eq_true rfl⟩) (mk_vR hP hK hT hS [1, 2] rfl (q0 := 1) (ci := 1) rfl rfl) rfl rfl hl.1 rfl (lv_room (Nat.le_of_ble_eq_true rfl)) d_LN_write_14 ⟨Nat.zero_le _, Nat.zero_le _⟩) ?_
  refine lv_if_ne (tgt := 30) hx hb d_LN_write_17 (by decide) (fun c_1 => ?_) (fun c_1 => ?_)
  · skip
    have c_1 := bI_1 c_1
    refine lv_iload_n hx hb d_LN_write_30 rfl (lv_at hl 4 rfl) ?_
    refine lv_if_lt (tgt := 41) hx hb d_LN_write_31 (by decide) (fun c_2 => ?_) (fun c_2 => ?_)
    · skip
      rw [mk_clt (by omega)] at c_2
      first | omega | contradiction
    · skip
      rw [mk_clt (by omega)] at c_2
      refine lv_iload_n hx hb d_LN_write_34 rfl (lv_at hl 4 rfl) ?_
      refine lv_sipush (v := nI 9999) hx hb d_LN_write_35 (by decide) ?_
      refine lv_icmp_le (tgt := 51) hx hb d_LN_write_38 (by decide) (fun c_3 => ?_) (fun c_3 => ?_)
      · skip
        rw [nI_leI (by omega) (by omega)] at c_3
        refine lv_iload_n hx hb d_LN_write_51 rfl (lv_at hl 4 rfl) ?_
        refine lv_if_ne (tgt := 73) hx hb d_LN_write_52 (by decide) (fun c_4 => ?_) (fun c_4 => ?_)
        · skip
          rw [mk_ceq (by omega)] at c_4
          first | omega | contradiction
        · skip
          rw [mk_ceq (by omega)] at c_4
          refine lv_aload hx hb d_LN_write_55 (lv_at hl 0 rfl) ?_
          refine mk_r1 (W.runV (As := []) (rest := []) S (c_Ro_short l dC dI cI f0 a0 n0 v0 (by first | assumption | omega) (by first | assumption | omega)) (gV 0 hts k_150 k_151 k_152 k_25 k_153 (by decide +kernel) ⟨Nat.le_of_ble_eq_true rfl, Nat.le_of_ble_eq_true rfl⟩) (mk_vR hP hK hT hS [1, 2] rfl (q0 := 1) (ci := 1) rfl rfl) rfl rfl hl.1 rfl (lv_room (Nat.le_of_ble_eq_true rfl)) d_LN_write_57 ⟨Nat.zero_le _, Nat.zero_le _⟩) ?_
          refine lv_if_ne (tgt := 73) hx hb d_LN_write_60 (by decide) (fun c_5 => ?_) (fun c_5 => ?_)
          · skip
            have c_5 := bI_1 c_5
            rw [h2] at c_5; exact absurd c_5 (by decide)
          · skip
            have c_5 := bI_0 c_5
            obtain ⟨q9, hq9⟩ := hT.str (86, "a name that is not short needs a tail") (by decide)
            exact hthr 63 _ _ _ 77 86 81 "a name that is not short needs a tail" q9 hl.1 d_LN_write_63 d_LN_write_66 d_LN_write_67 d_LN_write_69 d_LN_write_72 (List.mem_cons_of_mem _ k_286) (List.mem_cons_of_mem _ k_287) (List.mem_cons_of_mem _ k_34) (fun z hz => List.mem_cons_of_mem _ (th_in_IllegalArgumentException z hz)) th_ok_IllegalArgumentException hq9 hP hD hS
      · skip
        rw [nI_leI (by omega) (by omega)] at c_3
        first | omega | contradiction
  · skip
    have c_1 := bI_0 c_1
    rw [h1] at c_1; exact absurd c_1 (by decide)

set_option maxHeartbeats 1000000 in
set_option maxRecDepth 100000 in
theorem x_writeI0 (l : Launch) (dC : Nat → ClassId) (dI : Nat → Nat → Nat) (cI : ClassId) (x f0 a0 n0 : Nat) (v0 : Nat → Nat) (f1 a1 n1 : Nat) (v1 : Nat → Nat) (h a : Nat) (b : Nat → Nat) (hp ap : Nat) (pb : Nat → Nat) (hs as : Nat) (B : Nat → Nat) (y9 : Int32) (hn0 : n0 ≤ 255) (hv0 : ∀ j, v0 j < 65536) (hn1 : n1 ≤ 255) (hv1 : ∀ j, v1 j < 65536) (hb9 : ∀ j, b j < 65536) (hpb : ∀ j, pb j < 65536) (hB : ∀ j, B j < 256) (h1 : nameN v0 n0 = true) (h2 : shortN v0 n0 = true) (hy : y9 < 0 ∨ nI 32 ≤ y9) (htr : l.stackTraces = false) : mT l y_LN_write w_LN_write ({ frames := 6, cells := 1, slots := 6, locals := 82 } : Room) [.ref x, .int (nI 0), .int y9, .int (nI 0)] (dC, dI) vwCl [(cI, .int)] [(x, .inr (0, [.ref f0, .ref f1, .ref h, .ref hp, .ref hs])), (f0, .inr (1, [.ref a0, .int (nI n0)])), (a0, .inl (cI, 255, .inl (nf v0))), (f1, .inr (1, [.ref a1, .int (nI n1)])), (a1, .inl (cI, 255, .inl (nf v1))), (h, .inr (2, [.ref a])), (a, .inl (cI, 11, .inl (nf b))), (hp, .inr (3, [.ref ap])), (ap, .inl (cI, 32, .inl (nf pb))), (hs, .inr (4, [.ref as])), (as, .inl (cI, 1024, .inl (nf B)))] "java/lang/IndexOutOfBoundsException" [(x, .inr (0, [.ref f0, .ref f1, .ref h, .ref hp, .ref hs])), (f0, .inr (1, [.ref a0, .int (nI n0)])), (a0, .inl (cI, 255, .inl (nf v0))), (f1, .inr (1, [.ref a1, .int (nI n1)])), (a1, .inl (cI, 255, .inl (nf v1))), (h, .inr (2, [.ref a])), (a, .inl (cI, 11, .inl (nf b))), (hp, .inr (3, [.ref ap])), (ap, .inl (cI, 32, .inl (nf pb))), (hs, .inr (4, [.ref as])), (as, .inl (cI, 1024, .inl (nf B)))] := by
  refine mk_Th (cc := b_LN_write) (maxL := 6) (by decide) rfl (Nat.le_of_ble_eq_true rfl) (th_good _ rfl) htr (by decide +kernel) (by decide) (by decide) rfl rfl ?_
  intro p e s m below meth c Q A ls S hP hK hT hS hl hD hA hthr
  obtain ⟨hx, hb, hml, hown, hts⟩ := id S
  have hl : lv_has ls 6 [(0, .ref x), (1, .int (nI 0)), (2, .int y9), (3, .int (nI 0))] := hl
  refine lv_aload_n hx hb d_LN_write_0 rfl (lv_at hl 0 rfl) ?_
  refine lv_iload_n hx hb d_LN_write_1 rfl (lv_at hl 1 rfl) ?_
  refine mk_r1 (W.runV (As := [.int (nI 0)]) (rest := []) S (c_LN_row0 l dC dI cI x f0 f1 h hp hs) (gV 1 hts k_111 k_113 k_0 k_24 k_114 (by decide +kernel) ⟨Nat.le_of_ble_eq_true rfl, Nat.le_of_ble_eq_true rfl⟩) (mk_vR hP hK hT hS [0] rfl (q0 := 0) (ci := 0) rfl rfl) rfl rfl hl.1 rfl (lv_room (Nat.le_of_ble_eq_true rfl)) d_LN_write_2 ⟨Nat.zero_le _, Nat.zero_le _⟩) ?_
  refine lv_astore (lv' := [(4, .ref f0), (0, .ref x), (1, .int (nI 0)), (2, .int y9), (3, .int (nI 0))]) hx hb d_LN_write_5 hl (by decide) rfl (fun ls hl => ?_)
  refine lv_aload hx hb d_LN_write_7 (lv_at hl 0 rfl) ?_
  refine lv_ifnull hx hb d_LN_write_9 ?_
  refine lv_aload hx hb d_LN_write_12 (lv_at hl 0 rfl) ?_
  refine mk_r1 (W.runV (As := []) (rest := []) S (c_Ro_name l dC dI cI f0 a0 n0 v0 (by first | assumption | omega) (by first | assumption | omega)) (gV 0 hts k_136 k_137 k_138 k_25 k_139 (by decide +kernel) ⟨Nat.le_of_ble_eq_true rfl, Nat.le_of_ble_eq_true rfl⟩) (mk_vR hP hK hT hS [1, 2] rfl (q0 := 1) (ci := 1) rfl rfl) rfl rfl hl.1 rfl (lv_room (Nat.le_of_ble_eq_true rfl)) d_LN_write_14 ⟨Nat.zero_le _, Nat.zero_le _⟩) ?_
  refine lv_if_ne (tgt := 30) hx hb d_LN_write_17 (by decide) (fun c_1 => ?_) (fun c_1 => ?_)
  · skip
    have c_1 := bI_1 c_1
    refine lv_iload_n hx hb d_LN_write_30 rfl (lv_at hl 4 rfl) ?_
    refine lv_if_lt (tgt := 41) hx hb d_LN_write_31 (by decide) (fun c_2 => ?_) (fun c_2 => ?_)
    · skip
      rw [mk_clt (by omega)] at c_2
      first | omega | contradiction
    · skip
      rw [mk_clt (by omega)] at c_2
      refine lv_iload_n hx hb d_LN_write_34 rfl (lv_at hl 4 rfl) ?_
      refine lv_sipush (v := nI 9999) hx hb d_LN_write_35 (by decide) ?_
      refine lv_icmp_le (tgt := 51) hx hb d_LN_write_38 (by decide) (fun c_3 => ?_) (fun c_3 => ?_)
      · skip
        rw [nI_leI (by omega) (by omega)] at c_3
        refine lv_iload_n hx hb d_LN_write_51 rfl (lv_at hl 4 rfl) ?_
        refine lv_if_ne (tgt := 73) hx hb d_LN_write_52 (by decide) (fun c_4 => ?_) (fun c_4 => ?_)
        · skip
          rw [mk_ceq (by omega)] at c_4
          first | omega | contradiction
        · skip
          rw [mk_ceq (by omega)] at c_4
          refine lv_aload hx hb d_LN_write_55 (lv_at hl 0 rfl) ?_
          refine mk_r1 (W.runV (As := []) (rest := []) S (c_Ro_short l dC dI cI f0 a0 n0 v0 (by first | assumption | omega) (by first | assumption | omega)) (gV 0 hts k_150 k_151 k_152 k_25 k_153 (by decide +kernel) ⟨Nat.le_of_ble_eq_true rfl, Nat.le_of_ble_eq_true rfl⟩) (mk_vR hP hK hT hS [1, 2] rfl (q0 := 1) (ci := 1) rfl rfl) rfl rfl hl.1 rfl (lv_room (Nat.le_of_ble_eq_true rfl)) d_LN_write_57 ⟨Nat.zero_le _, Nat.zero_le _⟩) ?_
          refine lv_if_ne (tgt := 73) hx hb d_LN_write_60 (by decide) (fun c_5 => ?_) (fun c_5 => ?_)
          · skip
            have c_5 := bI_1 c_5
            refine lv_iload_n hx hb d_LN_write_73 rfl (lv_at hl 4 rfl) ?_
            refine lv_if_ne (tgt := 81) hx hb d_LN_write_74 (by decide) (fun c_6 => ?_) (fun c_6 => ?_)
            · skip
              rw [mk_ceq (by omega)] at c_6
              first | omega | contradiction
            · skip
              rw [mk_ceq (by omega)] at c_6
              refine lv_iconst (v := nI 0) hx hb d_LN_write_77 (by decide) ?_
              refine lv_goto (tgt := 86) hx hb d_LN_write_78 (by decide) ?_
              refine lv_istore (lv' := [(5, .int (nI 0)), (4, .ref f0), (0, .ref x), (1, .int (nI 0)), (2, .int y9), (3, .int (nI 0))]) hx hb d_LN_write_86 hl (by decide) rfl (fun ls hl => ?_)
              refine lv_iload_n hx hb d_LN_write_88 rfl (lv_at hl 4 rfl) ?_
              refine mk_r1 (W.runS (As := [.int y9]) (rest := []) S (c_Sl_isX l dC dI cI y9 (by first | assumption | omega)) (gS 1 hts k_221 k_207 k_28 k_208 (by decide +kernel) ⟨Nat.le_of_ble_eq_true rfl, Nat.le_of_ble_eq_true rfl⟩) (mk_sR hP hK hT hS [] rfl) rfl rfl hl.1 rfl (lv_room (Nat.le_of_ble_eq_true rfl)) d_LN_write_89 ⟨Nat.zero_le _, Nat.zero_le _⟩) ?_
              refine lv_if_eq (tgt := 105) hx hb d_LN_write_92 (by decide) (fun c_7 => ?_) (fun c_7 => ?_)
              · skip
                rw [mk_ceq (by omega)] at c_7
                obtain ⟨q9, hq9⟩ := hT.str (93, "there are too few slots") (by decide)
                exact hthr 105 _ _ _ 91 93 95 "there are too few slots" q9 hl.1 d_LN_write_105 d_LN_write_108 d_LN_write_109 d_LN_write_111 d_LN_write_114 (List.mem_cons_of_mem _ k_356) (List.mem_cons_of_mem _ k_357) (List.mem_cons_of_mem _ k_35) (fun z hz => List.mem_cons_of_mem _ (th_in_IndexOutOfBoundsException z hz)) th_ok_IndexOutOfBoundsException hq9 hP hD hS
              · skip
                rw [mk_ceq (by omega)] at c_7
                first | omega | contradiction
          · skip
            have c_5 := bI_0 c_5
            rw [h2] at c_5; exact absurd c_5 (by decide)
      · skip
        rw [nI_leI (by omega) (by omega)] at c_3
        first | omega | contradiction
  · skip
    have c_1 := bI_0 c_1
    rw [h1] at c_1; exact absurd c_1 (by decide)

set_option maxHeartbeats 1000000 in
set_option maxRecDepth 100000 in
theorem x_writeJ0 (l : Launch) (dC : Nat → ClassId) (dI : Nat → Nat → Nat) (cI : ClassId) (x f0 a0 n0 : Nat) (v0 : Nat → Nat) (f1 a1 n1 : Nat) (v1 : Nat → Nat) (h a : Nat) (b : Nat → Nat) (hp ap : Nat) (pb : Nat → Nat) (hs as : Nat) (B : Nat → Nat) (y9 : Int32) (t : Nat) (hn0 : n0 ≤ 255) (hv0 : ∀ j, v0 j < 65536) (hn1 : n1 ≤ 255) (hv1 : ∀ j, v1 j < 65536) (hb9 : ∀ j, b j < 65536) (hpb : ∀ j, pb j < 65536) (hB : ∀ j, B j < 256) (h1 : nameN v0 n0 = true) (ht : 1 ≤ t ∧ t < 10000) (hy : y9 < 0 ∨ nI 32 ≤ y9) (htr : l.stackTraces = false) : mT l y_LN_write w_LN_write ({ frames := 6, cells := 1, slots := 6, locals := 82 } : Room) [.ref x, .int (nI 0), .int y9, .int (nI t)] (dC, dI) vwCl [(cI, .int)] [(x, .inr (0, [.ref f0, .ref f1, .ref h, .ref hp, .ref hs])), (f0, .inr (1, [.ref a0, .int (nI n0)])), (a0, .inl (cI, 255, .inl (nf v0))), (f1, .inr (1, [.ref a1, .int (nI n1)])), (a1, .inl (cI, 255, .inl (nf v1))), (h, .inr (2, [.ref a])), (a, .inl (cI, 11, .inl (nf b))), (hp, .inr (3, [.ref ap])), (ap, .inl (cI, 32, .inl (nf pb))), (hs, .inr (4, [.ref as])), (as, .inl (cI, 1024, .inl (nf B)))] "java/lang/IndexOutOfBoundsException" [(x, .inr (0, [.ref f0, .ref f1, .ref h, .ref hp, .ref hs])), (f0, .inr (1, [.ref a0, .int (nI n0)])), (a0, .inl (cI, 255, .inl (nf v0))), (f1, .inr (1, [.ref a1, .int (nI n1)])), (a1, .inl (cI, 255, .inl (nf v1))), (h, .inr (2, [.ref a])), (a, .inl (cI, 11, .inl (nf b))), (hp, .inr (3, [.ref ap])), (ap, .inl (cI, 32, .inl (nf pb))), (hs, .inr (4, [.ref as])), (as, .inl (cI, 1024, .inl (nf B)))] := by
  refine mk_Th (cc := b_LN_write) (maxL := 6) (by decide) rfl (Nat.le_of_ble_eq_true rfl) (th_good _ rfl) htr (by decide +kernel) (by decide) (by decide) rfl rfl ?_
  intro p e s m below meth c Q A ls S hP hK hT hS hl hD hA hthr
  obtain ⟨hx, hb, hml, hown, hts⟩ := id S
  have hl : lv_has ls 6 [(0, .ref x), (1, .int (nI 0)), (2, .int y9), (3, .int (nI t))] := hl
  refine lv_aload_n hx hb d_LN_write_0 rfl (lv_at hl 0 rfl) ?_
  refine lv_iload_n hx hb d_LN_write_1 rfl (lv_at hl 1 rfl) ?_
  refine mk_r1 (W.runV (As := [.int (nI 0)]) (rest := []) S (c_LN_row0 l dC dI cI x f0 f1 h hp hs) (gV 1 hts k_111 k_113 k_0 k_24 k_114 (by decide +kernel) ⟨Nat.le_of_ble_eq_true rfl, Nat.le_of_ble_eq_true rfl⟩) (mk_vR hP hK hT hS [0] rfl (q0 := 0) (ci := 0) rfl rfl) rfl rfl hl.1 rfl (lv_room (Nat.le_of_ble_eq_true rfl)) d_LN_write_2 ⟨Nat.zero_le _, Nat.zero_le _⟩) ?_
  refine lv_astore (lv' := [(4, .ref f0), (0, .ref x), (1, .int (nI 0)), (2, .int y9), (3, .int (nI t))]) hx hb d_LN_write_5 hl (by decide) rfl (fun ls hl => ?_)
  refine lv_aload hx hb d_LN_write_7 (lv_at hl 0 rfl) ?_
  refine lv_ifnull hx hb d_LN_write_9 ?_
  refine lv_aload hx hb d_LN_write_12 (lv_at hl 0 rfl) ?_
  refine mk_r1 (W.runV (As := []) (rest := []) S (c_Ro_name l dC dI cI f0 a0 n0 v0 (by first | assumption | omega) (by first | assumption | omega)) (gV 0 hts k_136 k_137 k_138 k_25 k_139 (by decide +kernel) ⟨Nat.le_of_ble_eq_true rfl, Nat.le_of_ble_eq_true rfl⟩) (mk_vR hP hK hT hS [1, 2] rfl (q0 := 1) (ci := 1) rfl rfl) rfl rfl hl.1 rfl (lv_room (Nat.le_of_ble_eq_true rfl)) d_LN_write_14 ⟨Nat.zero_le _, Nat.zero_le _⟩) ?_
  refine lv_if_ne (tgt := 30) hx hb d_LN_write_17 (by decide) (fun c_1 => ?_) (fun c_1 => ?_)
  · skip
    have c_1 := bI_1 c_1
    refine lv_iload_n hx hb d_LN_write_30 rfl (lv_at hl 4 rfl) ?_
    refine lv_if_lt (tgt := 41) hx hb d_LN_write_31 (by decide) (fun c_2 => ?_) (fun c_2 => ?_)
    · skip
      rw [mk_clt (by omega)] at c_2
      first | omega | contradiction
    · skip
      rw [mk_clt (by omega)] at c_2
      refine lv_iload_n hx hb d_LN_write_34 rfl (lv_at hl 4 rfl) ?_
      refine lv_sipush (v := nI 9999) hx hb d_LN_write_35 (by decide) ?_
      refine lv_icmp_le (tgt := 51) hx hb d_LN_write_38 (by decide) (fun c_3 => ?_) (fun c_3 => ?_)
      · skip
        rw [nI_leI (by omega) (by omega)] at c_3
        refine lv_iload_n hx hb d_LN_write_51 rfl (lv_at hl 4 rfl) ?_
        refine lv_if_ne (tgt := 73) hx hb d_LN_write_52 (by decide) (fun c_4 => ?_) (fun c_4 => ?_)
        · skip
          rw [mk_ceq (by omega)] at c_4
          refine lv_iload_n hx hb d_LN_write_73 rfl (lv_at hl 4 rfl) ?_
          refine lv_if_ne (tgt := 81) hx hb d_LN_write_74 (by decide) (fun c_5 => ?_) (fun c_5 => ?_)
          · skip
            rw [mk_ceq (by omega)] at c_5
            refine lv_aload hx hb d_LN_write_81 (lv_at hl 0 rfl) ?_
            refine mk_r1 (W.runV (As := []) (rest := []) S (c_Ro_parts l dC dI cI f0 a0 n0 v0 (by first | assumption | omega)) (gV 0 hts k_161 k_162 k_163 k_25 k_164 (by decide +kernel) ⟨Nat.le_of_ble_eq_true rfl, Nat.le_of_ble_eq_true rfl⟩) (mk_vR hP hK hT hS [1, 2] rfl (q0 := 1) (ci := 1) rfl rfl) rfl rfl hl.1 rfl (lv_room (Nat.le_of_ble_eq_true rfl)) d_LN_write_83 ⟨Nat.zero_le _, Nat.zero_le _⟩) ?_
            have b_6 := pnN_le (show n0 ≤ 255 by omega)
            refine lv_istore (lv' := [(5, .int (nI (pnN n0))), (4, .ref f0), (0, .ref x), (1, .int (nI 0)), (2, .int y9), (3, .int (nI t))]) hx hb d_LN_write_86 hl (by decide) rfl (fun ls hl => ?_)
            refine lv_iload_n hx hb d_LN_write_88 rfl (lv_at hl 4 rfl) ?_
            refine mk_r1 (W.runS (As := [.int y9]) (rest := []) S (c_Sl_isX l dC dI cI y9 (by first | assumption | omega)) (gS 1 hts k_221 k_207 k_28 k_208 (by decide +kernel) ⟨Nat.le_of_ble_eq_true rfl, Nat.le_of_ble_eq_true rfl⟩) (mk_sR hP hK hT hS [] rfl) rfl rfl hl.1 rfl (lv_room (Nat.le_of_ble_eq_true rfl)) d_LN_write_89 ⟨Nat.zero_le _, Nat.zero_le _⟩) ?_
            refine lv_if_eq (tgt := 105) hx hb d_LN_write_92 (by decide) (fun c_7 => ?_) (fun c_7 => ?_)
            · skip
              rw [mk_ceq (by omega)] at c_7
              obtain ⟨q9, hq9⟩ := hT.str (93, "there are too few slots") (by decide)
              exact hthr 105 _ _ _ 91 93 95 "there are too few slots" q9 hl.1 d_LN_write_105 d_LN_write_108 d_LN_write_109 d_LN_write_111 d_LN_write_114 (List.mem_cons_of_mem _ k_356) (List.mem_cons_of_mem _ k_357) (List.mem_cons_of_mem _ k_35) (fun z hz => List.mem_cons_of_mem _ (th_in_IndexOutOfBoundsException z hz)) th_ok_IndexOutOfBoundsException hq9 hP hD hS
            · skip
              rw [mk_ceq (by omega)] at c_7
              first | omega | contradiction
          · skip
            rw [mk_ceq (by omega)] at c_5
            first | omega | contradiction
        · skip
          rw [mk_ceq (by omega)] at c_4
          first | omega | contradiction
      · skip
        rw [nI_leI (by omega) (by omega)] at c_3
        first | omega | contradiction
  · skip
    have c_1 := bI_0 c_1
    rw [h1] at c_1; exact absurd c_1 (by decide)

set_option maxHeartbeats 1000000 in
set_option maxRecDepth 100000 in
theorem x_writeK0 (l : Launch) (dC : Nat → ClassId) (dI : Nat → Nat → Nat) (cI : ClassId) (x f0 a0 n0 : Nat) (v0 : Nat → Nat) (f1 a1 n1 : Nat) (v1 : Nat → Nat) (h a : Nat) (b : Nat → Nat) (hp ap : Nat) (pb : Nat → Nat) (hs as : Nat) (B : Nat → Nat) (q t : Nat) (hn0 : n0 ≤ 255) (hv0 : ∀ j, v0 j < 65536) (hn1 : n1 ≤ 255) (hv1 : ∀ j, v1 j < 65536) (hb9 : ∀ j, b j < 65536) (hpb : ∀ j, pb j < 65536) (hB : ∀ j, B j < 256) (h1 : nameN v0 n0 = true) (ht : 1 ≤ t ∧ t < 10000) (hq : q < 32) (hy : 32 ≤ q + pnN n0) (htr : l.stackTraces = false) : mT l y_LN_write w_LN_write ({ frames := 6, cells := 1, slots := 6, locals := 82 } : Room) [.ref x, .int (nI 0), .int (nI q), .int (nI t)] (dC, dI) vwCl [(cI, .int)] [(x, .inr (0, [.ref f0, .ref f1, .ref h, .ref hp, .ref hs])), (f0, .inr (1, [.ref a0, .int (nI n0)])), (a0, .inl (cI, 255, .inl (nf v0))), (f1, .inr (1, [.ref a1, .int (nI n1)])), (a1, .inl (cI, 255, .inl (nf v1))), (h, .inr (2, [.ref a])), (a, .inl (cI, 11, .inl (nf b))), (hp, .inr (3, [.ref ap])), (ap, .inl (cI, 32, .inl (nf pb))), (hs, .inr (4, [.ref as])), (as, .inl (cI, 1024, .inl (nf B)))] "java/lang/IndexOutOfBoundsException" [(x, .inr (0, [.ref f0, .ref f1, .ref h, .ref hp, .ref hs])), (f0, .inr (1, [.ref a0, .int (nI n0)])), (a0, .inl (cI, 255, .inl (nf v0))), (f1, .inr (1, [.ref a1, .int (nI n1)])), (a1, .inl (cI, 255, .inl (nf v1))), (h, .inr (2, [.ref a])), (a, .inl (cI, 11, .inl (nf b))), (hp, .inr (3, [.ref ap])), (ap, .inl (cI, 32, .inl (nf pb))), (hs, .inr (4, [.ref as])), (as, .inl (cI, 1024, .inl (nf B)))] := by
  have hpn := pnN_le hn0
  have hy9 : nI (q + pnN n0) < 0 ∨ nI 32 ≤ nI (q + pnN n0) := Or.inr ((nI_leI (by decide) (by omega)).mpr hy)
  refine mk_Th (cc := b_LN_write) (maxL := 6) (by decide) rfl (Nat.le_of_ble_eq_true rfl) (th_good _ rfl) htr (by decide +kernel) (by decide) (by decide) rfl rfl ?_
  intro p e s m below meth c Q A ls S hP hK hT hS hl hD hA hthr
  obtain ⟨hx, hb, hml, hown, hts⟩ := id S
  have hl : lv_has ls 6 [(0, .ref x), (1, .int (nI 0)), (2, .int (nI q)), (3, .int (nI t))] := hl
  refine lv_aload_n hx hb d_LN_write_0 rfl (lv_at hl 0 rfl) ?_
  refine lv_iload_n hx hb d_LN_write_1 rfl (lv_at hl 1 rfl) ?_
  refine mk_r1 (W.runV (As := [.int (nI 0)]) (rest := []) S (c_LN_row0 l dC dI cI x f0 f1 h hp hs) (gV 1 hts k_111 k_113 k_0 k_24 k_114 (by decide +kernel) ⟨Nat.le_of_ble_eq_true rfl, Nat.le_of_ble_eq_true rfl⟩) (mk_vR hP hK hT hS [0] rfl (q0 := 0) (ci := 0) rfl rfl) rfl rfl hl.1 rfl (lv_room (Nat.le_of_ble_eq_true rfl)) d_LN_write_2 ⟨Nat.zero_le _, Nat.zero_le _⟩) ?_
  refine lv_astore (lv' := [(4, .ref f0), (0, .ref x), (1, .int (nI 0)), (2, .int (nI q)), (3, .int (nI t))]) hx hb d_LN_write_5 hl (by decide) rfl (fun ls hl => ?_)
  refine lv_aload hx hb d_LN_write_7 (lv_at hl 0 rfl) ?_
  refine lv_ifnull hx hb d_LN_write_9 ?_
  refine lv_aload hx hb d_LN_write_12 (lv_at hl 0 rfl) ?_
  refine mk_r1 (W.runV (As := []) (rest := []) S (c_Ro_name l dC dI cI f0 a0 n0 v0 (by first | assumption | omega) (by first | assumption | omega)) (gV 0 hts k_136 k_137 k_138 k_25 k_139 (by decide +kernel) ⟨Nat.le_of_ble_eq_true rfl, Nat.le_of_ble_eq_true rfl⟩) (mk_vR hP hK hT hS [1, 2] rfl (q0 := 1) (ci := 1) rfl rfl) rfl rfl hl.1 rfl (lv_room (Nat.le_of_ble_eq_true rfl)) d_LN_write_14 ⟨Nat.zero_le _, Nat.zero_le _⟩) ?_
  refine lv_if_ne (tgt := 30) hx hb d_LN_write_17 (by decide) (fun c_1 => ?_) (fun c_1 => ?_)
  · skip
    have c_1 := bI_1 c_1
    refine lv_iload_n hx hb d_LN_write_30 rfl (lv_at hl 4 rfl) ?_
    refine lv_if_lt (tgt := 41) hx hb d_LN_write_31 (by decide) (fun c_2 => ?_) (fun c_2 => ?_)
    · skip
      rw [mk_clt (by omega)] at c_2
      first | omega | contradiction
    · skip
      rw [mk_clt (by omega)] at c_2
      refine lv_iload_n hx hb d_LN_write_34 rfl (lv_at hl 4 rfl) ?_
      refine lv_sipush (v := nI 9999) hx hb d_LN_write_35 (by decide) ?_
      refine lv_icmp_le (tgt := 51) hx hb d_LN_write_38 (by decide) (fun c_3 => ?_) (fun c_3 => ?_)
      · skip
        rw [nI_leI (by omega) (by omega)] at c_3
        refine lv_iload_n hx hb d_LN_write_51 rfl (lv_at hl 4 rfl) ?_
        refine lv_if_ne (tgt := 73) hx hb d_LN_write_52 (by decide) (fun c_4 => ?_) (fun c_4 => ?_)
        · skip
          rw [mk_ceq (by omega)] at c_4
          refine lv_iload_n hx hb d_LN_write_73 rfl (lv_at hl 4 rfl) ?_
          refine lv_if_ne (tgt := 81) hx hb d_LN_write_74 (by decide) (fun c_5 => ?_) (fun c_5 => ?_)
          · skip
            rw [mk_ceq (by omega)] at c_5
            refine lv_aload hx hb d_LN_write_81 (lv_at hl 0 rfl) ?_
            refine mk_r1 (W.runV (As := []) (rest := []) S (c_Ro_parts l dC dI cI f0 a0 n0 v0 (by first | assumption | omega)) (gV 0 hts k_161 k_162 k_163 k_25 k_164 (by decide +kernel) ⟨Nat.le_of_ble_eq_true rfl, Nat.le_of_ble_eq_true rfl⟩) (mk_vR hP hK hT hS [1, 2] rfl (q0 := 1) (ci := 1) rfl rfl) rfl rfl hl.1 rfl (lv_room (Nat.le_of_ble_eq_true rfl)) d_LN_write_83 ⟨Nat.zero_le _, Nat.zero_le _⟩) ?_
            have b_6 := pnN_le (show n0 ≤ 255 by omega)
            refine lv_istore (lv' := [(5, .int (nI (pnN n0))), (4, .ref f0), (0, .ref x), (1, .int (nI 0)), (2, .int (nI q)), (3, .int (nI t))]) hx hb d_LN_write_86 hl (by decide) rfl (fun ls hl => ?_)
            refine lv_iload_n hx hb d_LN_write_88 rfl (lv_at hl 4 rfl) ?_
            refine mk_r1 (W.runS (As := [.int (nI q)]) (rest := []) S (c_Sl_isN l dC dI cI q (by first | assumption | omega)) (gS 1 hts k_221 k_207 k_28 k_208 (by decide +kernel) ⟨Nat.le_of_ble_eq_true rfl, Nat.le_of_ble_eq_true rfl⟩) (mk_sR hP hK hT hS [] rfl) rfl rfl hl.1 rfl (lv_room (Nat.le_of_ble_eq_true rfl)) d_LN_write_89 ⟨Nat.zero_le _, Nat.zero_le _⟩) ?_
            refine lv_if_eq (tgt := 105) hx hb d_LN_write_92 (by decide) (fun c_7 => ?_) (fun c_7 => ?_)
            · skip
              rw [mk_ceq (by omega)] at c_7
              first | omega | contradiction
            · skip
              rw [mk_ceq (by omega)] at c_7
              refine lv_iload_n hx hb d_LN_write_95 rfl (lv_at hl 4 rfl) ?_
              refine lv_iload hx hb d_LN_write_96 (lv_at hl 0 rfl) ?_
              refine lv_iadd hx hb d_LN_write_98 ?_
              refine mk_ti (y := nI (q + pnN n0)) (nI_add q (pnN n0)) ?_
              refine mk_r1 (W.runS (As := [.int (nI (q + pnN n0))]) (rest := []) S (c_Sl_isX l dC dI cI (nI (q + pnN n0)) (by first | assumption | omega)) (gS 1 hts k_221 k_207 k_28 k_208 (by decide +kernel) ⟨Nat.le_of_ble_eq_true rfl, Nat.le_of_ble_eq_true rfl⟩) (mk_sR hP hK hT hS [] rfl) rfl rfl hl.1 rfl (lv_room (Nat.le_of_ble_eq_true rfl)) d_LN_write_99 ⟨Nat.zero_le _, Nat.zero_le _⟩) ?_
              refine lv_if_ne (tgt := 115) hx hb d_LN_write_102 (by decide) (fun c_8 => ?_) (fun c_8 => ?_)
              · skip
                rw [mk_ceq (by omega)] at c_8
                first | omega | contradiction
              · skip
                rw [mk_ceq (by omega)] at c_8
                obtain ⟨q9, hq9⟩ := hT.str (93, "there are too few slots") (by decide)
                exact hthr 105 _ _ _ 91 93 95 "there are too few slots" q9 hl.1 d_LN_write_105 d_LN_write_108 d_LN_write_109 d_LN_write_111 d_LN_write_114 (List.mem_cons_of_mem _ k_356) (List.mem_cons_of_mem _ k_357) (List.mem_cons_of_mem _ k_35) (fun z hz => List.mem_cons_of_mem _ (th_in_IndexOutOfBoundsException z hz)) th_ok_IndexOutOfBoundsException hq9 hP hD hS
          · skip
            rw [mk_ceq (by omega)] at c_5
            first | omega | contradiction
        · skip
          rw [mk_ceq (by omega)] at c_4
          first | omega | contradiction
      · skip
        rw [nI_leI (by omega) (by omega)] at c_3
        first | omega | contradiction
  · skip
    have c_1 := bI_0 c_1
    rw [h1] at c_1; exact absurd c_1 (by decide)

set_option maxHeartbeats 1000000 in
set_option maxRecDepth 100000 in
theorem x_readP0 (l : Launch) (dC : Nat → ClassId) (dI : Nat → Nat → Nat) (cI : ClassId) (x f0 a0 n0 : Nat) (v0 : Nat → Nat) (f1 a1 n1 : Nat) (v1 : Nat → Nat) (h a : Nat) (b : Nat → Nat) (hp ap : Nat) (pb : Nat → Nat) (hs as : Nat) (B : Nat → Nat) (y9 z9 : Int32) (hn0 : n0 ≤ 255) (hv0 : ∀ j, v0 j < 65536) (hn1 : n1 ≤ 255) (hv1 : ∀ j, v1 j < 65536) (hb9 : ∀ j, b j < 65536) (hpb : ∀ j, pb j < 65536) (hB : ∀ j, B j < 256) (ht : z9 < 0 ∨ ¬ z9 ≤ nI 20) (htr : l.stackTraces = false) : mT l y_LN_read w_LN_read ({ frames := 6, cells := 1, slots := 6, locals := 82 } : Room) [.ref x, .int (nI 0), .int y9, .int z9] (dC, dI) vwCl [(cI, .int)] [(x, .inr (0, [.ref f0, .ref f1, .ref h, .ref hp, .ref hs])), (f0, .inr (1, [.ref a0, .int (nI n0)])), (a0, .inl (cI, 255, .inl (nf v0))), (f1, .inr (1, [.ref a1, .int (nI n1)])), (a1, .inl (cI, 255, .inl (nf v1))), (h, .inr (2, [.ref a])), (a, .inl (cI, 11, .inl (nf b))), (hp, .inr (3, [.ref ap])), (ap, .inl (cI, 32, .inl (nf pb))), (hs, .inr (4, [.ref as])), (as, .inl (cI, 1024, .inl (nf B)))] "java/lang/IllegalArgumentException" [(x, .inr (0, [.ref f0, .ref f1, .ref h, .ref hp, .ref hs])), (f0, .inr (1, [.ref a0, .int (nI 0)])), (a0, .inl (cI, 255, .inl (nf v0))), (f1, .inr (1, [.ref a1, .int (nI n1)])), (a1, .inl (cI, 255, .inl (nf v1))), (h, .inr (2, [.ref a])), (a, .inl (cI, 11, .inl (nf b))), (hp, .inr (3, [.ref ap])), (ap, .inl (cI, 32, .inl (nf pb))), (hs, .inr (4, [.ref as])), (as, .inl (cI, 1024, .inl (nf B)))] := by
  refine mk_Th (cc := b_LN_read) (maxL := 5) (by decide) rfl (Nat.le_of_ble_eq_true rfl) (th_good _ rfl) htr (by decide +kernel) (by decide) (by decide) rfl rfl ?_
  intro p e s m below meth c Q A ls S hP hK hT hS hl hD hA hthr
  obtain ⟨hx, hb, hml, hown, hts⟩ := id S
  have hl : lv_has ls 5 [(0, .ref x), (1, .int (nI 0)), (2, .int y9), (3, .int z9)] := hl
  refine lv_aload_n hx hb d_LN_read_0 rfl (lv_at hl 0 rfl) ?_
  refine lv_iload_n hx hb d_LN_read_1 rfl (lv_at hl 1 rfl) ?_
  refine mk_r1 (W.runV (As := [.int (nI 0)]) (rest := []) S (c_LN_row0 l dC dI cI x f0 f1 h hp hs) (gV 1 hts k_111 k_113 k_0 k_24 k_114 (by decide +kernel) ⟨Nat.le_of_ble_eq_true rfl, Nat.le_of_ble_eq_true rfl⟩) (mk_vR hP hK hT hS [0] rfl (q0 := 0) (ci := 0) rfl rfl) rfl rfl hl.1 rfl (lv_room (Nat.le_of_ble_eq_true rfl)) d_LN_read_2 ⟨Nat.zero_le _, Nat.zero_le _⟩) ?_
  refine lv_astore (lv' := [(4, .ref f0), (0, .ref x), (1, .int (nI 0)), (2, .int y9), (3, .int z9)]) hx hb d_LN_read_5 hl (by decide) rfl (fun ls hl => ?_)
  refine lv_aload hx hb d_LN_read_7 (lv_at hl 0 rfl) ?_
  refine lv_ifnonnull (tgt := 22) hx hb d_LN_read_9 (by decide) ?_
  refine lv_aload hx hb d_LN_read_22 (lv_at hl 0 rfl) ?_
  refine mk_w0 (wr := [(x, .inr (0, [.ref f0, .ref f1, .ref h, .ref hp, .ref hs])), (f1, .inr (1, [.ref a1, .int (nI n1)])), (a1, .inl (cI, 255, .inl (nf v1))), (h, .inr (2, [.ref a])), (a, .inl (cI, 11, .inl (nf b))), (hp, .inr (3, [.ref ap])), (ap, .inl (cI, 32, .inl (nf pb))), (hs, .inr (4, [.ref as])), (as, .inl (cI, 1024, .inl (nf B)))]) (W.runV (As := []) (rest := []) S ((c_Ro_empty l dC dI cI f0 a0 n0 v0) _) (gV 0 hts k_128 k_129 k_130 k_25 k_131 (by decide +kernel) ⟨Nat.le_of_ble_eq_true rfl, Nat.le_of_ble_eq_true rfl⟩) (mk_vM hP hD hK hT hS hA [1, 2] rfl rfl (by decide) (q0 := 1) (ci := 1) rfl rfl) rfl rfl hl.1 rfl (lv_room (Nat.le_of_ble_eq_true rfl)) d_LN_read_24 ⟨Nat.zero_le _, Nat.zero_le _⟩) hP hD hS hA [1, 2] [0, 3, 4, 5, 6, 7, 8, 9, 10] rfl rfl (by decide) (by decide) (fun H locs hP hD hS => ?_)
  have hP : va_P (dC, dI) vwCl [(x, .inr (0, [.ref f0, .ref f1, .ref h, .ref hp, .ref hs])), (f0, .inr (1, [.ref a0, .int (nI 0)])), (a0, .inl (cI, 255, .inl (nf v0))), (f1, .inr (1, [.ref a1, .int (nI n1)])), (a1, .inl (cI, 255, .inl (nf v1))), (h, .inr (2, [.ref a])), (a, .inl (cI, 11, .inl (nf b))), (hp, .inr (3, [.ref ap])), (ap, .inl (cI, 32, .inl (nf pb))), (hs, .inr (4, [.ref as])), (as, .inl (cI, 1024, .inl (nf B)))] H := hP.sub [0, 9, 10, 1, 2, 3, 4, 5, 6, 7, 8] rfl
  have hD : va_D A [(x, .inr (0, [.ref f0, .ref f1, .ref h, .ref hp, .ref hs])), (f0, .inr (1, [.ref a0, .int (nI 0)])), (a0, .inl (cI, 255, .inl (nf v0))), (f1, .inr (1, [.ref a1, .int (nI n1)])), (a1, .inl (cI, 255, .inl (nf v1))), (h, .inr (2, [.ref a])), (a, .inl (cI, 11, .inl (nf b))), (hp, .inr (3, [.ref ap])), (ap, .inl (cI, 32, .inl (nf pb))), (hs, .inr (4, [.ref as])), (as, .inl (cI, 1024, .inl (nf B)))] := hD.sub [0, 9, 10, 1, 2, 3, 4, 5, 6, 7, 8] (by decide) rfl
  refine lv_iload_n hx hb d_LN_read_27 rfl (lv_at hl 4 rfl) ?_
  refine lv_if_lt (tgt := 37) hx hb d_LN_read_28 (by decide) (fun c_1 => ?_) (fun c_1 => ?_)
  · skip
    obtain ⟨q9, hq9⟩ := hT.str (110, "the parts are not 0 to 20") (by decide)
    exact hthr 37 _ _ _ 77 110 81 "the parts are not 0 to 20" q9 hl.1 d_LN_read_37 d_LN_read_40 d_LN_read_41 d_LN_read_43 d_LN_read_46 (List.mem_cons_of_mem _ k_286) (List.mem_cons_of_mem _ k_287) (List.mem_cons_of_mem _ k_34) (fun z hz => List.mem_cons_of_mem _ (th_in_IllegalArgumentException z hz)) th_ok_IllegalArgumentException hq9 hP hD hS
  · skip
    refine lv_iload_n hx hb d_LN_read_31 rfl (lv_at hl 4 rfl) ?_
    refine lv_bipush (v := nI 20) hx hb d_LN_read_32 (by decide) ?_
    refine lv_icmp_le (tgt := 47) hx hb d_LN_read_34 (by decide) (fun c_2 => ?_) (fun c_2 => ?_)
    · skip
      rcases ht with h9 | h9 <;> contradiction
    · skip
      obtain ⟨q9, hq9⟩ := hT.str (110, "the parts are not 0 to 20") (by decide)
      exact hthr 37 _ _ _ 77 110 81 "the parts are not 0 to 20" q9 hl.1 d_LN_read_37 d_LN_read_40 d_LN_read_41 d_LN_read_43 d_LN_read_46 (List.mem_cons_of_mem _ k_286) (List.mem_cons_of_mem _ k_287) (List.mem_cons_of_mem _ k_34) (fun z hz => List.mem_cons_of_mem _ (th_in_IllegalArgumentException z hz)) th_ok_IllegalArgumentException hq9 hP hD hS

set_option maxHeartbeats 1000000 in
set_option maxRecDepth 100000 in
theorem x_readI0 (l : Launch) (dC : Nat → ClassId) (dI : Nat → Nat → Nat) (cI : ClassId) (x f0 a0 n0 : Nat) (v0 : Nat → Nat) (f1 a1 n1 : Nat) (v1 : Nat → Nat) (h a : Nat) (b : Nat → Nat) (hp ap : Nat) (pb : Nat → Nat) (hs as : Nat) (B : Nat → Nat) (y9 : Int32) (p9 : Nat) (hn0 : n0 ≤ 255) (hv0 : ∀ j, v0 j < 65536) (hn1 : n1 ≤ 255) (hv1 : ∀ j, v1 j < 65536) (hb9 : ∀ j, b j < 65536) (hpb : ∀ j, pb j < 65536) (hB : ∀ j, B j < 256) (hp7 : p9 ≤ 20) (hy : y9 < 0 ∨ nI 32 ≤ y9) (htr : l.stackTraces = false) : mT l y_LN_read w_LN_read ({ frames := 6, cells := 1, slots := 6, locals := 82 } : Room) [.ref x, .int (nI 0), .int y9, .int (nI p9)] (dC, dI) vwCl [(cI, .int)] [(x, .inr (0, [.ref f0, .ref f1, .ref h, .ref hp, .ref hs])), (f0, .inr (1, [.ref a0, .int (nI n0)])), (a0, .inl (cI, 255, .inl (nf v0))), (f1, .inr (1, [.ref a1, .int (nI n1)])), (a1, .inl (cI, 255, .inl (nf v1))), (h, .inr (2, [.ref a])), (a, .inl (cI, 11, .inl (nf b))), (hp, .inr (3, [.ref ap])), (ap, .inl (cI, 32, .inl (nf pb))), (hs, .inr (4, [.ref as])), (as, .inl (cI, 1024, .inl (nf B)))] "java/lang/IndexOutOfBoundsException" [(x, .inr (0, [.ref f0, .ref f1, .ref h, .ref hp, .ref hs])), (f0, .inr (1, [.ref a0, .int (nI 0)])), (a0, .inl (cI, 255, .inl (nf v0))), (f1, .inr (1, [.ref a1, .int (nI n1)])), (a1, .inl (cI, 255, .inl (nf v1))), (h, .inr (2, [.ref a])), (a, .inl (cI, 11, .inl (nf b))), (hp, .inr (3, [.ref ap])), (ap, .inl (cI, 32, .inl (nf pb))), (hs, .inr (4, [.ref as])), (as, .inl (cI, 1024, .inl (nf B)))] := by
  refine mk_Th (cc := b_LN_read) (maxL := 5) (by decide) rfl (Nat.le_of_ble_eq_true rfl) (th_good _ rfl) htr (by decide +kernel) (by decide) (by decide) rfl rfl ?_
  intro p e s m below meth c Q A ls S hP hK hT hS hl hD hA hthr
  obtain ⟨hx, hb, hml, hown, hts⟩ := id S
  have hl : lv_has ls 5 [(0, .ref x), (1, .int (nI 0)), (2, .int y9), (3, .int (nI p9))] := hl
  refine lv_aload_n hx hb d_LN_read_0 rfl (lv_at hl 0 rfl) ?_
  refine lv_iload_n hx hb d_LN_read_1 rfl (lv_at hl 1 rfl) ?_
  refine mk_r1 (W.runV (As := [.int (nI 0)]) (rest := []) S (c_LN_row0 l dC dI cI x f0 f1 h hp hs) (gV 1 hts k_111 k_113 k_0 k_24 k_114 (by decide +kernel) ⟨Nat.le_of_ble_eq_true rfl, Nat.le_of_ble_eq_true rfl⟩) (mk_vR hP hK hT hS [0] rfl (q0 := 0) (ci := 0) rfl rfl) rfl rfl hl.1 rfl (lv_room (Nat.le_of_ble_eq_true rfl)) d_LN_read_2 ⟨Nat.zero_le _, Nat.zero_le _⟩) ?_
  refine lv_astore (lv' := [(4, .ref f0), (0, .ref x), (1, .int (nI 0)), (2, .int y9), (3, .int (nI p9))]) hx hb d_LN_read_5 hl (by decide) rfl (fun ls hl => ?_)
  refine lv_aload hx hb d_LN_read_7 (lv_at hl 0 rfl) ?_
  refine lv_ifnonnull (tgt := 22) hx hb d_LN_read_9 (by decide) ?_
  refine lv_aload hx hb d_LN_read_22 (lv_at hl 0 rfl) ?_
  refine mk_w0 (wr := [(x, .inr (0, [.ref f0, .ref f1, .ref h, .ref hp, .ref hs])), (f1, .inr (1, [.ref a1, .int (nI n1)])), (a1, .inl (cI, 255, .inl (nf v1))), (h, .inr (2, [.ref a])), (a, .inl (cI, 11, .inl (nf b))), (hp, .inr (3, [.ref ap])), (ap, .inl (cI, 32, .inl (nf pb))), (hs, .inr (4, [.ref as])), (as, .inl (cI, 1024, .inl (nf B)))]) (W.runV (As := []) (rest := []) S ((c_Ro_empty l dC dI cI f0 a0 n0 v0) _) (gV 0 hts k_128 k_129 k_130 k_25 k_131 (by decide +kernel) ⟨Nat.le_of_ble_eq_true rfl, Nat.le_of_ble_eq_true rfl⟩) (mk_vM hP hD hK hT hS hA [1, 2] rfl rfl (by decide) (q0 := 1) (ci := 1) rfl rfl) rfl rfl hl.1 rfl (lv_room (Nat.le_of_ble_eq_true rfl)) d_LN_read_24 ⟨Nat.zero_le _, Nat.zero_le _⟩) hP hD hS hA [1, 2] [0, 3, 4, 5, 6, 7, 8, 9, 10] rfl rfl (by decide) (by decide) (fun H locs hP hD hS => ?_)
  have hP : va_P (dC, dI) vwCl [(x, .inr (0, [.ref f0, .ref f1, .ref h, .ref hp, .ref hs])), (f0, .inr (1, [.ref a0, .int (nI 0)])), (a0, .inl (cI, 255, .inl (nf v0))), (f1, .inr (1, [.ref a1, .int (nI n1)])), (a1, .inl (cI, 255, .inl (nf v1))), (h, .inr (2, [.ref a])), (a, .inl (cI, 11, .inl (nf b))), (hp, .inr (3, [.ref ap])), (ap, .inl (cI, 32, .inl (nf pb))), (hs, .inr (4, [.ref as])), (as, .inl (cI, 1024, .inl (nf B)))] H := hP.sub [0, 9, 10, 1, 2, 3, 4, 5, 6, 7, 8] rfl
  have hD : va_D A [(x, .inr (0, [.ref f0, .ref f1, .ref h, .ref hp, .ref hs])), (f0, .inr (1, [.ref a0, .int (nI 0)])), (a0, .inl (cI, 255, .inl (nf v0))), (f1, .inr (1, [.ref a1, .int (nI n1)])), (a1, .inl (cI, 255, .inl (nf v1))), (h, .inr (2, [.ref a])), (a, .inl (cI, 11, .inl (nf b))), (hp, .inr (3, [.ref ap])), (ap, .inl (cI, 32, .inl (nf pb))), (hs, .inr (4, [.ref as])), (as, .inl (cI, 1024, .inl (nf B)))] := hD.sub [0, 9, 10, 1, 2, 3, 4, 5, 6, 7, 8] (by decide) rfl
  refine lv_iload_n hx hb d_LN_read_27 rfl (lv_at hl 4 rfl) ?_
  refine lv_if_lt (tgt := 37) hx hb d_LN_read_28 (by decide) (fun c_1 => ?_) (fun c_1 => ?_)
  · skip
    rw [mk_clt (by omega)] at c_1
    first | omega | contradiction
  · skip
    rw [mk_clt (by omega)] at c_1
    refine lv_iload_n hx hb d_LN_read_31 rfl (lv_at hl 4 rfl) ?_
    refine lv_bipush (v := nI 20) hx hb d_LN_read_32 (by decide) ?_
    refine lv_icmp_le (tgt := 47) hx hb d_LN_read_34 (by decide) (fun c_2 => ?_) (fun c_2 => ?_)
    · skip
      rw [nI_leI (by omega) (by omega)] at c_2
      refine lv_iload_n hx hb d_LN_read_47 rfl (lv_at hl 3 rfl) ?_
      refine mk_r1 (W.runS (As := [.int y9]) (rest := []) S (c_Sl_isX l dC dI cI y9 (by first | assumption | omega)) (gS 1 hts k_221 k_207 k_28 k_208 (by decide +kernel) ⟨Nat.le_of_ble_eq_true rfl, Nat.le_of_ble_eq_true rfl⟩) (mk_sR hP hK hT hS [] rfl) rfl rfl hl.1 rfl (lv_room (Nat.le_of_ble_eq_true rfl)) d_LN_read_48 ⟨Nat.zero_le _, Nat.zero_le _⟩) ?_
      refine lv_if_eq (tgt := 59) hx hb d_LN_read_51 (by decide) (fun c_3 => ?_) (fun c_3 => ?_)
      · skip
        rw [mk_ceq (by omega)] at c_3
        obtain ⟨q9, hq9⟩ := hT.str (112, "there is no such slot, or too few before it") (by decide)
        exact hthr 59 _ _ _ 91 112 95 "there is no such slot, or too few before it" q9 hl.1 d_LN_read_59 d_LN_read_62 d_LN_read_63 d_LN_read_65 d_LN_read_68 (List.mem_cons_of_mem _ k_356) (List.mem_cons_of_mem _ k_357) (List.mem_cons_of_mem _ k_35) (fun z hz => List.mem_cons_of_mem _ (th_in_IndexOutOfBoundsException z hz)) th_ok_IndexOutOfBoundsException hq9 hP hD hS
      · skip
        rw [mk_ceq (by omega)] at c_3
        first | omega | contradiction
    · skip
      rw [nI_leI (by omega) (by omega)] at c_2
      first | omega | contradiction

set_option maxHeartbeats 1000000 in
set_option maxRecDepth 100000 in
theorem x_readJ0 (l : Launch) (dC : Nat → ClassId) (dI : Nat → Nat → Nat) (cI : ClassId) (x f0 a0 n0 : Nat) (v0 : Nat → Nat) (f1 a1 n1 : Nat) (v1 : Nat → Nat) (h a : Nat) (b : Nat → Nat) (hp ap : Nat) (pb : Nat → Nat) (hs as : Nat) (B : Nat → Nat) (q p9 : Nat) (hn0 : n0 ≤ 255) (hv0 : ∀ j, v0 j < 65536) (hn1 : n1 ≤ 255) (hv1 : ∀ j, v1 j < 65536) (hb9 : ∀ j, b j < 65536) (hpb : ∀ j, pb j < 65536) (hB : ∀ j, B j < 256) (hp7 : p9 ≤ 20) (hq : q < 32) (hy : q < p9) (htr : l.stackTraces = false) : mT l y_LN_read w_LN_read ({ frames := 6, cells := 1, slots := 6, locals := 82 } : Room) [.ref x, .int (nI 0), .int (nI q), .int (nI p9)] (dC, dI) vwCl [(cI, .int)] [(x, .inr (0, [.ref f0, .ref f1, .ref h, .ref hp, .ref hs])), (f0, .inr (1, [.ref a0, .int (nI n0)])), (a0, .inl (cI, 255, .inl (nf v0))), (f1, .inr (1, [.ref a1, .int (nI n1)])), (a1, .inl (cI, 255, .inl (nf v1))), (h, .inr (2, [.ref a])), (a, .inl (cI, 11, .inl (nf b))), (hp, .inr (3, [.ref ap])), (ap, .inl (cI, 32, .inl (nf pb))), (hs, .inr (4, [.ref as])), (as, .inl (cI, 1024, .inl (nf B)))] "java/lang/IndexOutOfBoundsException" [(x, .inr (0, [.ref f0, .ref f1, .ref h, .ref hp, .ref hs])), (f0, .inr (1, [.ref a0, .int (nI 0)])), (a0, .inl (cI, 255, .inl (nf v0))), (f1, .inr (1, [.ref a1, .int (nI n1)])), (a1, .inl (cI, 255, .inl (nf v1))), (h, .inr (2, [.ref a])), (a, .inl (cI, 11, .inl (nf b))), (hp, .inr (3, [.ref ap])), (ap, .inl (cI, 32, .inl (nf pb))), (hs, .inr (4, [.ref as])), (as, .inl (cI, 1024, .inl (nf B)))] := by
  refine mk_Th (cc := b_LN_read) (maxL := 5) (by decide) rfl (Nat.le_of_ble_eq_true rfl) (th_good _ rfl) htr (by decide +kernel) (by decide) (by decide) rfl rfl ?_
  intro p e s m below meth c Q A ls S hP hK hT hS hl hD hA hthr
  obtain ⟨hx, hb, hml, hown, hts⟩ := id S
  have hl : lv_has ls 5 [(0, .ref x), (1, .int (nI 0)), (2, .int (nI q)), (3, .int (nI p9))] := hl
  refine lv_aload_n hx hb d_LN_read_0 rfl (lv_at hl 0 rfl) ?_
  refine lv_iload_n hx hb d_LN_read_1 rfl (lv_at hl 1 rfl) ?_
  refine mk_r1 (W.runV (As := [.int (nI 0)]) (rest := []) S (c_LN_row0 l dC dI cI x f0 f1 h hp hs) (gV 1 hts k_111 k_113 k_0 k_24 k_114 (by decide +kernel) ⟨Nat.le_of_ble_eq_true rfl, Nat.le_of_ble_eq_true rfl⟩) (mk_vR hP hK hT hS [0] rfl (q0 := 0) (ci := 0) rfl rfl) rfl rfl hl.1 rfl (lv_room (Nat.le_of_ble_eq_true rfl)) d_LN_read_2 ⟨Nat.zero_le _, Nat.zero_le _⟩) ?_
  refine lv_astore (lv' := [(4, .ref f0), (0, .ref x), (1, .int (nI 0)), (2, .int (nI q)), (3, .int (nI p9))]) hx hb d_LN_read_5 hl (by decide) rfl (fun ls hl => ?_)
  refine lv_aload hx hb d_LN_read_7 (lv_at hl 0 rfl) ?_
  refine lv_ifnonnull (tgt := 22) hx hb d_LN_read_9 (by decide) ?_
  refine lv_aload hx hb d_LN_read_22 (lv_at hl 0 rfl) ?_
  refine mk_w0 (wr := [(x, .inr (0, [.ref f0, .ref f1, .ref h, .ref hp, .ref hs])), (f1, .inr (1, [.ref a1, .int (nI n1)])), (a1, .inl (cI, 255, .inl (nf v1))), (h, .inr (2, [.ref a])), (a, .inl (cI, 11, .inl (nf b))), (hp, .inr (3, [.ref ap])), (ap, .inl (cI, 32, .inl (nf pb))), (hs, .inr (4, [.ref as])), (as, .inl (cI, 1024, .inl (nf B)))]) (W.runV (As := []) (rest := []) S ((c_Ro_empty l dC dI cI f0 a0 n0 v0) _) (gV 0 hts k_128 k_129 k_130 k_25 k_131 (by decide +kernel) ⟨Nat.le_of_ble_eq_true rfl, Nat.le_of_ble_eq_true rfl⟩) (mk_vM hP hD hK hT hS hA [1, 2] rfl rfl (by decide) (q0 := 1) (ci := 1) rfl rfl) rfl rfl hl.1 rfl (lv_room (Nat.le_of_ble_eq_true rfl)) d_LN_read_24 ⟨Nat.zero_le _, Nat.zero_le _⟩) hP hD hS hA [1, 2] [0, 3, 4, 5, 6, 7, 8, 9, 10] rfl rfl (by decide) (by decide) (fun H locs hP hD hS => ?_)
  have hP : va_P (dC, dI) vwCl [(x, .inr (0, [.ref f0, .ref f1, .ref h, .ref hp, .ref hs])), (f0, .inr (1, [.ref a0, .int (nI 0)])), (a0, .inl (cI, 255, .inl (nf v0))), (f1, .inr (1, [.ref a1, .int (nI n1)])), (a1, .inl (cI, 255, .inl (nf v1))), (h, .inr (2, [.ref a])), (a, .inl (cI, 11, .inl (nf b))), (hp, .inr (3, [.ref ap])), (ap, .inl (cI, 32, .inl (nf pb))), (hs, .inr (4, [.ref as])), (as, .inl (cI, 1024, .inl (nf B)))] H := hP.sub [0, 9, 10, 1, 2, 3, 4, 5, 6, 7, 8] rfl
  have hD : va_D A [(x, .inr (0, [.ref f0, .ref f1, .ref h, .ref hp, .ref hs])), (f0, .inr (1, [.ref a0, .int (nI 0)])), (a0, .inl (cI, 255, .inl (nf v0))), (f1, .inr (1, [.ref a1, .int (nI n1)])), (a1, .inl (cI, 255, .inl (nf v1))), (h, .inr (2, [.ref a])), (a, .inl (cI, 11, .inl (nf b))), (hp, .inr (3, [.ref ap])), (ap, .inl (cI, 32, .inl (nf pb))), (hs, .inr (4, [.ref as])), (as, .inl (cI, 1024, .inl (nf B)))] := hD.sub [0, 9, 10, 1, 2, 3, 4, 5, 6, 7, 8] (by decide) rfl
  refine lv_iload_n hx hb d_LN_read_27 rfl (lv_at hl 4 rfl) ?_
  refine lv_if_lt (tgt := 37) hx hb d_LN_read_28 (by decide) (fun c_1 => ?_) (fun c_1 => ?_)
  · skip
    rw [mk_clt (by omega)] at c_1
    first | omega | contradiction
  · skip
    rw [mk_clt (by omega)] at c_1
    refine lv_iload_n hx hb d_LN_read_31 rfl (lv_at hl 4 rfl) ?_
    refine lv_bipush (v := nI 20) hx hb d_LN_read_32 (by decide) ?_
    refine lv_icmp_le (tgt := 47) hx hb d_LN_read_34 (by decide) (fun c_2 => ?_) (fun c_2 => ?_)
    · skip
      rw [nI_leI (by omega) (by omega)] at c_2
      refine lv_iload_n hx hb d_LN_read_47 rfl (lv_at hl 3 rfl) ?_
      refine mk_r1 (W.runS (As := [.int (nI q)]) (rest := []) S (c_Sl_isN l dC dI cI q (by first | assumption | omega)) (gS 1 hts k_221 k_207 k_28 k_208 (by decide +kernel) ⟨Nat.le_of_ble_eq_true rfl, Nat.le_of_ble_eq_true rfl⟩) (mk_sR hP hK hT hS [] rfl) rfl rfl hl.1 rfl (lv_room (Nat.le_of_ble_eq_true rfl)) d_LN_read_48 ⟨Nat.zero_le _, Nat.zero_le _⟩) ?_
      refine lv_if_eq (tgt := 59) hx hb d_LN_read_51 (by decide) (fun c_3 => ?_) (fun c_3 => ?_)
      · skip
        rw [mk_ceq (by omega)] at c_3
        first | omega | contradiction
      · skip
        rw [mk_ceq (by omega)] at c_3
        refine lv_iload_n hx hb d_LN_read_54 rfl (lv_at hl 4 rfl) ?_
        refine lv_iload_n hx hb d_LN_read_55 rfl (lv_at hl 3 rfl) ?_
        refine lv_icmp_le (tgt := 69) hx hb d_LN_read_56 (by decide) (fun c_4 => ?_) (fun c_4 => ?_)
        · skip
          rw [nI_leI (by omega) (by omega)] at c_4
          first | omega | contradiction
        · skip
          rw [nI_leI (by omega) (by omega)] at c_4
          obtain ⟨q9, hq9⟩ := hT.str (112, "there is no such slot, or too few before it") (by decide)
          exact hthr 59 _ _ _ 91 112 95 "there is no such slot, or too few before it" q9 hl.1 d_LN_read_59 d_LN_read_62 d_LN_read_63 d_LN_read_65 d_LN_read_68 (List.mem_cons_of_mem _ k_356) (List.mem_cons_of_mem _ k_357) (List.mem_cons_of_mem _ k_35) (fun z hz => List.mem_cons_of_mem _ (th_in_IndexOutOfBoundsException z hz)) th_ok_IndexOutOfBoundsException hq9 hP hD hS
    · skip
      rw [nI_leI (by omega) (by omega)] at c_2
      first | omega | contradiction

set_option maxHeartbeats 1000000 in
set_option maxRecDepth 100000 in
theorem x_readV0 (l : Launch) (dC : Nat → ClassId) (dI : Nat → Nat → Nat) (cI : ClassId) (x f0 a0 n0 : Nat) (v0 : Nat → Nat) (f1 a1 n1 : Nat) (v1 : Nat → Nat) (h a : Nat) (b : Nat → Nat) (hp ap : Nat) (pb : Nat → Nat) (hs as : Nat) (B : Nat → Nat) (q p9 : Nat) (hn0 : n0 ≤ 255) (hv0 : ∀ j, v0 j < 65536) (hn1 : n1 ≤ 255) (hv1 : ∀ j, v1 j < 65536) (hb9 : ∀ j, b j < 65536) (hpb : ∀ j, pb j < 65536) (hB : ∀ j, B j < 256) (h1 : valN (cpN b B (q * 32) 11) = false) (hq : q < 32) (hp7 : p9 ≤ 20 ∧ p9 ≤ q) (htr : l.stackTraces = false) : mT l y_LN_read w_LN_read ({ frames := 6, cells := 1, slots := 6, locals := 86 } : Room) [.ref x, .int (nI 0), .int (nI q), .int (nI p9)] (dC, dI) vwCl [(cI, .int)] [(x, .inr (0, [.ref f0, .ref f1, .ref h, .ref hp, .ref hs])), (f0, .inr (1, [.ref a0, .int (nI n0)])), (a0, .inl (cI, 255, .inl (nf v0))), (f1, .inr (1, [.ref a1, .int (nI n1)])), (a1, .inl (cI, 255, .inl (nf v1))), (h, .inr (2, [.ref a])), (a, .inl (cI, 11, .inl (nf b))), (hp, .inr (3, [.ref ap])), (ap, .inl (cI, 32, .inl (nf pb))), (hs, .inr (4, [.ref as])), (as, .inl (cI, 1024, .inl (nf B)))] "java/lang/IllegalStateException" [(x, .inr (0, [.ref f0, .ref f1, .ref h, .ref hp, .ref hs])), (f0, .inr (1, [.ref a0, .int (nI 0)])), (a0, .inl (cI, 255, .inl (nf v0))), (f1, .inr (1, [.ref a1, .int (nI n1)])), (a1, .inl (cI, 255, .inl (nf v1))), (h, .inr (2, [.ref a])), (a, .inl (cI, 11, .inl (nf (cpN b B (q * 32) 11)))), (hp, .inr (3, [.ref ap])), (ap, .inl (cI, 32, .inl (nf pb))), (hs, .inr (4, [.ref as])), (as, .inl (cI, 1024, .inl (nf B)))] := by
  have htb : ∀ j, (cpN b B (q * 32) 11) j < 65536 := cpN_lt hb9 hB
  refine mk_Th (cc := b_LN_read) (maxL := 5) (by decide) rfl (Nat.le_of_ble_eq_true rfl) (th_good _ rfl) htr (by decide +kernel) (by decide) (by decide) rfl rfl ?_
  intro p e s m below meth c Q A ls S hP hK hT hS hl hD hA hthr
  obtain ⟨hx, hb, hml, hown, hts⟩ := id S
  have hl : lv_has ls 5 [(0, .ref x), (1, .int (nI 0)), (2, .int (nI q)), (3, .int (nI p9))] := hl
  refine lv_aload_n hx hb d_LN_read_0 rfl (lv_at hl 0 rfl) ?_
  refine lv_iload_n hx hb d_LN_read_1 rfl (lv_at hl 1 rfl) ?_
  refine mk_r1 (W.runV (As := [.int (nI 0)]) (rest := []) S (c_LN_row0 l dC dI cI x f0 f1 h hp hs) (gV 1 hts k_111 k_113 k_0 k_24 k_114 (by decide +kernel) ⟨Nat.le_of_ble_eq_true rfl, Nat.le_of_ble_eq_true rfl⟩) (mk_vR hP hK hT hS [0] rfl (q0 := 0) (ci := 0) rfl rfl) rfl rfl hl.1 rfl (lv_room (Nat.le_of_ble_eq_true rfl)) d_LN_read_2 ⟨Nat.zero_le _, Nat.zero_le _⟩) ?_
  refine lv_astore (lv' := [(4, .ref f0), (0, .ref x), (1, .int (nI 0)), (2, .int (nI q)), (3, .int (nI p9))]) hx hb d_LN_read_5 hl (by decide) rfl (fun ls hl => ?_)
  refine lv_aload hx hb d_LN_read_7 (lv_at hl 0 rfl) ?_
  refine lv_ifnonnull (tgt := 22) hx hb d_LN_read_9 (by decide) ?_
  refine lv_aload hx hb d_LN_read_22 (lv_at hl 0 rfl) ?_
  refine mk_w0 (wr := [(x, .inr (0, [.ref f0, .ref f1, .ref h, .ref hp, .ref hs])), (f1, .inr (1, [.ref a1, .int (nI n1)])), (a1, .inl (cI, 255, .inl (nf v1))), (h, .inr (2, [.ref a])), (a, .inl (cI, 11, .inl (nf b))), (hp, .inr (3, [.ref ap])), (ap, .inl (cI, 32, .inl (nf pb))), (hs, .inr (4, [.ref as])), (as, .inl (cI, 1024, .inl (nf B)))]) (W.runV (As := []) (rest := []) S ((c_Ro_empty l dC dI cI f0 a0 n0 v0) _) (gV 0 hts k_128 k_129 k_130 k_25 k_131 (by decide +kernel) ⟨Nat.le_of_ble_eq_true rfl, Nat.le_of_ble_eq_true rfl⟩) (mk_vM hP hD hK hT hS hA [1, 2] rfl rfl (by decide) (q0 := 1) (ci := 1) rfl rfl) rfl rfl hl.1 rfl (lv_room (Nat.le_of_ble_eq_true rfl)) d_LN_read_24 ⟨Nat.zero_le _, Nat.zero_le _⟩) hP hD hS hA [1, 2] [0, 3, 4, 5, 6, 7, 8, 9, 10] rfl rfl (by decide) (by decide) (fun H locs hP hD hS => ?_)
  have hP : va_P (dC, dI) vwCl [(x, .inr (0, [.ref f0, .ref f1, .ref h, .ref hp, .ref hs])), (f0, .inr (1, [.ref a0, .int (nI 0)])), (a0, .inl (cI, 255, .inl (nf v0))), (f1, .inr (1, [.ref a1, .int (nI n1)])), (a1, .inl (cI, 255, .inl (nf v1))), (h, .inr (2, [.ref a])), (a, .inl (cI, 11, .inl (nf b))), (hp, .inr (3, [.ref ap])), (ap, .inl (cI, 32, .inl (nf pb))), (hs, .inr (4, [.ref as])), (as, .inl (cI, 1024, .inl (nf B)))] H := hP.sub [0, 9, 10, 1, 2, 3, 4, 5, 6, 7, 8] rfl
  have hD : va_D A [(x, .inr (0, [.ref f0, .ref f1, .ref h, .ref hp, .ref hs])), (f0, .inr (1, [.ref a0, .int (nI 0)])), (a0, .inl (cI, 255, .inl (nf v0))), (f1, .inr (1, [.ref a1, .int (nI n1)])), (a1, .inl (cI, 255, .inl (nf v1))), (h, .inr (2, [.ref a])), (a, .inl (cI, 11, .inl (nf b))), (hp, .inr (3, [.ref ap])), (ap, .inl (cI, 32, .inl (nf pb))), (hs, .inr (4, [.ref as])), (as, .inl (cI, 1024, .inl (nf B)))] := hD.sub [0, 9, 10, 1, 2, 3, 4, 5, 6, 7, 8] (by decide) rfl
  refine lv_iload_n hx hb d_LN_read_27 rfl (lv_at hl 4 rfl) ?_
  refine lv_if_lt (tgt := 37) hx hb d_LN_read_28 (by decide) (fun c_1 => ?_) (fun c_1 => ?_)
  · skip
    rw [mk_clt (by omega)] at c_1
    first | omega | contradiction
  · skip
    rw [mk_clt (by omega)] at c_1
    refine lv_iload_n hx hb d_LN_read_31 rfl (lv_at hl 4 rfl) ?_
    refine lv_bipush (v := nI 20) hx hb d_LN_read_32 (by decide) ?_
    refine lv_icmp_le (tgt := 47) hx hb d_LN_read_34 (by decide) (fun c_2 => ?_) (fun c_2 => ?_)
    · skip
      rw [nI_leI (by omega) (by omega)] at c_2
      refine lv_iload_n hx hb d_LN_read_47 rfl (lv_at hl 3 rfl) ?_
      refine mk_r1 (W.runS (As := [.int (nI q)]) (rest := []) S (c_Sl_isN l dC dI cI q (by first | assumption | omega)) (gS 1 hts k_221 k_207 k_28 k_208 (by decide +kernel) ⟨Nat.le_of_ble_eq_true rfl, Nat.le_of_ble_eq_true rfl⟩) (mk_sR hP hK hT hS [] rfl) rfl rfl hl.1 rfl (lv_room (Nat.le_of_ble_eq_true rfl)) d_LN_read_48 ⟨Nat.zero_le _, Nat.zero_le _⟩) ?_
      refine lv_if_eq (tgt := 59) hx hb d_LN_read_51 (by decide) (fun c_3 => ?_) (fun c_3 => ?_)
      · skip
        rw [mk_ceq (by omega)] at c_3
        first | omega | contradiction
      · skip
        rw [mk_ceq (by omega)] at c_3
        refine lv_iload_n hx hb d_LN_read_54 rfl (lv_at hl 4 rfl) ?_
        refine lv_iload_n hx hb d_LN_read_55 rfl (lv_at hl 3 rfl) ?_
        refine lv_icmp_le (tgt := 69) hx hb d_LN_read_56 (by decide) (fun c_4 => ?_) (fun c_4 => ?_)
        · skip
          rw [nI_leI (by omega) (by omega)] at c_4
          refine lv_aload_n hx hb d_LN_read_69 rfl (lv_at hl 1 rfl) ?_
          refine va_get (D := (dC, dI)) (ci := 0) (v := .ref h) (C := "LongNames") (T := F_LN) (N := 5) hx hb hts (iw_LN _) hown hK hP 0 rfl rfl 2 (by decide) (hts _ (List.mem_cons_of_mem _ k_93)) (fun _ h9 => h9) rfl d_LN_read_70 ?_
          refine lv_aload_n hx hb d_LN_read_73 rfl (lv_at hl 1 rfl) ?_
          refine va_get (D := (dC, dI)) (ci := 0) (v := .ref hs) (C := "LongNames") (T := F_LN) (N := 5) hx hb hts (iw_LN _) hown hK hP 0 rfl rfl 4 (by decide) (hts _ (List.mem_cons_of_mem _ k_95)) (fun _ h9 => h9) rfl d_LN_read_74 ?_
          refine lv_iload_n hx hb d_LN_read_77 rfl (lv_at hl 3 rfl) ?_
          refine mk_w0 (wr := [(x, .inr (0, [.ref f0, .ref f1, .ref h, .ref hp, .ref hs])), (f0, .inr (1, [.ref a0, .int (nI 0)])), (a0, .inl (cI, 255, .inl (nf v0))), (f1, .inr (1, [.ref a1, .int (nI n1)])), (a1, .inl (cI, 255, .inl (nf v1))), (hp, .inr (3, [.ref ap])), (ap, .inl (cI, 32, .inl (nf pb)))]) (W.runV (As := [.ref hs, .int (nI q)]) (rest := []) S ((c_Sn_take l dC dI cI h a b hs as B q (by first | assumption | omega) (by first | assumption | omega)) _) (gV 2 hts k_460 k_461 k_462 k_26 k_463 (by decide +kernel) ⟨Nat.le_of_ble_eq_true rfl, Nat.le_of_ble_eq_true rfl⟩) (mk_vM hP hD hK hT hS hA [5, 6, 9, 10] rfl rfl (by decide) (q0 := 5) (ci := 2) rfl rfl) rfl rfl hl.1 rfl (lv_room (Nat.le_of_ble_eq_true rfl)) d_LN_read_78 ⟨Nat.zero_le _, Nat.zero_le _⟩) hP hD hS hA [5, 6, 9, 10] [0, 1, 2, 3, 4, 7, 8] rfl rfl (by decide) (by decide) (fun H locs hP hD hS => ?_)
          have hP : va_P (dC, dI) vwCl [(x, .inr (0, [.ref f0, .ref f1, .ref h, .ref hp, .ref hs])), (f0, .inr (1, [.ref a0, .int (nI 0)])), (a0, .inl (cI, 255, .inl (nf v0))), (f1, .inr (1, [.ref a1, .int (nI n1)])), (a1, .inl (cI, 255, .inl (nf v1))), (h, .inr (2, [.ref a])), (a, .inl (cI, 11, .inl (nf (cpN b B (q * 32) 11)))), (hp, .inr (3, [.ref ap])), (ap, .inl (cI, 32, .inl (nf pb))), (hs, .inr (4, [.ref as])), (as, .inl (cI, 1024, .inl (nf B)))] H := hP.sub [0, 1, 2, 3, 4, 7, 8, 5, 6, 9, 10] rfl
          have hD : va_D A [(x, .inr (0, [.ref f0, .ref f1, .ref h, .ref hp, .ref hs])), (f0, .inr (1, [.ref a0, .int (nI 0)])), (a0, .inl (cI, 255, .inl (nf v0))), (f1, .inr (1, [.ref a1, .int (nI n1)])), (a1, .inl (cI, 255, .inl (nf v1))), (h, .inr (2, [.ref a])), (a, .inl (cI, 11, .inl (nf (cpN b B (q * 32) 11)))), (hp, .inr (3, [.ref ap])), (ap, .inl (cI, 32, .inl (nf pb))), (hs, .inr (4, [.ref as])), (as, .inl (cI, 1024, .inl (nf B)))] := hD.sub [0, 1, 2, 3, 4, 7, 8, 5, 6, 9, 10] (by decide) rfl
          refine lv_aload_n hx hb d_LN_read_81 rfl (lv_at hl 1 rfl) ?_
          refine va_get (D := (dC, dI)) (ci := 0) (v := .ref h) (C := "LongNames") (T := F_LN) (N := 5) hx hb hts (iw_LN _) hown hK hP 0 rfl rfl 2 (by decide) (hts _ (List.mem_cons_of_mem _ k_93)) (fun _ h9 => h9) rfl d_LN_read_82 ?_
          refine mk_r1 (W.runV (As := []) (rest := []) S (c_Sn_valid l dC dI cI h a (cpN b B (q * 32) 11) (by first | assumption | omega)) (gV 0 hts k_465 k_466 k_467 k_26 k_468 (by decide +kernel) ⟨Nat.le_of_ble_eq_true rfl, Nat.le_of_ble_eq_true rfl⟩) (mk_vR hP hK hT hS [5, 6] rfl (q0 := 5) (ci := 2) rfl rfl) rfl rfl hl.1 rfl (lv_room (Nat.le_of_ble_eq_true rfl)) d_LN_read_85 ⟨Nat.zero_le _, Nat.zero_le _⟩) ?_
          refine lv_if_ne (tgt := 101) hx hb d_LN_read_88 (by decide) (fun c_5 => ?_) (fun c_5 => ?_)
          · skip
            have c_5 := bI_1 c_5
            rw [h1] at c_5; exact absurd c_5 (by decide)
          · skip
            have c_5 := bI_0 c_5
            obtain ⟨q9, hq9⟩ := hT.str (123, "the entry has no short name") (by decide)
            exact hthr 91 _ _ _ 121 123 125 "the entry has no short name" q9 hl.1 d_LN_read_91 d_LN_read_94 d_LN_read_95 d_LN_read_97 d_LN_read_100 (List.mem_cons_of_mem _ k_474) (List.mem_cons_of_mem _ k_475) (List.mem_cons_of_mem _ k_37) (fun z hz => List.mem_cons_of_mem _ (th_in_IllegalStateException z hz)) th_ok_IllegalStateException hq9 hP hD hS
        · skip
          rw [nI_leI (by omega) (by omega)] at c_4
          first | omega | contradiction
    · skip
      rw [nI_leI (by omega) (by omega)] at c_2
      first | omega | contradiction

set_option maxHeartbeats 1000000 in
set_option maxRecDepth 100000 in
theorem x_readR10 (l : Launch) (dC : Nat → ClassId) (dI : Nat → Nat → Nat) (cI : ClassId) (x f0 a0 n0 : Nat) (v0 : Nat → Nat) (f1 a1 n1 : Nat) (v1 : Nat → Nat) (h a : Nat) (b : Nat → Nat) (hp ap : Nat) (pb : Nat → Nat) (hs as : Nat) (B : Nat → Nat) (q p9 : Nat) (hn0 : n0 ≤ 255) (hv0 : ∀ j, v0 j < 65536) (hn1 : n1 ≤ 255) (hv1 : ∀ j, v1 j < 65536) (hb9 : ∀ j, b j < 65536) (hpb : ∀ j, pb j < 65536) (hB : ∀ j, B j < 256) (h1 : valN (cpN b B (q * 32) 11) = true) (hq : q < 32) (hp7 : 1 ≤ p9 ∧ p9 ≤ 20 ∧ p9 ≤ q) (h3 : nameN (coV v0 (unN B q) (coC (unN B q) (13 * p9) 0)) (coC (unN B q) (13 * p9) 0) = false) (htr : l.stackTraces = false) : mT l y_LN_read w_LN_read ({ frames := 6, cells := 1, slots := 6, locals := 137 } : Room) [.ref x, .int (nI 0), .int (nI q), .int (nI p9)] (dC, dI) vwCl [(cI, .int)] [(x, .inr (0, [.ref f0, .ref f1, .ref h, .ref hp, .ref hs])), (f0, .inr (1, [.ref a0, .int (nI n0)])), (a0, .inl (cI, 255, .inl (nf v0))), (f1, .inr (1, [.ref a1, .int (nI n1)])), (a1, .inl (cI, 255, .inl (nf v1))), (h, .inr (2, [.ref a])), (a, .inl (cI, 11, .inl (nf b))), (hp, .inr (3, [.ref ap])), (ap, .inl (cI, 32, .inl (nf pb))), (hs, .inr (4, [.ref as])), (as, .inl (cI, 1024, .inl (nf B)))] "java/lang/IllegalStateException" [(x, .inr (0, [.ref f0, .ref f1, .ref h, .ref hp, .ref hs])), (f0, .inr (1, [.ref a0, .int (nI 0)])), (a0, .inl (cI, 255, .inl (nf (coV v0 (unN B q) (coC (unN B q) (13 * p9) 0))))), (f1, .inr (1, [.ref a1, .int (nI n1)])), (a1, .inl (cI, 255, .inl (nf v1))), (h, .inr (2, [.ref a])), (a, .inl (cI, 11, .inl (nf (cpN b B (q * 32) 11)))), (hp, .inr (3, [.ref ap])), (ap, .inl (cI, 32, .inl (nf pb))), (hs, .inr (4, [.ref as])), (as, .inl (cI, 1024, .inl (nf B)))] := by
  have htb : ∀ j, (cpN b B (q * 32) 11) j < 65536 := cpN_lt hb9 hB
  refine mk_Th (cc := b_LN_read) (maxL := 5) (by decide) rfl (Nat.le_of_ble_eq_true rfl) (th_good _ rfl) htr (by decide +kernel) (by decide) (by decide) rfl rfl ?_
  intro p e s m below meth c Q A ls S hP hK hT hS hl hD hA hthr
  obtain ⟨hx, hb, hml, hown, hts⟩ := id S
  have hl : lv_has ls 5 [(0, .ref x), (1, .int (nI 0)), (2, .int (nI q)), (3, .int (nI p9))] := hl
  refine lv_aload_n hx hb d_LN_read_0 rfl (lv_at hl 0 rfl) ?_
  refine lv_iload_n hx hb d_LN_read_1 rfl (lv_at hl 1 rfl) ?_
  refine mk_r1 (W.runV (As := [.int (nI 0)]) (rest := []) S (c_LN_row0 l dC dI cI x f0 f1 h hp hs) (gV 1 hts k_111 k_113 k_0 k_24 k_114 (by decide +kernel) ⟨Nat.le_of_ble_eq_true rfl, Nat.le_of_ble_eq_true rfl⟩) (mk_vR hP hK hT hS [0] rfl (q0 := 0) (ci := 0) rfl rfl) rfl rfl hl.1 rfl (lv_room (Nat.le_of_ble_eq_true rfl)) d_LN_read_2 ⟨Nat.zero_le _, Nat.zero_le _⟩) ?_
  refine lv_astore (lv' := [(4, .ref f0), (0, .ref x), (1, .int (nI 0)), (2, .int (nI q)), (3, .int (nI p9))]) hx hb d_LN_read_5 hl (by decide) rfl (fun ls hl => ?_)
  refine lv_aload hx hb d_LN_read_7 (lv_at hl 0 rfl) ?_
  refine lv_ifnonnull (tgt := 22) hx hb d_LN_read_9 (by decide) ?_
  refine lv_aload hx hb d_LN_read_22 (lv_at hl 0 rfl) ?_
  refine mk_w0 (wr := [(x, .inr (0, [.ref f0, .ref f1, .ref h, .ref hp, .ref hs])), (f1, .inr (1, [.ref a1, .int (nI n1)])), (a1, .inl (cI, 255, .inl (nf v1))), (h, .inr (2, [.ref a])), (a, .inl (cI, 11, .inl (nf b))), (hp, .inr (3, [.ref ap])), (ap, .inl (cI, 32, .inl (nf pb))), (hs, .inr (4, [.ref as])), (as, .inl (cI, 1024, .inl (nf B)))]) (W.runV (As := []) (rest := []) S ((c_Ro_empty l dC dI cI f0 a0 n0 v0) _) (gV 0 hts k_128 k_129 k_130 k_25 k_131 (by decide +kernel) ⟨Nat.le_of_ble_eq_true rfl, Nat.le_of_ble_eq_true rfl⟩) (mk_vM hP hD hK hT hS hA [1, 2] rfl rfl (by decide) (q0 := 1) (ci := 1) rfl rfl) rfl rfl hl.1 rfl (lv_room (Nat.le_of_ble_eq_true rfl)) d_LN_read_24 ⟨Nat.zero_le _, Nat.zero_le _⟩) hP hD hS hA [1, 2] [0, 3, 4, 5, 6, 7, 8, 9, 10] rfl rfl (by decide) (by decide) (fun H locs hP hD hS => ?_)
  have hP : va_P (dC, dI) vwCl [(x, .inr (0, [.ref f0, .ref f1, .ref h, .ref hp, .ref hs])), (f0, .inr (1, [.ref a0, .int (nI 0)])), (a0, .inl (cI, 255, .inl (nf v0))), (f1, .inr (1, [.ref a1, .int (nI n1)])), (a1, .inl (cI, 255, .inl (nf v1))), (h, .inr (2, [.ref a])), (a, .inl (cI, 11, .inl (nf b))), (hp, .inr (3, [.ref ap])), (ap, .inl (cI, 32, .inl (nf pb))), (hs, .inr (4, [.ref as])), (as, .inl (cI, 1024, .inl (nf B)))] H := hP.sub [0, 9, 10, 1, 2, 3, 4, 5, 6, 7, 8] rfl
  have hD : va_D A [(x, .inr (0, [.ref f0, .ref f1, .ref h, .ref hp, .ref hs])), (f0, .inr (1, [.ref a0, .int (nI 0)])), (a0, .inl (cI, 255, .inl (nf v0))), (f1, .inr (1, [.ref a1, .int (nI n1)])), (a1, .inl (cI, 255, .inl (nf v1))), (h, .inr (2, [.ref a])), (a, .inl (cI, 11, .inl (nf b))), (hp, .inr (3, [.ref ap])), (ap, .inl (cI, 32, .inl (nf pb))), (hs, .inr (4, [.ref as])), (as, .inl (cI, 1024, .inl (nf B)))] := hD.sub [0, 9, 10, 1, 2, 3, 4, 5, 6, 7, 8] (by decide) rfl
  refine lv_iload_n hx hb d_LN_read_27 rfl (lv_at hl 4 rfl) ?_
  refine lv_if_lt (tgt := 37) hx hb d_LN_read_28 (by decide) (fun c_1 => ?_) (fun c_1 => ?_)
  · skip
    rw [mk_clt (by omega)] at c_1
    first | omega | contradiction
  · skip
    rw [mk_clt (by omega)] at c_1
    refine lv_iload_n hx hb d_LN_read_31 rfl (lv_at hl 4 rfl) ?_
    refine lv_bipush (v := nI 20) hx hb d_LN_read_32 (by decide) ?_
    refine lv_icmp_le (tgt := 47) hx hb d_LN_read_34 (by decide) (fun c_2 => ?_) (fun c_2 => ?_)
    · skip
      rw [nI_leI (by omega) (by omega)] at c_2
      refine lv_iload_n hx hb d_LN_read_47 rfl (lv_at hl 3 rfl) ?_
      refine mk_r1 (W.runS (As := [.int (nI q)]) (rest := []) S (c_Sl_isN l dC dI cI q (by first | assumption | omega)) (gS 1 hts k_221 k_207 k_28 k_208 (by decide +kernel) ⟨Nat.le_of_ble_eq_true rfl, Nat.le_of_ble_eq_true rfl⟩) (mk_sR hP hK hT hS [] rfl) rfl rfl hl.1 rfl (lv_room (Nat.le_of_ble_eq_true rfl)) d_LN_read_48 ⟨Nat.zero_le _, Nat.zero_le _⟩) ?_
      refine lv_if_eq (tgt := 59) hx hb d_LN_read_51 (by decide) (fun c_3 => ?_) (fun c_3 => ?_)
      · skip
        rw [mk_ceq (by omega)] at c_3
        first | omega | contradiction
      · skip
        rw [mk_ceq (by omega)] at c_3
        refine lv_iload_n hx hb d_LN_read_54 rfl (lv_at hl 4 rfl) ?_
        refine lv_iload_n hx hb d_LN_read_55 rfl (lv_at hl 3 rfl) ?_
        refine lv_icmp_le (tgt := 69) hx hb d_LN_read_56 (by decide) (fun c_4 => ?_) (fun c_4 => ?_)
        · skip
          rw [nI_leI (by omega) (by omega)] at c_4
          refine lv_aload_n hx hb d_LN_read_69 rfl (lv_at hl 1 rfl) ?_
          refine va_get (D := (dC, dI)) (ci := 0) (v := .ref h) (C := "LongNames") (T := F_LN) (N := 5) hx hb hts (iw_LN _) hown hK hP 0 rfl rfl 2 (by decide) (hts _ (List.mem_cons_of_mem _ k_93)) (fun _ h9 => h9) rfl d_LN_read_70 ?_
          refine lv_aload_n hx hb d_LN_read_73 rfl (lv_at hl 1 rfl) ?_
          refine va_get (D := (dC, dI)) (ci := 0) (v := .ref hs) (C := "LongNames") (T := F_LN) (N := 5) hx hb hts (iw_LN _) hown hK hP 0 rfl rfl 4 (by decide) (hts _ (List.mem_cons_of_mem _ k_95)) (fun _ h9 => h9) rfl d_LN_read_74 ?_
          refine lv_iload_n hx hb d_LN_read_77 rfl (lv_at hl 3 rfl) ?_
          refine mk_w0 (wr := [(x, .inr (0, [.ref f0, .ref f1, .ref h, .ref hp, .ref hs])), (f0, .inr (1, [.ref a0, .int (nI 0)])), (a0, .inl (cI, 255, .inl (nf v0))), (f1, .inr (1, [.ref a1, .int (nI n1)])), (a1, .inl (cI, 255, .inl (nf v1))), (hp, .inr (3, [.ref ap])), (ap, .inl (cI, 32, .inl (nf pb)))]) (W.runV (As := [.ref hs, .int (nI q)]) (rest := []) S ((c_Sn_take l dC dI cI h a b hs as B q (by first | assumption | omega) (by first | assumption | omega)) _) (gV 2 hts k_460 k_461 k_462 k_26 k_463 (by decide +kernel) ⟨Nat.le_of_ble_eq_true rfl, Nat.le_of_ble_eq_true rfl⟩) (mk_vM hP hD hK hT hS hA [5, 6, 9, 10] rfl rfl (by decide) (q0 := 5) (ci := 2) rfl rfl) rfl rfl hl.1 rfl (lv_room (Nat.le_of_ble_eq_true rfl)) d_LN_read_78 ⟨Nat.zero_le _, Nat.zero_le _⟩) hP hD hS hA [5, 6, 9, 10] [0, 1, 2, 3, 4, 7, 8] rfl rfl (by decide) (by decide) (fun H locs hP hD hS => ?_)
          have hP : va_P (dC, dI) vwCl [(x, .inr (0, [.ref f0, .ref f1, .ref h, .ref hp, .ref hs])), (f0, .inr (1, [.ref a0, .int (nI 0)])), (a0, .inl (cI, 255, .inl (nf v0))), (f1, .inr (1, [.ref a1, .int (nI n1)])), (a1, .inl (cI, 255, .inl (nf v1))), (h, .inr (2, [.ref a])), (a, .inl (cI, 11, .inl (nf (cpN b B (q * 32) 11)))), (hp, .inr (3, [.ref ap])), (ap, .inl (cI, 32, .inl (nf pb))), (hs, .inr (4, [.ref as])), (as, .inl (cI, 1024, .inl (nf B)))] H := hP.sub [0, 1, 2, 3, 4, 7, 8, 5, 6, 9, 10] rfl
          have hD : va_D A [(x, .inr (0, [.ref f0, .ref f1, .ref h, .ref hp, .ref hs])), (f0, .inr (1, [.ref a0, .int (nI 0)])), (a0, .inl (cI, 255, .inl (nf v0))), (f1, .inr (1, [.ref a1, .int (nI n1)])), (a1, .inl (cI, 255, .inl (nf v1))), (h, .inr (2, [.ref a])), (a, .inl (cI, 11, .inl (nf (cpN b B (q * 32) 11)))), (hp, .inr (3, [.ref ap])), (ap, .inl (cI, 32, .inl (nf pb))), (hs, .inr (4, [.ref as])), (as, .inl (cI, 1024, .inl (nf B)))] := hD.sub [0, 1, 2, 3, 4, 7, 8, 5, 6, 9, 10] (by decide) rfl
          refine lv_aload_n hx hb d_LN_read_81 rfl (lv_at hl 1 rfl) ?_
          refine va_get (D := (dC, dI)) (ci := 0) (v := .ref h) (C := "LongNames") (T := F_LN) (N := 5) hx hb hts (iw_LN _) hown hK hP 0 rfl rfl 2 (by decide) (hts _ (List.mem_cons_of_mem _ k_93)) (fun _ h9 => h9) rfl d_LN_read_82 ?_
          refine mk_r1 (W.runV (As := []) (rest := []) S (c_Sn_valid l dC dI cI h a (cpN b B (q * 32) 11) (by first | assumption | omega)) (gV 0 hts k_465 k_466 k_467 k_26 k_468 (by decide +kernel) ⟨Nat.le_of_ble_eq_true rfl, Nat.le_of_ble_eq_true rfl⟩) (mk_vR hP hK hT hS [5, 6] rfl (q0 := 5) (ci := 2) rfl rfl) rfl rfl hl.1 rfl (lv_room (Nat.le_of_ble_eq_true rfl)) d_LN_read_85 ⟨Nat.zero_le _, Nat.zero_le _⟩) ?_
          refine lv_if_ne (tgt := 101) hx hb d_LN_read_88 (by decide) (fun c_5 => ?_) (fun c_5 => ?_)
          · skip
            have c_5 := bI_1 c_5
            refine lv_iload_n hx hb d_LN_read_101 rfl (lv_at hl 4 rfl) ?_
            refine lv_if_ne (tgt := 117) hx hb d_LN_read_102 (by decide) (fun c_6 => ?_) (fun c_6 => ?_)
            · skip
              rw [mk_ceq (by omega)] at c_6
              refine lv_aload_n hx hb d_LN_read_117 rfl (lv_at hl 1 rfl) ?_
              refine lv_aload hx hb d_LN_read_118 (lv_at hl 0 rfl) ?_
              refine lv_iload_n hx hb d_LN_read_120 rfl (lv_at hl 3 rfl) ?_
              refine lv_iload_n hx hb d_LN_read_121 rfl (lv_at hl 4 rfl) ?_
              refine mk_w1 (wr := [(f1, .inr (1, [.ref a1, .int (nI n1)])), (a1, .inl (cI, 255, .inl (nf v1))), (h, .inr (2, [.ref a])), (a, .inl (cI, 11, .inl (nf (cpN b B (q * 32) 11))))]) (W.runV (As := [.ref f0, .int (nI q), .int (nI p9)]) (rest := []) S ((c_LN_rp1 l dC dI cI x f0 f1 h hp ap pb hs as B f0 a0 v0 q p9 (by first | assumption | omega) (by first | assumption | omega) (by first | assumption | omega) (by first | assumption | omega) (by first | assumption | omega) (by first | assumption | omega) (by first | assumption | omega)) _) (gV 3 hts k_499 k_501 k_11 k_24 k_502 (by decide +kernel) ⟨Nat.le_of_ble_eq_true rfl, Nat.le_of_ble_eq_true rfl⟩) (mk_vM hP hD hK hT hS hA [0, 7, 8, 9, 10, 1, 2] rfl rfl (by decide) (q0 := 0) (ci := 0) rfl rfl) rfl rfl hl.1 rfl (lv_room (Nat.le_of_ble_eq_true rfl)) d_LN_read_122 ⟨Nat.zero_le _, Nat.zero_le _⟩) hP hD hS hA [0, 7, 8, 9, 10, 1, 2] [3, 4, 5, 6] rfl rfl (by decide) (by decide) (fun H locs hP hD hS => ?_)
              have hP : va_P (dC, dI) vwCl [(x, .inr (0, [.ref f0, .ref f1, .ref h, .ref hp, .ref hs])), (f0, .inr (1, [.ref a0, .int (nI (coC (unN B q) (13 * p9) 0))])), (a0, .inl (cI, 255, .inl (nf (coV v0 (unN B q) (coC (unN B q) (13 * p9) 0))))), (f1, .inr (1, [.ref a1, .int (nI n1)])), (a1, .inl (cI, 255, .inl (nf v1))), (h, .inr (2, [.ref a])), (a, .inl (cI, 11, .inl (nf (cpN b B (q * 32) 11)))), (hp, .inr (3, [.ref ap])), (ap, .inl (cI, 32, .inl (nf pb))), (hs, .inr (4, [.ref as])), (as, .inl (cI, 1024, .inl (nf B)))] H := hP.sub [4, 9, 10, 0, 1, 2, 3, 5, 6, 7, 8] rfl
              have hD : va_D A [(x, .inr (0, [.ref f0, .ref f1, .ref h, .ref hp, .ref hs])), (f0, .inr (1, [.ref a0, .int (nI (coC (unN B q) (13 * p9) 0))])), (a0, .inl (cI, 255, .inl (nf (coV v0 (unN B q) (coC (unN B q) (13 * p9) 0))))), (f1, .inr (1, [.ref a1, .int (nI n1)])), (a1, .inl (cI, 255, .inl (nf v1))), (h, .inr (2, [.ref a])), (a, .inl (cI, 11, .inl (nf (cpN b B (q * 32) 11)))), (hp, .inr (3, [.ref ap])), (ap, .inl (cI, 32, .inl (nf pb))), (hs, .inr (4, [.ref as])), (as, .inl (cI, 1024, .inl (nf B)))] := hD.sub [4, 9, 10, 0, 1, 2, 3, 5, 6, 7, 8] (by decide) rfl
              refine lv_if_ne (tgt := 143) hx hb d_LN_read_125 (by decide) (fun c_7 => ?_) (fun c_7 => ?_)
              · skip
                rw [mk_ceq (by omega)] at c_7
                first | omega | contradiction
              · skip
                rw [mk_ceq (by omega)] at c_7
                refine lv_aload hx hb d_LN_read_128 (lv_at hl 0 rfl) ?_
                refine mk_w0 (wr := [(x, .inr (0, [.ref f0, .ref f1, .ref h, .ref hp, .ref hs])), (f1, .inr (1, [.ref a1, .int (nI n1)])), (a1, .inl (cI, 255, .inl (nf v1))), (h, .inr (2, [.ref a])), (a, .inl (cI, 11, .inl (nf (cpN b B (q * 32) 11)))), (hp, .inr (3, [.ref ap])), (ap, .inl (cI, 32, .inl (nf pb))), (hs, .inr (4, [.ref as])), (as, .inl (cI, 1024, .inl (nf B)))]) (W.runV (As := []) (rest := []) S ((c_Ro_empty l dC dI cI f0 a0 (coC (unN B q) (13 * p9) 0) (coV v0 (unN B q) (coC (unN B q) (13 * p9) 0))) _) (gV 0 hts k_128 k_129 k_130 k_25 k_131 (by decide +kernel) ⟨Nat.le_of_ble_eq_true rfl, Nat.le_of_ble_eq_true rfl⟩) (mk_vM hP hD hK hT hS hA [1, 2] rfl rfl (by decide) (q0 := 1) (ci := 1) rfl rfl) rfl rfl hl.1 rfl (lv_room (Nat.le_of_ble_eq_true rfl)) d_LN_read_130 ⟨Nat.zero_le _, Nat.zero_le _⟩) hP hD hS hA [1, 2] [0, 3, 4, 5, 6, 7, 8, 9, 10] rfl rfl (by decide) (by decide) (fun H locs hP hD hS => ?_)
                have hP : va_P (dC, dI) vwCl [(x, .inr (0, [.ref f0, .ref f1, .ref h, .ref hp, .ref hs])), (f0, .inr (1, [.ref a0, .int (nI 0)])), (a0, .inl (cI, 255, .inl (nf (coV v0 (unN B q) (coC (unN B q) (13 * p9) 0))))), (f1, .inr (1, [.ref a1, .int (nI n1)])), (a1, .inl (cI, 255, .inl (nf v1))), (h, .inr (2, [.ref a])), (a, .inl (cI, 11, .inl (nf (cpN b B (q * 32) 11)))), (hp, .inr (3, [.ref ap])), (ap, .inl (cI, 32, .inl (nf pb))), (hs, .inr (4, [.ref as])), (as, .inl (cI, 1024, .inl (nf B)))] H := hP.sub [0, 9, 10, 1, 2, 3, 4, 5, 6, 7, 8] rfl
                have hD : va_D A [(x, .inr (0, [.ref f0, .ref f1, .ref h, .ref hp, .ref hs])), (f0, .inr (1, [.ref a0, .int (nI 0)])), (a0, .inl (cI, 255, .inl (nf (coV v0 (unN B q) (coC (unN B q) (13 * p9) 0))))), (f1, .inr (1, [.ref a1, .int (nI n1)])), (a1, .inl (cI, 255, .inl (nf v1))), (h, .inr (2, [.ref a])), (a, .inl (cI, 11, .inl (nf (cpN b B (q * 32) 11)))), (hp, .inr (3, [.ref ap])), (ap, .inl (cI, 32, .inl (nf pb))), (hs, .inr (4, [.ref as])), (as, .inl (cI, 1024, .inl (nf B)))] := hD.sub [0, 9, 10, 1, 2, 3, 4, 5, 6, 7, 8] (by decide) rfl
                obtain ⟨q9, hq9⟩ := hT.str (133, "the parts are not those of the entry") (by decide)
                exact hthr 133 _ _ _ 121 133 125 "the parts are not those of the entry" q9 hl.1 d_LN_read_133 d_LN_read_136 d_LN_read_137 d_LN_read_139 d_LN_read_142 (List.mem_cons_of_mem _ k_474) (List.mem_cons_of_mem _ k_475) (List.mem_cons_of_mem _ k_37) (fun z hz => List.mem_cons_of_mem _ (th_in_IllegalStateException z hz)) th_ok_IllegalStateException hq9 hP hD hS
            · skip
              rw [mk_ceq (by omega)] at c_6
              first | omega | contradiction
          · skip
            have c_5 := bI_0 c_5
            rw [h1] at c_5; exact absurd c_5 (by decide)
        · skip
          rw [nI_leI (by omega) (by omega)] at c_4
          first | omega | contradiction
    · skip
      rw [nI_leI (by omega) (by omega)] at c_2
      first | omega | contradiction

set_option maxHeartbeats 1000000 in
set_option maxRecDepth 100000 in
theorem x_readR20 (l : Launch) (dC : Nat → ClassId) (dI : Nat → Nat → Nat) (cI : ClassId) (x f0 a0 n0 : Nat) (v0 : Nat → Nat) (f1 a1 n1 : Nat) (v1 : Nat → Nat) (h a : Nat) (b : Nat → Nat) (hp ap : Nat) (pb : Nat → Nat) (hs as : Nat) (B : Nat → Nat) (q p9 : Nat) (hn0 : n0 ≤ 255) (hv0 : ∀ j, v0 j < 65536) (hn1 : n1 ≤ 255) (hv1 : ∀ j, v1 j < 65536) (hb9 : ∀ j, b j < 65536) (hpb : ∀ j, pb j < 65536) (hB : ∀ j, B j < 256) (h1 : valN (cpN b B (q * 32) 11) = true) (hq : q < 32) (hp7 : 1 ≤ p9 ∧ p9 ≤ 20 ∧ p9 ≤ q) (h3 : nameN (coV v0 (unN B q) (coC (unN B q) (13 * p9) 0)) (coC (unN B q) (13 * p9) 0) = true) (h4 : ¬ pnN (coC (unN B q) (13 * p9) 0) = p9) (htr : l.stackTraces = false) : mT l y_LN_read w_LN_read ({ frames := 6, cells := 1, slots := 6, locals := 137 } : Room) [.ref x, .int (nI 0), .int (nI q), .int (nI p9)] (dC, dI) vwCl [(cI, .int)] [(x, .inr (0, [.ref f0, .ref f1, .ref h, .ref hp, .ref hs])), (f0, .inr (1, [.ref a0, .int (nI n0)])), (a0, .inl (cI, 255, .inl (nf v0))), (f1, .inr (1, [.ref a1, .int (nI n1)])), (a1, .inl (cI, 255, .inl (nf v1))), (h, .inr (2, [.ref a])), (a, .inl (cI, 11, .inl (nf b))), (hp, .inr (3, [.ref ap])), (ap, .inl (cI, 32, .inl (nf pb))), (hs, .inr (4, [.ref as])), (as, .inl (cI, 1024, .inl (nf B)))] "java/lang/IllegalStateException" [(x, .inr (0, [.ref f0, .ref f1, .ref h, .ref hp, .ref hs])), (f0, .inr (1, [.ref a0, .int (nI 0)])), (a0, .inl (cI, 255, .inl (nf (coV v0 (unN B q) (coC (unN B q) (13 * p9) 0))))), (f1, .inr (1, [.ref a1, .int (nI n1)])), (a1, .inl (cI, 255, .inl (nf v1))), (h, .inr (2, [.ref a])), (a, .inl (cI, 11, .inl (nf (cpN b B (q * 32) 11)))), (hp, .inr (3, [.ref ap])), (ap, .inl (cI, 32, .inl (nf pb))), (hs, .inr (4, [.ref as])), (as, .inl (cI, 1024, .inl (nf B)))] := by
  have htb : ∀ j, (cpN b B (q * 32) 11) j < 65536 := cpN_lt hb9 hB
  refine mk_Th (cc := b_LN_read) (maxL := 5) (by decide) rfl (Nat.le_of_ble_eq_true rfl) (th_good _ rfl) htr (by decide +kernel) (by decide) (by decide) rfl rfl ?_
  intro p e s m below meth c Q A ls S hP hK hT hS hl hD hA hthr
  obtain ⟨hx, hb, hml, hown, hts⟩ := id S
  have hl : lv_has ls 5 [(0, .ref x), (1, .int (nI 0)), (2, .int (nI q)), (3, .int (nI p9))] := hl
  refine lv_aload_n hx hb d_LN_read_0 rfl (lv_at hl 0 rfl) ?_
  refine lv_iload_n hx hb d_LN_read_1 rfl (lv_at hl 1 rfl) ?_
  refine mk_r1 (W.runV (As := [.int (nI 0)]) (rest := []) S (c_LN_row0 l dC dI cI x f0 f1 h hp hs) (gV 1 hts k_111 k_113 k_0 k_24 k_114 (by decide +kernel) ⟨Nat.le_of_ble_eq_true rfl, Nat.le_of_ble_eq_true rfl⟩) (mk_vR hP hK hT hS [0] rfl (q0 := 0) (ci := 0) rfl rfl) rfl rfl hl.1 rfl (lv_room (Nat.le_of_ble_eq_true rfl)) d_LN_read_2 ⟨Nat.zero_le _, Nat.zero_le _⟩) ?_
  refine lv_astore (lv' := [(4, .ref f0), (0, .ref x), (1, .int (nI 0)), (2, .int (nI q)), (3, .int (nI p9))]) hx hb d_LN_read_5 hl (by decide) rfl (fun ls hl => ?_)
  refine lv_aload hx hb d_LN_read_7 (lv_at hl 0 rfl) ?_
  refine lv_ifnonnull (tgt := 22) hx hb d_LN_read_9 (by decide) ?_
  refine lv_aload hx hb d_LN_read_22 (lv_at hl 0 rfl) ?_
  refine mk_w0 (wr := [(x, .inr (0, [.ref f0, .ref f1, .ref h, .ref hp, .ref hs])), (f1, .inr (1, [.ref a1, .int (nI n1)])), (a1, .inl (cI, 255, .inl (nf v1))), (h, .inr (2, [.ref a])), (a, .inl (cI, 11, .inl (nf b))), (hp, .inr (3, [.ref ap])), (ap, .inl (cI, 32, .inl (nf pb))), (hs, .inr (4, [.ref as])), (as, .inl (cI, 1024, .inl (nf B)))]) (W.runV (As := []) (rest := []) S ((c_Ro_empty l dC dI cI f0 a0 n0 v0) _) (gV 0 hts k_128 k_129 k_130 k_25 k_131 (by decide +kernel) ⟨Nat.le_of_ble_eq_true rfl, Nat.le_of_ble_eq_true rfl⟩) (mk_vM hP hD hK hT hS hA [1, 2] rfl rfl (by decide) (q0 := 1) (ci := 1) rfl rfl) rfl rfl hl.1 rfl (lv_room (Nat.le_of_ble_eq_true rfl)) d_LN_read_24 ⟨Nat.zero_le _, Nat.zero_le _⟩) hP hD hS hA [1, 2] [0, 3, 4, 5, 6, 7, 8, 9, 10] rfl rfl (by decide) (by decide) (fun H locs hP hD hS => ?_)
  have hP : va_P (dC, dI) vwCl [(x, .inr (0, [.ref f0, .ref f1, .ref h, .ref hp, .ref hs])), (f0, .inr (1, [.ref a0, .int (nI 0)])), (a0, .inl (cI, 255, .inl (nf v0))), (f1, .inr (1, [.ref a1, .int (nI n1)])), (a1, .inl (cI, 255, .inl (nf v1))), (h, .inr (2, [.ref a])), (a, .inl (cI, 11, .inl (nf b))), (hp, .inr (3, [.ref ap])), (ap, .inl (cI, 32, .inl (nf pb))), (hs, .inr (4, [.ref as])), (as, .inl (cI, 1024, .inl (nf B)))] H := hP.sub [0, 9, 10, 1, 2, 3, 4, 5, 6, 7, 8] rfl
  have hD : va_D A [(x, .inr (0, [.ref f0, .ref f1, .ref h, .ref hp, .ref hs])), (f0, .inr (1, [.ref a0, .int (nI 0)])), (a0, .inl (cI, 255, .inl (nf v0))), (f1, .inr (1, [.ref a1, .int (nI n1)])), (a1, .inl (cI, 255, .inl (nf v1))), (h, .inr (2, [.ref a])), (a, .inl (cI, 11, .inl (nf b))), (hp, .inr (3, [.ref ap])), (ap, .inl (cI, 32, .inl (nf pb))), (hs, .inr (4, [.ref as])), (as, .inl (cI, 1024, .inl (nf B)))] := hD.sub [0, 9, 10, 1, 2, 3, 4, 5, 6, 7, 8] (by decide) rfl
  refine lv_iload_n hx hb d_LN_read_27 rfl (lv_at hl 4 rfl) ?_
  refine lv_if_lt (tgt := 37) hx hb d_LN_read_28 (by decide) (fun c_1 => ?_) (fun c_1 => ?_)
  · skip
    rw [mk_clt (by omega)] at c_1
    first | omega | contradiction
  · skip
    rw [mk_clt (by omega)] at c_1
    refine lv_iload_n hx hb d_LN_read_31 rfl (lv_at hl 4 rfl) ?_
    refine lv_bipush (v := nI 20) hx hb d_LN_read_32 (by decide) ?_
    refine lv_icmp_le (tgt := 47) hx hb d_LN_read_34 (by decide) (fun c_2 => ?_) (fun c_2 => ?_)
    · skip
      rw [nI_leI (by omega) (by omega)] at c_2
      refine lv_iload_n hx hb d_LN_read_47 rfl (lv_at hl 3 rfl) ?_
      refine mk_r1 (W.runS (As := [.int (nI q)]) (rest := []) S (c_Sl_isN l dC dI cI q (by first | assumption | omega)) (gS 1 hts k_221 k_207 k_28 k_208 (by decide +kernel) ⟨Nat.le_of_ble_eq_true rfl, Nat.le_of_ble_eq_true rfl⟩) (mk_sR hP hK hT hS [] rfl) rfl rfl hl.1 rfl (lv_room (Nat.le_of_ble_eq_true rfl)) d_LN_read_48 ⟨Nat.zero_le _, Nat.zero_le _⟩) ?_
      refine lv_if_eq (tgt := 59) hx hb d_LN_read_51 (by decide) (fun c_3 => ?_) (fun c_3 => ?_)
      · skip
        rw [mk_ceq (by omega)] at c_3
        first | omega | contradiction
      · skip
        rw [mk_ceq (by omega)] at c_3
        refine lv_iload_n hx hb d_LN_read_54 rfl (lv_at hl 4 rfl) ?_
        refine lv_iload_n hx hb d_LN_read_55 rfl (lv_at hl 3 rfl) ?_
        refine lv_icmp_le (tgt := 69) hx hb d_LN_read_56 (by decide) (fun c_4 => ?_) (fun c_4 => ?_)
        · skip
          rw [nI_leI (by omega) (by omega)] at c_4
          refine lv_aload_n hx hb d_LN_read_69 rfl (lv_at hl 1 rfl) ?_
          refine va_get (D := (dC, dI)) (ci := 0) (v := .ref h) (C := "LongNames") (T := F_LN) (N := 5) hx hb hts (iw_LN _) hown hK hP 0 rfl rfl 2 (by decide) (hts _ (List.mem_cons_of_mem _ k_93)) (fun _ h9 => h9) rfl d_LN_read_70 ?_
          refine lv_aload_n hx hb d_LN_read_73 rfl (lv_at hl 1 rfl) ?_
          refine va_get (D := (dC, dI)) (ci := 0) (v := .ref hs) (C := "LongNames") (T := F_LN) (N := 5) hx hb hts (iw_LN _) hown hK hP 0 rfl rfl 4 (by decide) (hts _ (List.mem_cons_of_mem _ k_95)) (fun _ h9 => h9) rfl d_LN_read_74 ?_
          refine lv_iload_n hx hb d_LN_read_77 rfl (lv_at hl 3 rfl) ?_
          refine mk_w0 (wr := [(x, .inr (0, [.ref f0, .ref f1, .ref h, .ref hp, .ref hs])), (f0, .inr (1, [.ref a0, .int (nI 0)])), (a0, .inl (cI, 255, .inl (nf v0))), (f1, .inr (1, [.ref a1, .int (nI n1)])), (a1, .inl (cI, 255, .inl (nf v1))), (hp, .inr (3, [.ref ap])), (ap, .inl (cI, 32, .inl (nf pb)))]) (W.runV (As := [.ref hs, .int (nI q)]) (rest := []) S ((c_Sn_take l dC dI cI h a b hs as B q (by first | assumption | omega) (by first | assumption | omega)) _) (gV 2 hts k_460 k_461 k_462 k_26 k_463 (by decide +kernel) ⟨Nat.le_of_ble_eq_true rfl, Nat.le_of_ble_eq_true rfl⟩) (mk_vM hP hD hK hT hS hA [5, 6, 9, 10] rfl rfl (by decide) (q0 := 5) (ci := 2) rfl rfl) rfl rfl hl.1 rfl (lv_room (Nat.le_of_ble_eq_true rfl)) d_LN_read_78 ⟨Nat.zero_le _, Nat.zero_le _⟩) hP hD hS hA [5, 6, 9, 10] [0, 1, 2, 3, 4, 7, 8] rfl rfl (by decide) (by decide) (fun H locs hP hD hS => ?_)
          have hP : va_P (dC, dI) vwCl [(x, .inr (0, [.ref f0, .ref f1, .ref h, .ref hp, .ref hs])), (f0, .inr (1, [.ref a0, .int (nI 0)])), (a0, .inl (cI, 255, .inl (nf v0))), (f1, .inr (1, [.ref a1, .int (nI n1)])), (a1, .inl (cI, 255, .inl (nf v1))), (h, .inr (2, [.ref a])), (a, .inl (cI, 11, .inl (nf (cpN b B (q * 32) 11)))), (hp, .inr (3, [.ref ap])), (ap, .inl (cI, 32, .inl (nf pb))), (hs, .inr (4, [.ref as])), (as, .inl (cI, 1024, .inl (nf B)))] H := hP.sub [0, 1, 2, 3, 4, 7, 8, 5, 6, 9, 10] rfl
          have hD : va_D A [(x, .inr (0, [.ref f0, .ref f1, .ref h, .ref hp, .ref hs])), (f0, .inr (1, [.ref a0, .int (nI 0)])), (a0, .inl (cI, 255, .inl (nf v0))), (f1, .inr (1, [.ref a1, .int (nI n1)])), (a1, .inl (cI, 255, .inl (nf v1))), (h, .inr (2, [.ref a])), (a, .inl (cI, 11, .inl (nf (cpN b B (q * 32) 11)))), (hp, .inr (3, [.ref ap])), (ap, .inl (cI, 32, .inl (nf pb))), (hs, .inr (4, [.ref as])), (as, .inl (cI, 1024, .inl (nf B)))] := hD.sub [0, 1, 2, 3, 4, 7, 8, 5, 6, 9, 10] (by decide) rfl
          refine lv_aload_n hx hb d_LN_read_81 rfl (lv_at hl 1 rfl) ?_
          refine va_get (D := (dC, dI)) (ci := 0) (v := .ref h) (C := "LongNames") (T := F_LN) (N := 5) hx hb hts (iw_LN _) hown hK hP 0 rfl rfl 2 (by decide) (hts _ (List.mem_cons_of_mem _ k_93)) (fun _ h9 => h9) rfl d_LN_read_82 ?_
          refine mk_r1 (W.runV (As := []) (rest := []) S (c_Sn_valid l dC dI cI h a (cpN b B (q * 32) 11) (by first | assumption | omega)) (gV 0 hts k_465 k_466 k_467 k_26 k_468 (by decide +kernel) ⟨Nat.le_of_ble_eq_true rfl, Nat.le_of_ble_eq_true rfl⟩) (mk_vR hP hK hT hS [5, 6] rfl (q0 := 5) (ci := 2) rfl rfl) rfl rfl hl.1 rfl (lv_room (Nat.le_of_ble_eq_true rfl)) d_LN_read_85 ⟨Nat.zero_le _, Nat.zero_le _⟩) ?_
          refine lv_if_ne (tgt := 101) hx hb d_LN_read_88 (by decide) (fun c_5 => ?_) (fun c_5 => ?_)
          · skip
            have c_5 := bI_1 c_5
            refine lv_iload_n hx hb d_LN_read_101 rfl (lv_at hl 4 rfl) ?_
            refine lv_if_ne (tgt := 117) hx hb d_LN_read_102 (by decide) (fun c_6 => ?_) (fun c_6 => ?_)
            · skip
              rw [mk_ceq (by omega)] at c_6
              refine lv_aload_n hx hb d_LN_read_117 rfl (lv_at hl 1 rfl) ?_
              refine lv_aload hx hb d_LN_read_118 (lv_at hl 0 rfl) ?_
              refine lv_iload_n hx hb d_LN_read_120 rfl (lv_at hl 3 rfl) ?_
              refine lv_iload_n hx hb d_LN_read_121 rfl (lv_at hl 4 rfl) ?_
              refine mk_w1 (wr := [(f1, .inr (1, [.ref a1, .int (nI n1)])), (a1, .inl (cI, 255, .inl (nf v1))), (h, .inr (2, [.ref a])), (a, .inl (cI, 11, .inl (nf (cpN b B (q * 32) 11))))]) (W.runV (As := [.ref f0, .int (nI q), .int (nI p9)]) (rest := []) S ((c_LN_rp2 l dC dI cI x f0 f1 h hp ap pb hs as B f0 a0 v0 q p9 (by first | assumption | omega) (by first | assumption | omega) (by first | assumption | omega) (by first | assumption | omega) (by first | assumption | omega) (by first | assumption | omega) (by first | assumption | omega) (by first | assumption | omega)) _) (gV 3 hts k_499 k_501 k_11 k_24 k_502 (by decide +kernel) ⟨Nat.le_of_ble_eq_true rfl, Nat.le_of_ble_eq_true rfl⟩) (mk_vM hP hD hK hT hS hA [0, 7, 8, 9, 10, 1, 2] rfl rfl (by decide) (q0 := 0) (ci := 0) rfl rfl) rfl rfl hl.1 rfl (lv_room (Nat.le_of_ble_eq_true rfl)) d_LN_read_122 ⟨Nat.zero_le _, Nat.zero_le _⟩) hP hD hS hA [0, 7, 8, 9, 10, 1, 2] [3, 4, 5, 6] rfl rfl (by decide) (by decide) (fun H locs hP hD hS => ?_)
              have hP : va_P (dC, dI) vwCl [(x, .inr (0, [.ref f0, .ref f1, .ref h, .ref hp, .ref hs])), (f0, .inr (1, [.ref a0, .int (nI (coC (unN B q) (13 * p9) 0))])), (a0, .inl (cI, 255, .inl (nf (coV v0 (unN B q) (coC (unN B q) (13 * p9) 0))))), (f1, .inr (1, [.ref a1, .int (nI n1)])), (a1, .inl (cI, 255, .inl (nf v1))), (h, .inr (2, [.ref a])), (a, .inl (cI, 11, .inl (nf (cpN b B (q * 32) 11)))), (hp, .inr (3, [.ref ap])), (ap, .inl (cI, 32, .inl (nf pb))), (hs, .inr (4, [.ref as])), (as, .inl (cI, 1024, .inl (nf B)))] H := hP.sub [4, 9, 10, 0, 1, 2, 3, 5, 6, 7, 8] rfl
              have hD : va_D A [(x, .inr (0, [.ref f0, .ref f1, .ref h, .ref hp, .ref hs])), (f0, .inr (1, [.ref a0, .int (nI (coC (unN B q) (13 * p9) 0))])), (a0, .inl (cI, 255, .inl (nf (coV v0 (unN B q) (coC (unN B q) (13 * p9) 0))))), (f1, .inr (1, [.ref a1, .int (nI n1)])), (a1, .inl (cI, 255, .inl (nf v1))), (h, .inr (2, [.ref a])), (a, .inl (cI, 11, .inl (nf (cpN b B (q * 32) 11)))), (hp, .inr (3, [.ref ap])), (ap, .inl (cI, 32, .inl (nf pb))), (hs, .inr (4, [.ref as])), (as, .inl (cI, 1024, .inl (nf B)))] := hD.sub [4, 9, 10, 0, 1, 2, 3, 5, 6, 7, 8] (by decide) rfl
              refine lv_if_ne (tgt := 143) hx hb d_LN_read_125 (by decide) (fun c_7 => ?_) (fun c_7 => ?_)
              · skip
                rw [mk_ceq (by omega)] at c_7
                first | omega | contradiction
              · skip
                rw [mk_ceq (by omega)] at c_7
                refine lv_aload hx hb d_LN_read_128 (lv_at hl 0 rfl) ?_
                refine mk_w0 (wr := [(x, .inr (0, [.ref f0, .ref f1, .ref h, .ref hp, .ref hs])), (f1, .inr (1, [.ref a1, .int (nI n1)])), (a1, .inl (cI, 255, .inl (nf v1))), (h, .inr (2, [.ref a])), (a, .inl (cI, 11, .inl (nf (cpN b B (q * 32) 11)))), (hp, .inr (3, [.ref ap])), (ap, .inl (cI, 32, .inl (nf pb))), (hs, .inr (4, [.ref as])), (as, .inl (cI, 1024, .inl (nf B)))]) (W.runV (As := []) (rest := []) S ((c_Ro_empty l dC dI cI f0 a0 (coC (unN B q) (13 * p9) 0) (coV v0 (unN B q) (coC (unN B q) (13 * p9) 0))) _) (gV 0 hts k_128 k_129 k_130 k_25 k_131 (by decide +kernel) ⟨Nat.le_of_ble_eq_true rfl, Nat.le_of_ble_eq_true rfl⟩) (mk_vM hP hD hK hT hS hA [1, 2] rfl rfl (by decide) (q0 := 1) (ci := 1) rfl rfl) rfl rfl hl.1 rfl (lv_room (Nat.le_of_ble_eq_true rfl)) d_LN_read_130 ⟨Nat.zero_le _, Nat.zero_le _⟩) hP hD hS hA [1, 2] [0, 3, 4, 5, 6, 7, 8, 9, 10] rfl rfl (by decide) (by decide) (fun H locs hP hD hS => ?_)
                have hP : va_P (dC, dI) vwCl [(x, .inr (0, [.ref f0, .ref f1, .ref h, .ref hp, .ref hs])), (f0, .inr (1, [.ref a0, .int (nI 0)])), (a0, .inl (cI, 255, .inl (nf (coV v0 (unN B q) (coC (unN B q) (13 * p9) 0))))), (f1, .inr (1, [.ref a1, .int (nI n1)])), (a1, .inl (cI, 255, .inl (nf v1))), (h, .inr (2, [.ref a])), (a, .inl (cI, 11, .inl (nf (cpN b B (q * 32) 11)))), (hp, .inr (3, [.ref ap])), (ap, .inl (cI, 32, .inl (nf pb))), (hs, .inr (4, [.ref as])), (as, .inl (cI, 1024, .inl (nf B)))] H := hP.sub [0, 9, 10, 1, 2, 3, 4, 5, 6, 7, 8] rfl
                have hD : va_D A [(x, .inr (0, [.ref f0, .ref f1, .ref h, .ref hp, .ref hs])), (f0, .inr (1, [.ref a0, .int (nI 0)])), (a0, .inl (cI, 255, .inl (nf (coV v0 (unN B q) (coC (unN B q) (13 * p9) 0))))), (f1, .inr (1, [.ref a1, .int (nI n1)])), (a1, .inl (cI, 255, .inl (nf v1))), (h, .inr (2, [.ref a])), (a, .inl (cI, 11, .inl (nf (cpN b B (q * 32) 11)))), (hp, .inr (3, [.ref ap])), (ap, .inl (cI, 32, .inl (nf pb))), (hs, .inr (4, [.ref as])), (as, .inl (cI, 1024, .inl (nf B)))] := hD.sub [0, 9, 10, 1, 2, 3, 4, 5, 6, 7, 8] (by decide) rfl
                obtain ⟨q9, hq9⟩ := hT.str (133, "the parts are not those of the entry") (by decide)
                exact hthr 133 _ _ _ 121 133 125 "the parts are not those of the entry" q9 hl.1 d_LN_read_133 d_LN_read_136 d_LN_read_137 d_LN_read_139 d_LN_read_142 (List.mem_cons_of_mem _ k_474) (List.mem_cons_of_mem _ k_475) (List.mem_cons_of_mem _ k_37) (fun z hz => List.mem_cons_of_mem _ (th_in_IllegalStateException z hz)) th_ok_IllegalStateException hq9 hP hD hS
            · skip
              rw [mk_ceq (by omega)] at c_6
              first | omega | contradiction
          · skip
            have c_5 := bI_0 c_5
            rw [h1] at c_5; exact absurd c_5 (by decide)
        · skip
          rw [nI_leI (by omega) (by omega)] at c_4
          first | omega | contradiction
    · skip
      rw [nI_leI (by omega) (by omega)] at c_2
      first | omega | contradiction

set_option maxHeartbeats 1000000 in
set_option maxRecDepth 100000 in
theorem x_readR30 (l : Launch) (dC : Nat → ClassId) (dI : Nat → Nat → Nat) (cI : ClassId) (x f0 a0 n0 : Nat) (v0 : Nat → Nat) (f1 a1 n1 : Nat) (v1 : Nat → Nat) (h a : Nat) (b : Nat → Nat) (hp ap : Nat) (pb : Nat → Nat) (hs as : Nat) (B : Nat → Nat) (q p9 : Nat) (hn0 : n0 ≤ 255) (hv0 : ∀ j, v0 j < 65536) (hn1 : n1 ≤ 255) (hv1 : ∀ j, v1 j < 65536) (hb9 : ∀ j, b j < 65536) (hpb : ∀ j, pb j < 65536) (hB : ∀ j, B j < 256) (h1 : valN (cpN b B (q * 32) 11) = true) (hq : q < 32) (hp7 : 1 ≤ p9 ∧ p9 ≤ 20 ∧ p9 ≤ q) (h3 : nameN (coV v0 (unN B q) (coC (unN B q) (13 * p9) 0)) (coC (unN B q) (13 * p9) 0) = true) (h4 : pnN (coC (unN B q) (13 * p9) 0) = p9) (h5 : rpR (coV v0 (unN B q) (coC (unN B q) (13 * p9) 0)) (coC (unN B q) (13 * p9) 0) (suN B (q * 32) 11) q pb B p9 0 = false) (htr : l.stackTraces = false) : mT l y_LN_read w_LN_read ({ frames := 6, cells := 1, slots := 6, locals := 137 } : Room) [.ref x, .int (nI 0), .int (nI q), .int (nI p9)] (dC, dI) vwCl [(cI, .int)] [(x, .inr (0, [.ref f0, .ref f1, .ref h, .ref hp, .ref hs])), (f0, .inr (1, [.ref a0, .int (nI n0)])), (a0, .inl (cI, 255, .inl (nf v0))), (f1, .inr (1, [.ref a1, .int (nI n1)])), (a1, .inl (cI, 255, .inl (nf v1))), (h, .inr (2, [.ref a])), (a, .inl (cI, 11, .inl (nf b))), (hp, .inr (3, [.ref ap])), (ap, .inl (cI, 32, .inl (nf pb))), (hs, .inr (4, [.ref as])), (as, .inl (cI, 1024, .inl (nf B)))] "java/lang/IllegalStateException" [(x, .inr (0, [.ref f0, .ref f1, .ref h, .ref hp, .ref hs])), (f0, .inr (1, [.ref a0, .int (nI 0)])), (a0, .inl (cI, 255, .inl (nf (coV v0 (unN B q) (coC (unN B q) (13 * p9) 0))))), (f1, .inr (1, [.ref a1, .int (nI n1)])), (a1, .inl (cI, 255, .inl (nf v1))), (h, .inr (2, [.ref a])), (a, .inl (cI, 11, .inl (nf (cpN b B (q * 32) 11)))), (hp, .inr (3, [.ref ap])), (ap, .inl (cI, 32, .inl (nf (wpB (coV v0 (unN B q) (coC (unN B q) (13 * p9) 0)) (coC (unN B q) (13 * p9) 0) (suN B (q * 32) 11) pb (rpK (coV v0 (unN B q) (coC (unN B q) (13 * p9) 0)) (coC (unN B q) (13 * p9) 0) (suN B (q * 32) 11) q pb B p9 0))))), (hs, .inr (4, [.ref as])), (as, .inl (cI, 1024, .inl (nf B)))] := by
  have htb : ∀ j, (cpN b B (q * 32) 11) j < 65536 := cpN_lt hb9 hB
  refine mk_Th (cc := b_LN_read) (maxL := 5) (by decide) rfl (Nat.le_of_ble_eq_true rfl) (th_good _ rfl) htr (by decide +kernel) (by decide) (by decide) rfl rfl ?_
  intro p e s m below meth c Q A ls S hP hK hT hS hl hD hA hthr
  obtain ⟨hx, hb, hml, hown, hts⟩ := id S
  have hl : lv_has ls 5 [(0, .ref x), (1, .int (nI 0)), (2, .int (nI q)), (3, .int (nI p9))] := hl
  refine lv_aload_n hx hb d_LN_read_0 rfl (lv_at hl 0 rfl) ?_
  refine lv_iload_n hx hb d_LN_read_1 rfl (lv_at hl 1 rfl) ?_
  refine mk_r1 (W.runV (As := [.int (nI 0)]) (rest := []) S (c_LN_row0 l dC dI cI x f0 f1 h hp hs) (gV 1 hts k_111 k_113 k_0 k_24 k_114 (by decide +kernel) ⟨Nat.le_of_ble_eq_true rfl, Nat.le_of_ble_eq_true rfl⟩) (mk_vR hP hK hT hS [0] rfl (q0 := 0) (ci := 0) rfl rfl) rfl rfl hl.1 rfl (lv_room (Nat.le_of_ble_eq_true rfl)) d_LN_read_2 ⟨Nat.zero_le _, Nat.zero_le _⟩) ?_
  refine lv_astore (lv' := [(4, .ref f0), (0, .ref x), (1, .int (nI 0)), (2, .int (nI q)), (3, .int (nI p9))]) hx hb d_LN_read_5 hl (by decide) rfl (fun ls hl => ?_)
  refine lv_aload hx hb d_LN_read_7 (lv_at hl 0 rfl) ?_
  refine lv_ifnonnull (tgt := 22) hx hb d_LN_read_9 (by decide) ?_
  refine lv_aload hx hb d_LN_read_22 (lv_at hl 0 rfl) ?_
  refine mk_w0 (wr := [(x, .inr (0, [.ref f0, .ref f1, .ref h, .ref hp, .ref hs])), (f1, .inr (1, [.ref a1, .int (nI n1)])), (a1, .inl (cI, 255, .inl (nf v1))), (h, .inr (2, [.ref a])), (a, .inl (cI, 11, .inl (nf b))), (hp, .inr (3, [.ref ap])), (ap, .inl (cI, 32, .inl (nf pb))), (hs, .inr (4, [.ref as])), (as, .inl (cI, 1024, .inl (nf B)))]) (W.runV (As := []) (rest := []) S ((c_Ro_empty l dC dI cI f0 a0 n0 v0) _) (gV 0 hts k_128 k_129 k_130 k_25 k_131 (by decide +kernel) ⟨Nat.le_of_ble_eq_true rfl, Nat.le_of_ble_eq_true rfl⟩) (mk_vM hP hD hK hT hS hA [1, 2] rfl rfl (by decide) (q0 := 1) (ci := 1) rfl rfl) rfl rfl hl.1 rfl (lv_room (Nat.le_of_ble_eq_true rfl)) d_LN_read_24 ⟨Nat.zero_le _, Nat.zero_le _⟩) hP hD hS hA [1, 2] [0, 3, 4, 5, 6, 7, 8, 9, 10] rfl rfl (by decide) (by decide) (fun H locs hP hD hS => ?_)
  have hP : va_P (dC, dI) vwCl [(x, .inr (0, [.ref f0, .ref f1, .ref h, .ref hp, .ref hs])), (f0, .inr (1, [.ref a0, .int (nI 0)])), (a0, .inl (cI, 255, .inl (nf v0))), (f1, .inr (1, [.ref a1, .int (nI n1)])), (a1, .inl (cI, 255, .inl (nf v1))), (h, .inr (2, [.ref a])), (a, .inl (cI, 11, .inl (nf b))), (hp, .inr (3, [.ref ap])), (ap, .inl (cI, 32, .inl (nf pb))), (hs, .inr (4, [.ref as])), (as, .inl (cI, 1024, .inl (nf B)))] H := hP.sub [0, 9, 10, 1, 2, 3, 4, 5, 6, 7, 8] rfl
  have hD : va_D A [(x, .inr (0, [.ref f0, .ref f1, .ref h, .ref hp, .ref hs])), (f0, .inr (1, [.ref a0, .int (nI 0)])), (a0, .inl (cI, 255, .inl (nf v0))), (f1, .inr (1, [.ref a1, .int (nI n1)])), (a1, .inl (cI, 255, .inl (nf v1))), (h, .inr (2, [.ref a])), (a, .inl (cI, 11, .inl (nf b))), (hp, .inr (3, [.ref ap])), (ap, .inl (cI, 32, .inl (nf pb))), (hs, .inr (4, [.ref as])), (as, .inl (cI, 1024, .inl (nf B)))] := hD.sub [0, 9, 10, 1, 2, 3, 4, 5, 6, 7, 8] (by decide) rfl
  refine lv_iload_n hx hb d_LN_read_27 rfl (lv_at hl 4 rfl) ?_
  refine lv_if_lt (tgt := 37) hx hb d_LN_read_28 (by decide) (fun c_1 => ?_) (fun c_1 => ?_)
  · skip
    rw [mk_clt (by omega)] at c_1
    first | omega | contradiction
  · skip
    rw [mk_clt (by omega)] at c_1
    refine lv_iload_n hx hb d_LN_read_31 rfl (lv_at hl 4 rfl) ?_
    refine lv_bipush (v := nI 20) hx hb d_LN_read_32 (by decide) ?_
    refine lv_icmp_le (tgt := 47) hx hb d_LN_read_34 (by decide) (fun c_2 => ?_) (fun c_2 => ?_)
    · skip
      rw [nI_leI (by omega) (by omega)] at c_2
      refine lv_iload_n hx hb d_LN_read_47 rfl (lv_at hl 3 rfl) ?_
      refine mk_r1 (W.runS (As := [.int (nI q)]) (rest := []) S (c_Sl_isN l dC dI cI q (by first | assumption | omega)) (gS 1 hts k_221 k_207 k_28 k_208 (by decide +kernel) ⟨Nat.le_of_ble_eq_true rfl, Nat.le_of_ble_eq_true rfl⟩) (mk_sR hP hK hT hS [] rfl) rfl rfl hl.1 rfl (lv_room (Nat.le_of_ble_eq_true rfl)) d_LN_read_48 ⟨Nat.zero_le _, Nat.zero_le _⟩) ?_
      refine lv_if_eq (tgt := 59) hx hb d_LN_read_51 (by decide) (fun c_3 => ?_) (fun c_3 => ?_)
      · skip
        rw [mk_ceq (by omega)] at c_3
        first | omega | contradiction
      · skip
        rw [mk_ceq (by omega)] at c_3
        refine lv_iload_n hx hb d_LN_read_54 rfl (lv_at hl 4 rfl) ?_
        refine lv_iload_n hx hb d_LN_read_55 rfl (lv_at hl 3 rfl) ?_
        refine lv_icmp_le (tgt := 69) hx hb d_LN_read_56 (by decide) (fun c_4 => ?_) (fun c_4 => ?_)
        · skip
          rw [nI_leI (by omega) (by omega)] at c_4
          refine lv_aload_n hx hb d_LN_read_69 rfl (lv_at hl 1 rfl) ?_
          refine va_get (D := (dC, dI)) (ci := 0) (v := .ref h) (C := "LongNames") (T := F_LN) (N := 5) hx hb hts (iw_LN _) hown hK hP 0 rfl rfl 2 (by decide) (hts _ (List.mem_cons_of_mem _ k_93)) (fun _ h9 => h9) rfl d_LN_read_70 ?_
          refine lv_aload_n hx hb d_LN_read_73 rfl (lv_at hl 1 rfl) ?_
          refine va_get (D := (dC, dI)) (ci := 0) (v := .ref hs) (C := "LongNames") (T := F_LN) (N := 5) hx hb hts (iw_LN _) hown hK hP 0 rfl rfl 4 (by decide) (hts _ (List.mem_cons_of_mem _ k_95)) (fun _ h9 => h9) rfl d_LN_read_74 ?_
          refine lv_iload_n hx hb d_LN_read_77 rfl (lv_at hl 3 rfl) ?_
          refine mk_w0 (wr := [(x, .inr (0, [.ref f0, .ref f1, .ref h, .ref hp, .ref hs])), (f0, .inr (1, [.ref a0, .int (nI 0)])), (a0, .inl (cI, 255, .inl (nf v0))), (f1, .inr (1, [.ref a1, .int (nI n1)])), (a1, .inl (cI, 255, .inl (nf v1))), (hp, .inr (3, [.ref ap])), (ap, .inl (cI, 32, .inl (nf pb)))]) (W.runV (As := [.ref hs, .int (nI q)]) (rest := []) S ((c_Sn_take l dC dI cI h a b hs as B q (by first | assumption | omega) (by first | assumption | omega)) _) (gV 2 hts k_460 k_461 k_462 k_26 k_463 (by decide +kernel) ⟨Nat.le_of_ble_eq_true rfl, Nat.le_of_ble_eq_true rfl⟩) (mk_vM hP hD hK hT hS hA [5, 6, 9, 10] rfl rfl (by decide) (q0 := 5) (ci := 2) rfl rfl) rfl rfl hl.1 rfl (lv_room (Nat.le_of_ble_eq_true rfl)) d_LN_read_78 ⟨Nat.zero_le _, Nat.zero_le _⟩) hP hD hS hA [5, 6, 9, 10] [0, 1, 2, 3, 4, 7, 8] rfl rfl (by decide) (by decide) (fun H locs hP hD hS => ?_)
          have hP : va_P (dC, dI) vwCl [(x, .inr (0, [.ref f0, .ref f1, .ref h, .ref hp, .ref hs])), (f0, .inr (1, [.ref a0, .int (nI 0)])), (a0, .inl (cI, 255, .inl (nf v0))), (f1, .inr (1, [.ref a1, .int (nI n1)])), (a1, .inl (cI, 255, .inl (nf v1))), (h, .inr (2, [.ref a])), (a, .inl (cI, 11, .inl (nf (cpN b B (q * 32) 11)))), (hp, .inr (3, [.ref ap])), (ap, .inl (cI, 32, .inl (nf pb))), (hs, .inr (4, [.ref as])), (as, .inl (cI, 1024, .inl (nf B)))] H := hP.sub [0, 1, 2, 3, 4, 7, 8, 5, 6, 9, 10] rfl
          have hD : va_D A [(x, .inr (0, [.ref f0, .ref f1, .ref h, .ref hp, .ref hs])), (f0, .inr (1, [.ref a0, .int (nI 0)])), (a0, .inl (cI, 255, .inl (nf v0))), (f1, .inr (1, [.ref a1, .int (nI n1)])), (a1, .inl (cI, 255, .inl (nf v1))), (h, .inr (2, [.ref a])), (a, .inl (cI, 11, .inl (nf (cpN b B (q * 32) 11)))), (hp, .inr (3, [.ref ap])), (ap, .inl (cI, 32, .inl (nf pb))), (hs, .inr (4, [.ref as])), (as, .inl (cI, 1024, .inl (nf B)))] := hD.sub [0, 1, 2, 3, 4, 7, 8, 5, 6, 9, 10] (by decide) rfl
          refine lv_aload_n hx hb d_LN_read_81 rfl (lv_at hl 1 rfl) ?_
          refine va_get (D := (dC, dI)) (ci := 0) (v := .ref h) (C := "LongNames") (T := F_LN) (N := 5) hx hb hts (iw_LN _) hown hK hP 0 rfl rfl 2 (by decide) (hts _ (List.mem_cons_of_mem _ k_93)) (fun _ h9 => h9) rfl d_LN_read_82 ?_
          refine mk_r1 (W.runV (As := []) (rest := []) S (c_Sn_valid l dC dI cI h a (cpN b B (q * 32) 11) (by first | assumption | omega)) (gV 0 hts k_465 k_466 k_467 k_26 k_468 (by decide +kernel) ⟨Nat.le_of_ble_eq_true rfl, Nat.le_of_ble_eq_true rfl⟩) (mk_vR hP hK hT hS [5, 6] rfl (q0 := 5) (ci := 2) rfl rfl) rfl rfl hl.1 rfl (lv_room (Nat.le_of_ble_eq_true rfl)) d_LN_read_85 ⟨Nat.zero_le _, Nat.zero_le _⟩) ?_
          refine lv_if_ne (tgt := 101) hx hb d_LN_read_88 (by decide) (fun c_5 => ?_) (fun c_5 => ?_)
          · skip
            have c_5 := bI_1 c_5
            refine lv_iload_n hx hb d_LN_read_101 rfl (lv_at hl 4 rfl) ?_
            refine lv_if_ne (tgt := 117) hx hb d_LN_read_102 (by decide) (fun c_6 => ?_) (fun c_6 => ?_)
            · skip
              rw [mk_ceq (by omega)] at c_6
              refine lv_aload_n hx hb d_LN_read_117 rfl (lv_at hl 1 rfl) ?_
              refine lv_aload hx hb d_LN_read_118 (lv_at hl 0 rfl) ?_
              refine lv_iload_n hx hb d_LN_read_120 rfl (lv_at hl 3 rfl) ?_
              refine lv_iload_n hx hb d_LN_read_121 rfl (lv_at hl 4 rfl) ?_
              refine mk_w1 (wr := [(f1, .inr (1, [.ref a1, .int (nI n1)])), (a1, .inl (cI, 255, .inl (nf v1))), (h, .inr (2, [.ref a])), (a, .inl (cI, 11, .inl (nf (cpN b B (q * 32) 11))))]) (W.runV (As := [.ref f0, .int (nI q), .int (nI p9)]) (rest := []) S ((c_LN_rp3 l dC dI cI x f0 f1 h hp ap pb hs as B f0 a0 v0 q p9 (by first | assumption | omega) (by first | assumption | omega) (by first | assumption | omega) (by first | assumption | omega) (by first | assumption | omega) (by first | assumption | omega) (by first | assumption | omega) (by first | assumption | omega)) _) (gV 3 hts k_499 k_501 k_11 k_24 k_502 (by decide +kernel) ⟨Nat.le_of_ble_eq_true rfl, Nat.le_of_ble_eq_true rfl⟩) (mk_vM hP hD hK hT hS hA [0, 7, 8, 9, 10, 1, 2] rfl rfl (by decide) (q0 := 0) (ci := 0) rfl rfl) rfl rfl hl.1 rfl (lv_room (Nat.le_of_ble_eq_true rfl)) d_LN_read_122 ⟨Nat.zero_le _, Nat.zero_le _⟩) hP hD hS hA [0, 7, 8, 9, 10, 1, 2] [3, 4, 5, 6] rfl rfl (by decide) (by decide) (fun H locs hP hD hS => ?_)
              have hP : va_P (dC, dI) vwCl [(x, .inr (0, [.ref f0, .ref f1, .ref h, .ref hp, .ref hs])), (f0, .inr (1, [.ref a0, .int (nI (coC (unN B q) (13 * p9) 0))])), (a0, .inl (cI, 255, .inl (nf (coV v0 (unN B q) (coC (unN B q) (13 * p9) 0))))), (f1, .inr (1, [.ref a1, .int (nI n1)])), (a1, .inl (cI, 255, .inl (nf v1))), (h, .inr (2, [.ref a])), (a, .inl (cI, 11, .inl (nf (cpN b B (q * 32) 11)))), (hp, .inr (3, [.ref ap])), (ap, .inl (cI, 32, .inl (nf (wpB (coV v0 (unN B q) (coC (unN B q) (13 * p9) 0)) (coC (unN B q) (13 * p9) 0) (suN B (q * 32) 11) pb (rpK (coV v0 (unN B q) (coC (unN B q) (13 * p9) 0)) (coC (unN B q) (13 * p9) 0) (suN B (q * 32) 11) q pb B p9 0))))), (hs, .inr (4, [.ref as])), (as, .inl (cI, 1024, .inl (nf B)))] H := hP.sub [4, 9, 10, 0, 1, 2, 3, 5, 6, 7, 8] rfl
              have hD : va_D A [(x, .inr (0, [.ref f0, .ref f1, .ref h, .ref hp, .ref hs])), (f0, .inr (1, [.ref a0, .int (nI (coC (unN B q) (13 * p9) 0))])), (a0, .inl (cI, 255, .inl (nf (coV v0 (unN B q) (coC (unN B q) (13 * p9) 0))))), (f1, .inr (1, [.ref a1, .int (nI n1)])), (a1, .inl (cI, 255, .inl (nf v1))), (h, .inr (2, [.ref a])), (a, .inl (cI, 11, .inl (nf (cpN b B (q * 32) 11)))), (hp, .inr (3, [.ref ap])), (ap, .inl (cI, 32, .inl (nf (wpB (coV v0 (unN B q) (coC (unN B q) (13 * p9) 0)) (coC (unN B q) (13 * p9) 0) (suN B (q * 32) 11) pb (rpK (coV v0 (unN B q) (coC (unN B q) (13 * p9) 0)) (coC (unN B q) (13 * p9) 0) (suN B (q * 32) 11) q pb B p9 0))))), (hs, .inr (4, [.ref as])), (as, .inl (cI, 1024, .inl (nf B)))] := hD.sub [4, 9, 10, 0, 1, 2, 3, 5, 6, 7, 8] (by decide) rfl
              refine lv_if_ne (tgt := 143) hx hb d_LN_read_125 (by decide) (fun c_7 => ?_) (fun c_7 => ?_)
              · skip
                have c_7 := bI_1 c_7
                rw [h5] at c_7; exact absurd c_7 (by decide)
              · skip
                have c_7 := bI_0 c_7
                refine lv_aload hx hb d_LN_read_128 (lv_at hl 0 rfl) ?_
                refine mk_w0 (wr := [(x, .inr (0, [.ref f0, .ref f1, .ref h, .ref hp, .ref hs])), (f1, .inr (1, [.ref a1, .int (nI n1)])), (a1, .inl (cI, 255, .inl (nf v1))), (h, .inr (2, [.ref a])), (a, .inl (cI, 11, .inl (nf (cpN b B (q * 32) 11)))), (hp, .inr (3, [.ref ap])), (ap, .inl (cI, 32, .inl (nf (wpB (coV v0 (unN B q) (coC (unN B q) (13 * p9) 0)) (coC (unN B q) (13 * p9) 0) (suN B (q * 32) 11) pb (rpK (coV v0 (unN B q) (coC (unN B q) (13 * p9) 0)) (coC (unN B q) (13 * p9) 0) (suN B (q * 32) 11) q pb B p9 0))))), (hs, .inr (4, [.ref as])), (as, .inl (cI, 1024, .inl (nf B)))]) (W.runV (As := []) (rest := []) S ((c_Ro_empty l dC dI cI f0 a0 (coC (unN B q) (13 * p9) 0) (coV v0 (unN B q) (coC (unN B q) (13 * p9) 0))) _) (gV 0 hts k_128 k_129 k_130 k_25 k_131 (by decide +kernel) ⟨Nat.le_of_ble_eq_true rfl, Nat.le_of_ble_eq_true rfl⟩) (mk_vM hP hD hK hT hS hA [1, 2] rfl rfl (by decide) (q0 := 1) (ci := 1) rfl rfl) rfl rfl hl.1 rfl (lv_room (Nat.le_of_ble_eq_true rfl)) d_LN_read_130 ⟨Nat.zero_le _, Nat.zero_le _⟩) hP hD hS hA [1, 2] [0, 3, 4, 5, 6, 7, 8, 9, 10] rfl rfl (by decide) (by decide) (fun H locs hP hD hS => ?_)
                have hP : va_P (dC, dI) vwCl [(x, .inr (0, [.ref f0, .ref f1, .ref h, .ref hp, .ref hs])), (f0, .inr (1, [.ref a0, .int (nI 0)])), (a0, .inl (cI, 255, .inl (nf (coV v0 (unN B q) (coC (unN B q) (13 * p9) 0))))), (f1, .inr (1, [.ref a1, .int (nI n1)])), (a1, .inl (cI, 255, .inl (nf v1))), (h, .inr (2, [.ref a])), (a, .inl (cI, 11, .inl (nf (cpN b B (q * 32) 11)))), (hp, .inr (3, [.ref ap])), (ap, .inl (cI, 32, .inl (nf (wpB (coV v0 (unN B q) (coC (unN B q) (13 * p9) 0)) (coC (unN B q) (13 * p9) 0) (suN B (q * 32) 11) pb (rpK (coV v0 (unN B q) (coC (unN B q) (13 * p9) 0)) (coC (unN B q) (13 * p9) 0) (suN B (q * 32) 11) q pb B p9 0))))), (hs, .inr (4, [.ref as])), (as, .inl (cI, 1024, .inl (nf B)))] H := hP.sub [0, 9, 10, 1, 2, 3, 4, 5, 6, 7, 8] rfl
                have hD : va_D A [(x, .inr (0, [.ref f0, .ref f1, .ref h, .ref hp, .ref hs])), (f0, .inr (1, [.ref a0, .int (nI 0)])), (a0, .inl (cI, 255, .inl (nf (coV v0 (unN B q) (coC (unN B q) (13 * p9) 0))))), (f1, .inr (1, [.ref a1, .int (nI n1)])), (a1, .inl (cI, 255, .inl (nf v1))), (h, .inr (2, [.ref a])), (a, .inl (cI, 11, .inl (nf (cpN b B (q * 32) 11)))), (hp, .inr (3, [.ref ap])), (ap, .inl (cI, 32, .inl (nf (wpB (coV v0 (unN B q) (coC (unN B q) (13 * p9) 0)) (coC (unN B q) (13 * p9) 0) (suN B (q * 32) 11) pb (rpK (coV v0 (unN B q) (coC (unN B q) (13 * p9) 0)) (coC (unN B q) (13 * p9) 0) (suN B (q * 32) 11) q pb B p9 0))))), (hs, .inr (4, [.ref as])), (as, .inl (cI, 1024, .inl (nf B)))] := hD.sub [0, 9, 10, 1, 2, 3, 4, 5, 6, 7, 8] (by decide) rfl
                obtain ⟨q9, hq9⟩ := hT.str (133, "the parts are not those of the entry") (by decide)
                exact hthr 133 _ _ _ 121 133 125 "the parts are not those of the entry" q9 hl.1 d_LN_read_133 d_LN_read_136 d_LN_read_137 d_LN_read_139 d_LN_read_142 (List.mem_cons_of_mem _ k_474) (List.mem_cons_of_mem _ k_475) (List.mem_cons_of_mem _ k_37) (fun z hz => List.mem_cons_of_mem _ (th_in_IllegalStateException z hz)) th_ok_IllegalStateException hq9 hP hD hS
            · skip
              rw [mk_ceq (by omega)] at c_6
              first | omega | contradiction
          · skip
            have c_5 := bI_0 c_5
            rw [h1] at c_5; exact absurd c_5 (by decide)
        · skip
          rw [nI_leI (by omega) (by omega)] at c_4
          first | omega | contradiction
    · skip
      rw [nI_leI (by omega) (by omega)] at c_2
      first | omega | contradiction

set_option maxHeartbeats 1000000 in
set_option maxRecDepth 100000 in
theorem x_writeN1 (l : Launch) (dC : Nat → ClassId) (dI : Nat → Nat → Nat) (cI : ClassId) (x f0 a0 n0 : Nat) (v0 : Nat → Nat) (f1 a1 n1 : Nat) (v1 : Nat → Nat) (h a : Nat) (b : Nat → Nat) (hp ap : Nat) (pb : Nat → Nat) (hs as : Nat) (B : Nat → Nat) (y9 z9 : Int32) (hn0 : n0 ≤ 255) (hv0 : ∀ j, v0 j < 65536) (hn1 : n1 ≤ 255) (hv1 : ∀ j, v1 j < 65536) (hb9 : ∀ j, b j < 65536) (hpb : ∀ j, pb j < 65536) (hB : ∀ j, B j < 256) (h1 : nameN v1 n1 = false) (htr : l.stackTraces = false) : mT l y_LN_write w_LN_write ({ frames := 6, cells := 1, slots := 6, locals := 82 } : Room) [.ref x, .int (nI 1), .int y9, .int z9] (dC, dI) vwCl [(cI, .int)] [(x, .inr (0, [.ref f0, .ref f1, .ref h, .ref hp, .ref hs])), (f0, .inr (1, [.ref a0, .int (nI n0)])), (a0, .inl (cI, 255, .inl (nf v0))), (f1, .inr (1, [.ref a1, .int (nI n1)])), (a1, .inl (cI, 255, .inl (nf v1))), (h, .inr (2, [.ref a])), (a, .inl (cI, 11, .inl (nf b))), (hp, .inr (3, [.ref ap])), (ap, .inl (cI, 32, .inl (nf pb))), (hs, .inr (4, [.ref as])), (as, .inl (cI, 1024, .inl (nf B)))] "java/lang/IllegalArgumentException" [(x, .inr (0, [.ref f0, .ref f1, .ref h, .ref hp, .ref hs])), (f0, .inr (1, [.ref a0, .int (nI n0)])), (a0, .inl (cI, 255, .inl (nf v0))), (f1, .inr (1, [.ref a1, .int (nI n1)])), (a1, .inl (cI, 255, .inl (nf v1))), (h, .inr (2, [.ref a])), (a, .inl (cI, 11, .inl (nf b))), (hp, .inr (3, [.ref ap])), (ap, .inl (cI, 32, .inl (nf pb))), (hs, .inr (4, [.ref as])), (as, .inl (cI, 1024, .inl (nf B)))] := by
  refine mk_Th (cc := b_LN_write) (maxL := 6) (by decide) rfl (Nat.le_of_ble_eq_true rfl) (th_good _ rfl) htr (by decide +kernel) (by decide) (by decide) rfl rfl ?_
  intro p e s m below meth c Q A ls S hP hK hT hS hl hD hA hthr
  obtain ⟨hx, hb, hml, hown, hts⟩ := id S
  have hl : lv_has ls 6 [(0, .ref x), (1, .int (nI 1)), (2, .int y9), (3, .int z9)] := hl
  refine lv_aload_n hx hb d_LN_write_0 rfl (lv_at hl 0 rfl) ?_
  refine lv_iload_n hx hb d_LN_write_1 rfl (lv_at hl 1 rfl) ?_
  refine mk_r1 (W.runV (As := [.int (nI 1)]) (rest := []) S (c_LN_row1 l dC dI cI x f0 f1 h hp hs) (gV 1 hts k_111 k_113 k_0 k_24 k_114 (by decide +kernel) ⟨Nat.le_of_ble_eq_true rfl, Nat.le_of_ble_eq_true rfl⟩) (mk_vR hP hK hT hS [0] rfl (q0 := 0) (ci := 0) rfl rfl) rfl rfl hl.1 rfl (lv_room (Nat.le_of_ble_eq_true rfl)) d_LN_write_2 ⟨Nat.zero_le _, Nat.zero_le _⟩) ?_
  refine lv_astore (lv' := [(4, .ref f1), (0, .ref x), (1, .int (nI 1)), (2, .int y9), (3, .int z9)]) hx hb d_LN_write_5 hl (by decide) rfl (fun ls hl => ?_)
  refine lv_aload hx hb d_LN_write_7 (lv_at hl 0 rfl) ?_
  refine lv_ifnull hx hb d_LN_write_9 ?_
  refine lv_aload hx hb d_LN_write_12 (lv_at hl 0 rfl) ?_
  refine mk_r1 (W.runV (As := []) (rest := []) S (c_Ro_name l dC dI cI f1 a1 n1 v1 (by first | assumption | omega) (by first | assumption | omega)) (gV 0 hts k_136 k_137 k_138 k_25 k_139 (by decide +kernel) ⟨Nat.le_of_ble_eq_true rfl, Nat.le_of_ble_eq_true rfl⟩) (mk_vR hP hK hT hS [3, 4] rfl (q0 := 3) (ci := 1) rfl rfl) rfl rfl hl.1 rfl (lv_room (Nat.le_of_ble_eq_true rfl)) d_LN_write_14 ⟨Nat.zero_le _, Nat.zero_le _⟩) ?_
  refine lv_if_ne (tgt := 30) hx hb d_LN_write_17 (by decide) (fun c_1 => ?_) (fun c_1 => ?_)
  · skip
    have c_1 := bI_1 c_1
    rw [h1] at c_1; exact absurd c_1 (by decide)
  · skip
    have c_1 := bI_0 c_1
    obtain ⟨q9, hq9⟩ := hT.str (79, "the row is no name") (by decide)
    exact hthr 20 _ _ _ 77 79 81 "the row is no name" q9 hl.1 d_LN_write_20 d_LN_write_23 d_LN_write_24 d_LN_write_26 d_LN_write_29 (List.mem_cons_of_mem _ k_286) (List.mem_cons_of_mem _ k_287) (List.mem_cons_of_mem _ k_34) (fun z hz => List.mem_cons_of_mem _ (th_in_IllegalArgumentException z hz)) th_ok_IllegalArgumentException hq9 hP hD hS

set_option maxHeartbeats 1000000 in
set_option maxRecDepth 100000 in
theorem x_writeT1 (l : Launch) (dC : Nat → ClassId) (dI : Nat → Nat → Nat) (cI : ClassId) (x f0 a0 n0 : Nat) (v0 : Nat → Nat) (f1 a1 n1 : Nat) (v1 : Nat → Nat) (h a : Nat) (b : Nat → Nat) (hp ap : Nat) (pb : Nat → Nat) (hs as : Nat) (B : Nat → Nat) (y9 z9 : Int32) (hn0 : n0 ≤ 255) (hv0 : ∀ j, v0 j < 65536) (hn1 : n1 ≤ 255) (hv1 : ∀ j, v1 j < 65536) (hb9 : ∀ j, b j < 65536) (hpb : ∀ j, pb j < 65536) (hB : ∀ j, B j < 256) (h1 : nameN v1 n1 = true) (ht : z9 < 0 ∨ ¬ z9 ≤ nI 9999) (htr : l.stackTraces = false) : mT l y_LN_write w_LN_write ({ frames := 6, cells := 1, slots := 6, locals := 82 } : Room) [.ref x, .int (nI 1), .int y9, .int z9] (dC, dI) vwCl [(cI, .int)] [(x, .inr (0, [.ref f0, .ref f1, .ref h, .ref hp, .ref hs])), (f0, .inr (1, [.ref a0, .int (nI n0)])), (a0, .inl (cI, 255, .inl (nf v0))), (f1, .inr (1, [.ref a1, .int (nI n1)])), (a1, .inl (cI, 255, .inl (nf v1))), (h, .inr (2, [.ref a])), (a, .inl (cI, 11, .inl (nf b))), (hp, .inr (3, [.ref ap])), (ap, .inl (cI, 32, .inl (nf pb))), (hs, .inr (4, [.ref as])), (as, .inl (cI, 1024, .inl (nf B)))] "java/lang/IllegalArgumentException" [(x, .inr (0, [.ref f0, .ref f1, .ref h, .ref hp, .ref hs])), (f0, .inr (1, [.ref a0, .int (nI n0)])), (a0, .inl (cI, 255, .inl (nf v0))), (f1, .inr (1, [.ref a1, .int (nI n1)])), (a1, .inl (cI, 255, .inl (nf v1))), (h, .inr (2, [.ref a])), (a, .inl (cI, 11, .inl (nf b))), (hp, .inr (3, [.ref ap])), (ap, .inl (cI, 32, .inl (nf pb))), (hs, .inr (4, [.ref as])), (as, .inl (cI, 1024, .inl (nf B)))] := by
  refine mk_Th (cc := b_LN_write) (maxL := 6) (by decide) rfl (Nat.le_of_ble_eq_true rfl) (th_good _ rfl) htr (by decide +kernel) (by decide) (by decide) rfl rfl ?_
  intro p e s m below meth c Q A ls S hP hK hT hS hl hD hA hthr
  obtain ⟨hx, hb, hml, hown, hts⟩ := id S
  have hl : lv_has ls 6 [(0, .ref x), (1, .int (nI 1)), (2, .int y9), (3, .int z9)] := hl
  refine lv_aload_n hx hb d_LN_write_0 rfl (lv_at hl 0 rfl) ?_
  refine lv_iload_n hx hb d_LN_write_1 rfl (lv_at hl 1 rfl) ?_
  refine mk_r1 (W.runV (As := [.int (nI 1)]) (rest := []) S (c_LN_row1 l dC dI cI x f0 f1 h hp hs) (gV 1 hts k_111 k_113 k_0 k_24 k_114 (by decide +kernel) ⟨Nat.le_of_ble_eq_true rfl, Nat.le_of_ble_eq_true rfl⟩) (mk_vR hP hK hT hS [0] rfl (q0 := 0) (ci := 0) rfl rfl) rfl rfl hl.1 rfl (lv_room (Nat.le_of_ble_eq_true rfl)) d_LN_write_2 ⟨Nat.zero_le _, Nat.zero_le _⟩) ?_
  refine lv_astore (lv' := [(4, .ref f1), (0, .ref x), (1, .int (nI 1)), (2, .int y9), (3, .int z9)]) hx hb d_LN_write_5 hl (by decide) rfl (fun ls hl => ?_)
  refine lv_aload hx hb d_LN_write_7 (lv_at hl 0 rfl) ?_
  refine lv_ifnull hx hb d_LN_write_9 ?_
  refine lv_aload hx hb d_LN_write_12 (lv_at hl 0 rfl) ?_
  refine mk_r1 (W.runV (As := []) (rest := []) S (c_Ro_name l dC dI cI f1 a1 n1 v1 (by first | assumption | omega) (by first | assumption | omega)) (gV 0 hts k_136 k_137 k_138 k_25 k_139 (by decide +kernel) ⟨Nat.le_of_ble_eq_true rfl, Nat.le_of_ble_eq_true rfl⟩) (mk_vR hP hK hT hS [3, 4] rfl (q0 := 3) (ci := 1) rfl rfl) rfl rfl hl.1 rfl (lv_room (Nat.le_of_ble_eq_true rfl)) d_LN_write_14 ⟨Nat.zero_le _, Nat.zero_le _⟩) ?_
  refine lv_if_ne (tgt := 30) hx hb d_LN_write_17 (by decide) (fun c_1 => ?_) (fun c_1 => ?_)
  · skip
    have c_1 := bI_1 c_1
    refine lv_iload_n hx hb d_LN_write_30 rfl (lv_at hl 4 rfl) ?_
    refine lv_if_lt (tgt := 41) hx hb d_LN_write_31 (by decide) (fun c_2 => ?_) (fun c_2 => ?_)
    · skip
      obtain ⟨q9, hq9⟩ := hT.str (84, "the tail is not 0 to 9999") (by decide)
      exact hthr 41 _ _ _ 77 84 81 "the tail is not 0 to 9999" q9 hl.1 d_LN_write_41 d_LN_write_44 d_LN_write_45 d_LN_write_47 d_LN_write_50 (List.mem_cons_of_mem _ k_286) (List.mem_cons_of_mem _ k_287) (List.mem_cons_of_mem _ k_34) (fun z hz => List.mem_cons_of_mem _ (th_in_IllegalArgumentException z hz)) th_ok_IllegalArgumentException hq9 hP hD hS
    · skip
      refine lv_iload_n hx hb d_LN_write_34 rfl (lv_at hl 4 rfl) ?_
      refine lv_sipush (v := nI 9999) hx hb d_LN_write_35 (by decide) ?_
      refine lv_icmp_le (tgt := 51) hx hb d_LN_write_38 (by decide) (fun c_3 => ?_) (fun c_3 => ?_)
      · skip
        rcases ht with h9 | h9 <;> contradiction
      · skip
        obtain ⟨q9, hq9⟩ := hT.str (84, "the tail is not 0 to 9999") (by decide)
        exact hthr 41 _ _ _ 77 84 81 "the tail is not 0 to 9999" q9 hl.1 d_LN_write_41 d_LN_write_44 d_LN_write_45 d_LN_write_47 d_LN_write_50 (List.mem_cons_of_mem _ k_286) (List.mem_cons_of_mem _ k_287) (List.mem_cons_of_mem _ k_34) (fun z hz => List.mem_cons_of_mem _ (th_in_IllegalArgumentException z hz)) th_ok_IllegalArgumentException hq9 hP hD hS
  · skip
    have c_1 := bI_0 c_1
    rw [h1] at c_1; exact absurd c_1 (by decide)

set_option maxHeartbeats 1000000 in
set_option maxRecDepth 100000 in
theorem x_writeS1 (l : Launch) (dC : Nat → ClassId) (dI : Nat → Nat → Nat) (cI : ClassId) (x f0 a0 n0 : Nat) (v0 : Nat → Nat) (f1 a1 n1 : Nat) (v1 : Nat → Nat) (h a : Nat) (b : Nat → Nat) (hp ap : Nat) (pb : Nat → Nat) (hs as : Nat) (B : Nat → Nat) (y9 : Int32) (hn0 : n0 ≤ 255) (hv0 : ∀ j, v0 j < 65536) (hn1 : n1 ≤ 255) (hv1 : ∀ j, v1 j < 65536) (hb9 : ∀ j, b j < 65536) (hpb : ∀ j, pb j < 65536) (hB : ∀ j, B j < 256) (h1 : nameN v1 n1 = true) (h2 : shortN v1 n1 = false) (htr : l.stackTraces = false) : mT l y_LN_write w_LN_write ({ frames := 6, cells := 1, slots := 6, locals := 82 } : Room) [.ref x, .int (nI 1), .int y9, .int (nI 0)] (dC, dI) vwCl [(cI, .int)] [(x, .inr (0, [.ref f0, .ref f1, .ref h, .ref hp, .ref hs])), (f0, .inr (1, [.ref a0, .int (nI n0)])), (a0, .inl (cI, 255, .inl (nf v0))), (f1, .inr (1, [.ref a1, .int (nI n1)])), (a1, .inl (cI, 255, .inl (nf v1))), (h, .inr (2, [.ref a])), (a, .inl (cI, 11, .inl (nf b))), (hp, .inr (3, [.ref ap])), (ap, .inl (cI, 32, .inl (nf pb))), (hs, .inr (4, [.ref as])), (as, .inl (cI, 1024, .inl (nf B)))] "java/lang/IllegalArgumentException" [(x, .inr (0, [.ref f0, .ref f1, .ref h, .ref hp, .ref hs])), (f0, .inr (1, [.ref a0, .int (nI n0)])), (a0, .inl (cI, 255, .inl (nf v0))), (f1, .inr (1, [.ref a1, .int (nI n1)])), (a1, .inl (cI, 255, .inl (nf v1))), (h, .inr (2, [.ref a])), (a, .inl (cI, 11, .inl (nf b))), (hp, .inr (3, [.ref ap])), (ap, .inl (cI, 32, .inl (nf pb))), (hs, .inr (4, [.ref as])), (as, .inl (cI, 1024, .inl (nf B)))] := by
  refine mk_Th (cc := b_LN_write) (maxL := 6) (by decide) rfl (Nat.le_of_ble_eq_true rfl) (th_good _ rfl) htr (by decide +kernel) (by decide) (by decide) rfl rfl ?_
  intro p e s m below meth c Q A ls S hP hK hT hS hl hD hA hthr
  obtain ⟨hx, hb, hml, hown, hts⟩ := id S
  have hl : lv_has ls 6 [(0, .ref x), (1, .int (nI 1)), (2, .int y9), (3, .int (nI 0))] := hl
  refine lv_aload_n hx hb d_LN_write_0 rfl (lv_at hl 0 rfl) ?_
  refine lv_iload_n hx hb d_LN_write_1 rfl (lv_at hl 1 rfl) ?_
  refine mk_r1 (W.runV (As := [.int (nI 1)]) (rest := []) S (c_LN_row1 l dC dI cI x f0 f1 h hp hs) (gV 1 hts k_111 k_113 k_0 k_24 k_114 (by decide +kernel) ⟨Nat.le_of_ble_eq_true rfl, Nat.le_of_ble_eq_true rfl⟩) (mk_vR hP hK hT hS [0] rfl (q0 := 0) (ci := 0) rfl rfl) rfl rfl hl.1 rfl (lv_room (Nat.le_of_ble_eq_true rfl)) d_LN_write_2 ⟨Nat.zero_le _, Nat.zero_le _⟩) ?_
  refine lv_astore (lv' := [(4, .ref f1), (0, .ref x), (1, .int (nI 1)), (2, .int y9), (3, .int (nI 0))]) hx hb d_LN_write_5 hl (by decide) rfl (fun ls hl => ?_)
  refine lv_aload hx hb d_LN_write_7 (lv_at hl 0 rfl) ?_
  refine lv_ifnull hx hb d_LN_write_9 ?_
  refine lv_aload hx hb d_LN_write_12 (lv_at hl 0 rfl) ?_
  refine mk_r1 (W.runV (As := []) (rest := []) S (c_Ro_name l dC dI cI f1 a1 n1 v1 (by first | assumption | omega) (by first | assumption | omega)) (gV 0 hts k_136 k_137 k_138 k_25 k_139 (by decide +kernel) ⟨Nat.le_of_ble_eq_true rfl, Nat.le_of_ble_eq_true rfl⟩) (mk_vR hP hK hT hS [3, 4] rfl (q0 := 3) (ci := 1) rfl rfl) rfl rfl hl.1 rfl (lv_room (Nat.le_of_ble_eq_true rfl)) d_LN_write_14 ⟨Nat.zero_le _, Nat.zero_le _⟩) ?_
  refine lv_if_ne (tgt := 30) hx hb d_LN_write_17 (by decide) (fun c_1 => ?_) (fun c_1 => ?_)
  · skip
    have c_1 := bI_1 c_1
    refine lv_iload_n hx hb d_LN_write_30 rfl (lv_at hl 4 rfl) ?_
    refine lv_if_lt (tgt := 41) hx hb d_LN_write_31 (by decide) (fun c_2 => ?_) (fun c_2 => ?_)
    · skip
      rw [mk_clt (by omega)] at c_2
      first | omega | contradiction
    · skip
      rw [mk_clt (by omega)] at c_2
      refine lv_iload_n hx hb d_LN_write_34 rfl (lv_at hl 4 rfl) ?_
      refine lv_sipush (v := nI 9999) hx hb d_LN_write_35 (by decide) ?_
      refine lv_icmp_le (tgt := 51) hx hb d_LN_write_38 (by decide) (fun c_3 => ?_) (fun c_3 => ?_)
      · skip
        rw [nI_leI (by omega) (by omega)] at c_3
        refine lv_iload_n hx hb d_LN_write_51 rfl (lv_at hl 4 rfl) ?_
        refine lv_if_ne (tgt := 73) hx hb d_LN_write_52 (by decide) (fun c_4 => ?_) (fun c_4 => ?_)
        · skip
          rw [mk_ceq (by omega)] at c_4
          first | omega | contradiction
        · skip
          rw [mk_ceq (by omega)] at c_4
          refine lv_aload hx hb d_LN_write_55 (lv_at hl 0 rfl) ?_
          refine mk_r1 (W.runV (As := []) (rest := []) S (c_Ro_short l dC dI cI f1 a1 n1 v1 (by first | assumption | omega) (by first | assumption | omega)) (gV 0 hts k_150 k_151 k_152 k_25 k_153 (by decide +kernel) ⟨Nat.le_of_ble_eq_true rfl, Nat.le_of_ble_eq_true rfl⟩) (mk_vR hP hK hT hS [3, 4] rfl (q0 := 3) (ci := 1) rfl rfl) rfl rfl hl.1 rfl (lv_room (Nat.le_of_ble_eq_true rfl)) d_LN_write_57 ⟨Nat.zero_le _, Nat.zero_le _⟩) ?_
          refine lv_if_ne (tgt := 73) hx hb d_LN_write_60 (by decide) (fun c_5 => ?_) (fun c_5 => ?_)
          · skip
            have c_5 := bI_1 c_5
            rw [h2] at c_5; exact absurd c_5 (by decide)
          · skip
            have c_5 := bI_0 c_5
            obtain ⟨q9, hq9⟩ := hT.str (86, "a name that is not short needs a tail") (by decide)
            exact hthr 63 _ _ _ 77 86 81 "a name that is not short needs a tail" q9 hl.1 d_LN_write_63 d_LN_write_66 d_LN_write_67 d_LN_write_69 d_LN_write_72 (List.mem_cons_of_mem _ k_286) (List.mem_cons_of_mem _ k_287) (List.mem_cons_of_mem _ k_34) (fun z hz => List.mem_cons_of_mem _ (th_in_IllegalArgumentException z hz)) th_ok_IllegalArgumentException hq9 hP hD hS
      · skip
        rw [nI_leI (by omega) (by omega)] at c_3
        first | omega | contradiction
  · skip
    have c_1 := bI_0 c_1
    rw [h1] at c_1; exact absurd c_1 (by decide)

set_option maxHeartbeats 1000000 in
set_option maxRecDepth 100000 in
theorem x_writeI1 (l : Launch) (dC : Nat → ClassId) (dI : Nat → Nat → Nat) (cI : ClassId) (x f0 a0 n0 : Nat) (v0 : Nat → Nat) (f1 a1 n1 : Nat) (v1 : Nat → Nat) (h a : Nat) (b : Nat → Nat) (hp ap : Nat) (pb : Nat → Nat) (hs as : Nat) (B : Nat → Nat) (y9 : Int32) (hn0 : n0 ≤ 255) (hv0 : ∀ j, v0 j < 65536) (hn1 : n1 ≤ 255) (hv1 : ∀ j, v1 j < 65536) (hb9 : ∀ j, b j < 65536) (hpb : ∀ j, pb j < 65536) (hB : ∀ j, B j < 256) (h1 : nameN v1 n1 = true) (h2 : shortN v1 n1 = true) (hy : y9 < 0 ∨ nI 32 ≤ y9) (htr : l.stackTraces = false) : mT l y_LN_write w_LN_write ({ frames := 6, cells := 1, slots := 6, locals := 82 } : Room) [.ref x, .int (nI 1), .int y9, .int (nI 0)] (dC, dI) vwCl [(cI, .int)] [(x, .inr (0, [.ref f0, .ref f1, .ref h, .ref hp, .ref hs])), (f0, .inr (1, [.ref a0, .int (nI n0)])), (a0, .inl (cI, 255, .inl (nf v0))), (f1, .inr (1, [.ref a1, .int (nI n1)])), (a1, .inl (cI, 255, .inl (nf v1))), (h, .inr (2, [.ref a])), (a, .inl (cI, 11, .inl (nf b))), (hp, .inr (3, [.ref ap])), (ap, .inl (cI, 32, .inl (nf pb))), (hs, .inr (4, [.ref as])), (as, .inl (cI, 1024, .inl (nf B)))] "java/lang/IndexOutOfBoundsException" [(x, .inr (0, [.ref f0, .ref f1, .ref h, .ref hp, .ref hs])), (f0, .inr (1, [.ref a0, .int (nI n0)])), (a0, .inl (cI, 255, .inl (nf v0))), (f1, .inr (1, [.ref a1, .int (nI n1)])), (a1, .inl (cI, 255, .inl (nf v1))), (h, .inr (2, [.ref a])), (a, .inl (cI, 11, .inl (nf b))), (hp, .inr (3, [.ref ap])), (ap, .inl (cI, 32, .inl (nf pb))), (hs, .inr (4, [.ref as])), (as, .inl (cI, 1024, .inl (nf B)))] := by
  refine mk_Th (cc := b_LN_write) (maxL := 6) (by decide) rfl (Nat.le_of_ble_eq_true rfl) (th_good _ rfl) htr (by decide +kernel) (by decide) (by decide) rfl rfl ?_
  intro p e s m below meth c Q A ls S hP hK hT hS hl hD hA hthr
  obtain ⟨hx, hb, hml, hown, hts⟩ := id S
  have hl : lv_has ls 6 [(0, .ref x), (1, .int (nI 1)), (2, .int y9), (3, .int (nI 0))] := hl
  refine lv_aload_n hx hb d_LN_write_0 rfl (lv_at hl 0 rfl) ?_
  refine lv_iload_n hx hb d_LN_write_1 rfl (lv_at hl 1 rfl) ?_
  refine mk_r1 (W.runV (As := [.int (nI 1)]) (rest := []) S (c_LN_row1 l dC dI cI x f0 f1 h hp hs) (gV 1 hts k_111 k_113 k_0 k_24 k_114 (by decide +kernel) ⟨Nat.le_of_ble_eq_true rfl, Nat.le_of_ble_eq_true rfl⟩) (mk_vR hP hK hT hS [0] rfl (q0 := 0) (ci := 0) rfl rfl) rfl rfl hl.1 rfl (lv_room (Nat.le_of_ble_eq_true rfl)) d_LN_write_2 ⟨Nat.zero_le _, Nat.zero_le _⟩) ?_
  refine lv_astore (lv' := [(4, .ref f1), (0, .ref x), (1, .int (nI 1)), (2, .int y9), (3, .int (nI 0))]) hx hb d_LN_write_5 hl (by decide) rfl (fun ls hl => ?_)
  refine lv_aload hx hb d_LN_write_7 (lv_at hl 0 rfl) ?_
  refine lv_ifnull hx hb d_LN_write_9 ?_
  refine lv_aload hx hb d_LN_write_12 (lv_at hl 0 rfl) ?_
  refine mk_r1 (W.runV (As := []) (rest := []) S (c_Ro_name l dC dI cI f1 a1 n1 v1 (by first | assumption | omega) (by first | assumption | omega)) (gV 0 hts k_136 k_137 k_138 k_25 k_139 (by decide +kernel) ⟨Nat.le_of_ble_eq_true rfl, Nat.le_of_ble_eq_true rfl⟩) (mk_vR hP hK hT hS [3, 4] rfl (q0 := 3) (ci := 1) rfl rfl) rfl rfl hl.1 rfl (lv_room (Nat.le_of_ble_eq_true rfl)) d_LN_write_14 ⟨Nat.zero_le _, Nat.zero_le _⟩) ?_
  refine lv_if_ne (tgt := 30) hx hb d_LN_write_17 (by decide) (fun c_1 => ?_) (fun c_1 => ?_)
  · skip
    have c_1 := bI_1 c_1
    refine lv_iload_n hx hb d_LN_write_30 rfl (lv_at hl 4 rfl) ?_
    refine lv_if_lt (tgt := 41) hx hb d_LN_write_31 (by decide) (fun c_2 => ?_) (fun c_2 => ?_)
    · skip
      rw [mk_clt (by omega)] at c_2
      first | omega | contradiction
    · skip
      rw [mk_clt (by omega)] at c_2
      refine lv_iload_n hx hb d_LN_write_34 rfl (lv_at hl 4 rfl) ?_
      refine lv_sipush (v := nI 9999) hx hb d_LN_write_35 (by decide) ?_
      refine lv_icmp_le (tgt := 51) hx hb d_LN_write_38 (by decide) (fun c_3 => ?_) (fun c_3 => ?_)
      · skip
        rw [nI_leI (by omega) (by omega)] at c_3
        refine lv_iload_n hx hb d_LN_write_51 rfl (lv_at hl 4 rfl) ?_
        refine lv_if_ne (tgt := 73) hx hb d_LN_write_52 (by decide) (fun c_4 => ?_) (fun c_4 => ?_)
        · skip
          rw [mk_ceq (by omega)] at c_4
          first | omega | contradiction
        · skip
          rw [mk_ceq (by omega)] at c_4
          refine lv_aload hx hb d_LN_write_55 (lv_at hl 0 rfl) ?_
          refine mk_r1 (W.runV (As := []) (rest := []) S (c_Ro_short l dC dI cI f1 a1 n1 v1 (by first | assumption | omega) (by first | assumption | omega)) (gV 0 hts k_150 k_151 k_152 k_25 k_153 (by decide +kernel) ⟨Nat.le_of_ble_eq_true rfl, Nat.le_of_ble_eq_true rfl⟩) (mk_vR hP hK hT hS [3, 4] rfl (q0 := 3) (ci := 1) rfl rfl) rfl rfl hl.1 rfl (lv_room (Nat.le_of_ble_eq_true rfl)) d_LN_write_57 ⟨Nat.zero_le _, Nat.zero_le _⟩) ?_
          refine lv_if_ne (tgt := 73) hx hb d_LN_write_60 (by decide) (fun c_5 => ?_) (fun c_5 => ?_)
          · skip
            have c_5 := bI_1 c_5
            refine lv_iload_n hx hb d_LN_write_73 rfl (lv_at hl 4 rfl) ?_
            refine lv_if_ne (tgt := 81) hx hb d_LN_write_74 (by decide) (fun c_6 => ?_) (fun c_6 => ?_)
            · skip
              rw [mk_ceq (by omega)] at c_6
              first | omega | contradiction
            · skip
              rw [mk_ceq (by omega)] at c_6
              refine lv_iconst (v := nI 0) hx hb d_LN_write_77 (by decide) ?_
              refine lv_goto (tgt := 86) hx hb d_LN_write_78 (by decide) ?_
              refine lv_istore (lv' := [(5, .int (nI 0)), (4, .ref f1), (0, .ref x), (1, .int (nI 1)), (2, .int y9), (3, .int (nI 0))]) hx hb d_LN_write_86 hl (by decide) rfl (fun ls hl => ?_)
              refine lv_iload_n hx hb d_LN_write_88 rfl (lv_at hl 4 rfl) ?_
              refine mk_r1 (W.runS (As := [.int y9]) (rest := []) S (c_Sl_isX l dC dI cI y9 (by first | assumption | omega)) (gS 1 hts k_221 k_207 k_28 k_208 (by decide +kernel) ⟨Nat.le_of_ble_eq_true rfl, Nat.le_of_ble_eq_true rfl⟩) (mk_sR hP hK hT hS [] rfl) rfl rfl hl.1 rfl (lv_room (Nat.le_of_ble_eq_true rfl)) d_LN_write_89 ⟨Nat.zero_le _, Nat.zero_le _⟩) ?_
              refine lv_if_eq (tgt := 105) hx hb d_LN_write_92 (by decide) (fun c_7 => ?_) (fun c_7 => ?_)
              · skip
                rw [mk_ceq (by omega)] at c_7
                obtain ⟨q9, hq9⟩ := hT.str (93, "there are too few slots") (by decide)
                exact hthr 105 _ _ _ 91 93 95 "there are too few slots" q9 hl.1 d_LN_write_105 d_LN_write_108 d_LN_write_109 d_LN_write_111 d_LN_write_114 (List.mem_cons_of_mem _ k_356) (List.mem_cons_of_mem _ k_357) (List.mem_cons_of_mem _ k_35) (fun z hz => List.mem_cons_of_mem _ (th_in_IndexOutOfBoundsException z hz)) th_ok_IndexOutOfBoundsException hq9 hP hD hS
              · skip
                rw [mk_ceq (by omega)] at c_7
                first | omega | contradiction
          · skip
            have c_5 := bI_0 c_5
            rw [h2] at c_5; exact absurd c_5 (by decide)
      · skip
        rw [nI_leI (by omega) (by omega)] at c_3
        first | omega | contradiction
  · skip
    have c_1 := bI_0 c_1
    rw [h1] at c_1; exact absurd c_1 (by decide)

set_option maxHeartbeats 1000000 in
set_option maxRecDepth 100000 in
theorem x_writeJ1 (l : Launch) (dC : Nat → ClassId) (dI : Nat → Nat → Nat) (cI : ClassId) (x f0 a0 n0 : Nat) (v0 : Nat → Nat) (f1 a1 n1 : Nat) (v1 : Nat → Nat) (h a : Nat) (b : Nat → Nat) (hp ap : Nat) (pb : Nat → Nat) (hs as : Nat) (B : Nat → Nat) (y9 : Int32) (t : Nat) (hn0 : n0 ≤ 255) (hv0 : ∀ j, v0 j < 65536) (hn1 : n1 ≤ 255) (hv1 : ∀ j, v1 j < 65536) (hb9 : ∀ j, b j < 65536) (hpb : ∀ j, pb j < 65536) (hB : ∀ j, B j < 256) (h1 : nameN v1 n1 = true) (ht : 1 ≤ t ∧ t < 10000) (hy : y9 < 0 ∨ nI 32 ≤ y9) (htr : l.stackTraces = false) : mT l y_LN_write w_LN_write ({ frames := 6, cells := 1, slots := 6, locals := 82 } : Room) [.ref x, .int (nI 1), .int y9, .int (nI t)] (dC, dI) vwCl [(cI, .int)] [(x, .inr (0, [.ref f0, .ref f1, .ref h, .ref hp, .ref hs])), (f0, .inr (1, [.ref a0, .int (nI n0)])), (a0, .inl (cI, 255, .inl (nf v0))), (f1, .inr (1, [.ref a1, .int (nI n1)])), (a1, .inl (cI, 255, .inl (nf v1))), (h, .inr (2, [.ref a])), (a, .inl (cI, 11, .inl (nf b))), (hp, .inr (3, [.ref ap])), (ap, .inl (cI, 32, .inl (nf pb))), (hs, .inr (4, [.ref as])), (as, .inl (cI, 1024, .inl (nf B)))] "java/lang/IndexOutOfBoundsException" [(x, .inr (0, [.ref f0, .ref f1, .ref h, .ref hp, .ref hs])), (f0, .inr (1, [.ref a0, .int (nI n0)])), (a0, .inl (cI, 255, .inl (nf v0))), (f1, .inr (1, [.ref a1, .int (nI n1)])), (a1, .inl (cI, 255, .inl (nf v1))), (h, .inr (2, [.ref a])), (a, .inl (cI, 11, .inl (nf b))), (hp, .inr (3, [.ref ap])), (ap, .inl (cI, 32, .inl (nf pb))), (hs, .inr (4, [.ref as])), (as, .inl (cI, 1024, .inl (nf B)))] := by
  refine mk_Th (cc := b_LN_write) (maxL := 6) (by decide) rfl (Nat.le_of_ble_eq_true rfl) (th_good _ rfl) htr (by decide +kernel) (by decide) (by decide) rfl rfl ?_
  intro p e s m below meth c Q A ls S hP hK hT hS hl hD hA hthr
  obtain ⟨hx, hb, hml, hown, hts⟩ := id S
  have hl : lv_has ls 6 [(0, .ref x), (1, .int (nI 1)), (2, .int y9), (3, .int (nI t))] := hl
  refine lv_aload_n hx hb d_LN_write_0 rfl (lv_at hl 0 rfl) ?_
  refine lv_iload_n hx hb d_LN_write_1 rfl (lv_at hl 1 rfl) ?_
  refine mk_r1 (W.runV (As := [.int (nI 1)]) (rest := []) S (c_LN_row1 l dC dI cI x f0 f1 h hp hs) (gV 1 hts k_111 k_113 k_0 k_24 k_114 (by decide +kernel) ⟨Nat.le_of_ble_eq_true rfl, Nat.le_of_ble_eq_true rfl⟩) (mk_vR hP hK hT hS [0] rfl (q0 := 0) (ci := 0) rfl rfl) rfl rfl hl.1 rfl (lv_room (Nat.le_of_ble_eq_true rfl)) d_LN_write_2 ⟨Nat.zero_le _, Nat.zero_le _⟩) ?_
  refine lv_astore (lv' := [(4, .ref f1), (0, .ref x), (1, .int (nI 1)), (2, .int y9), (3, .int (nI t))]) hx hb d_LN_write_5 hl (by decide) rfl (fun ls hl => ?_)
  refine lv_aload hx hb d_LN_write_7 (lv_at hl 0 rfl) ?_
  refine lv_ifnull hx hb d_LN_write_9 ?_
  refine lv_aload hx hb d_LN_write_12 (lv_at hl 0 rfl) ?_
  refine mk_r1 (W.runV (As := []) (rest := []) S (c_Ro_name l dC dI cI f1 a1 n1 v1 (by first | assumption | omega) (by first | assumption | omega)) (gV 0 hts k_136 k_137 k_138 k_25 k_139 (by decide +kernel) ⟨Nat.le_of_ble_eq_true rfl, Nat.le_of_ble_eq_true rfl⟩) (mk_vR hP hK hT hS [3, 4] rfl (q0 := 3) (ci := 1) rfl rfl) rfl rfl hl.1 rfl (lv_room (Nat.le_of_ble_eq_true rfl)) d_LN_write_14 ⟨Nat.zero_le _, Nat.zero_le _⟩) ?_
  refine lv_if_ne (tgt := 30) hx hb d_LN_write_17 (by decide) (fun c_1 => ?_) (fun c_1 => ?_)
  · skip
    have c_1 := bI_1 c_1
    refine lv_iload_n hx hb d_LN_write_30 rfl (lv_at hl 4 rfl) ?_
    refine lv_if_lt (tgt := 41) hx hb d_LN_write_31 (by decide) (fun c_2 => ?_) (fun c_2 => ?_)
    · skip
      rw [mk_clt (by omega)] at c_2
      first | omega | contradiction
    · skip
      rw [mk_clt (by omega)] at c_2
      refine lv_iload_n hx hb d_LN_write_34 rfl (lv_at hl 4 rfl) ?_
      refine lv_sipush (v := nI 9999) hx hb d_LN_write_35 (by decide) ?_
      refine lv_icmp_le (tgt := 51) hx hb d_LN_write_38 (by decide) (fun c_3 => ?_) (fun c_3 => ?_)
      · skip
        rw [nI_leI (by omega) (by omega)] at c_3
        refine lv_iload_n hx hb d_LN_write_51 rfl (lv_at hl 4 rfl) ?_
        refine lv_if_ne (tgt := 73) hx hb d_LN_write_52 (by decide) (fun c_4 => ?_) (fun c_4 => ?_)
        · skip
          rw [mk_ceq (by omega)] at c_4
          refine lv_iload_n hx hb d_LN_write_73 rfl (lv_at hl 4 rfl) ?_
          refine lv_if_ne (tgt := 81) hx hb d_LN_write_74 (by decide) (fun c_5 => ?_) (fun c_5 => ?_)
          · skip
            rw [mk_ceq (by omega)] at c_5
            refine lv_aload hx hb d_LN_write_81 (lv_at hl 0 rfl) ?_
            refine mk_r1 (W.runV (As := []) (rest := []) S (c_Ro_parts l dC dI cI f1 a1 n1 v1 (by first | assumption | omega)) (gV 0 hts k_161 k_162 k_163 k_25 k_164 (by decide +kernel) ⟨Nat.le_of_ble_eq_true rfl, Nat.le_of_ble_eq_true rfl⟩) (mk_vR hP hK hT hS [3, 4] rfl (q0 := 3) (ci := 1) rfl rfl) rfl rfl hl.1 rfl (lv_room (Nat.le_of_ble_eq_true rfl)) d_LN_write_83 ⟨Nat.zero_le _, Nat.zero_le _⟩) ?_
            have b_6 := pnN_le (show n1 ≤ 255 by omega)
            refine lv_istore (lv' := [(5, .int (nI (pnN n1))), (4, .ref f1), (0, .ref x), (1, .int (nI 1)), (2, .int y9), (3, .int (nI t))]) hx hb d_LN_write_86 hl (by decide) rfl (fun ls hl => ?_)
            refine lv_iload_n hx hb d_LN_write_88 rfl (lv_at hl 4 rfl) ?_
            refine mk_r1 (W.runS (As := [.int y9]) (rest := []) S (c_Sl_isX l dC dI cI y9 (by first | assumption | omega)) (gS 1 hts k_221 k_207 k_28 k_208 (by decide +kernel) ⟨Nat.le_of_ble_eq_true rfl, Nat.le_of_ble_eq_true rfl⟩) (mk_sR hP hK hT hS [] rfl) rfl rfl hl.1 rfl (lv_room (Nat.le_of_ble_eq_true rfl)) d_LN_write_89 ⟨Nat.zero_le _, Nat.zero_le _⟩) ?_
            refine lv_if_eq (tgt := 105) hx hb d_LN_write_92 (by decide) (fun c_7 => ?_) (fun c_7 => ?_)
            · skip
              rw [mk_ceq (by omega)] at c_7
              obtain ⟨q9, hq9⟩ := hT.str (93, "there are too few slots") (by decide)
              exact hthr 105 _ _ _ 91 93 95 "there are too few slots" q9 hl.1 d_LN_write_105 d_LN_write_108 d_LN_write_109 d_LN_write_111 d_LN_write_114 (List.mem_cons_of_mem _ k_356) (List.mem_cons_of_mem _ k_357) (List.mem_cons_of_mem _ k_35) (fun z hz => List.mem_cons_of_mem _ (th_in_IndexOutOfBoundsException z hz)) th_ok_IndexOutOfBoundsException hq9 hP hD hS
            · skip
              rw [mk_ceq (by omega)] at c_7
              first | omega | contradiction
          · skip
            rw [mk_ceq (by omega)] at c_5
            first | omega | contradiction
        · skip
          rw [mk_ceq (by omega)] at c_4
          first | omega | contradiction
      · skip
        rw [nI_leI (by omega) (by omega)] at c_3
        first | omega | contradiction
  · skip
    have c_1 := bI_0 c_1
    rw [h1] at c_1; exact absurd c_1 (by decide)

set_option maxHeartbeats 1000000 in
set_option maxRecDepth 100000 in
theorem x_writeK1 (l : Launch) (dC : Nat → ClassId) (dI : Nat → Nat → Nat) (cI : ClassId) (x f0 a0 n0 : Nat) (v0 : Nat → Nat) (f1 a1 n1 : Nat) (v1 : Nat → Nat) (h a : Nat) (b : Nat → Nat) (hp ap : Nat) (pb : Nat → Nat) (hs as : Nat) (B : Nat → Nat) (q t : Nat) (hn0 : n0 ≤ 255) (hv0 : ∀ j, v0 j < 65536) (hn1 : n1 ≤ 255) (hv1 : ∀ j, v1 j < 65536) (hb9 : ∀ j, b j < 65536) (hpb : ∀ j, pb j < 65536) (hB : ∀ j, B j < 256) (h1 : nameN v1 n1 = true) (ht : 1 ≤ t ∧ t < 10000) (hq : q < 32) (hy : 32 ≤ q + pnN n1) (htr : l.stackTraces = false) : mT l y_LN_write w_LN_write ({ frames := 6, cells := 1, slots := 6, locals := 82 } : Room) [.ref x, .int (nI 1), .int (nI q), .int (nI t)] (dC, dI) vwCl [(cI, .int)] [(x, .inr (0, [.ref f0, .ref f1, .ref h, .ref hp, .ref hs])), (f0, .inr (1, [.ref a0, .int (nI n0)])), (a0, .inl (cI, 255, .inl (nf v0))), (f1, .inr (1, [.ref a1, .int (nI n1)])), (a1, .inl (cI, 255, .inl (nf v1))), (h, .inr (2, [.ref a])), (a, .inl (cI, 11, .inl (nf b))), (hp, .inr (3, [.ref ap])), (ap, .inl (cI, 32, .inl (nf pb))), (hs, .inr (4, [.ref as])), (as, .inl (cI, 1024, .inl (nf B)))] "java/lang/IndexOutOfBoundsException" [(x, .inr (0, [.ref f0, .ref f1, .ref h, .ref hp, .ref hs])), (f0, .inr (1, [.ref a0, .int (nI n0)])), (a0, .inl (cI, 255, .inl (nf v0))), (f1, .inr (1, [.ref a1, .int (nI n1)])), (a1, .inl (cI, 255, .inl (nf v1))), (h, .inr (2, [.ref a])), (a, .inl (cI, 11, .inl (nf b))), (hp, .inr (3, [.ref ap])), (ap, .inl (cI, 32, .inl (nf pb))), (hs, .inr (4, [.ref as])), (as, .inl (cI, 1024, .inl (nf B)))] := by
  have hpn := pnN_le hn1
  have hy9 : nI (q + pnN n1) < 0 ∨ nI 32 ≤ nI (q + pnN n1) := Or.inr ((nI_leI (by decide) (by omega)).mpr hy)
  refine mk_Th (cc := b_LN_write) (maxL := 6) (by decide) rfl (Nat.le_of_ble_eq_true rfl) (th_good _ rfl) htr (by decide +kernel) (by decide) (by decide) rfl rfl ?_
  intro p e s m below meth c Q A ls S hP hK hT hS hl hD hA hthr
  obtain ⟨hx, hb, hml, hown, hts⟩ := id S
  have hl : lv_has ls 6 [(0, .ref x), (1, .int (nI 1)), (2, .int (nI q)), (3, .int (nI t))] := hl
  refine lv_aload_n hx hb d_LN_write_0 rfl (lv_at hl 0 rfl) ?_
  refine lv_iload_n hx hb d_LN_write_1 rfl (lv_at hl 1 rfl) ?_
  refine mk_r1 (W.runV (As := [.int (nI 1)]) (rest := []) S (c_LN_row1 l dC dI cI x f0 f1 h hp hs) (gV 1 hts k_111 k_113 k_0 k_24 k_114 (by decide +kernel) ⟨Nat.le_of_ble_eq_true rfl, Nat.le_of_ble_eq_true rfl⟩) (mk_vR hP hK hT hS [0] rfl (q0 := 0) (ci := 0) rfl rfl) rfl rfl hl.1 rfl (lv_room (Nat.le_of_ble_eq_true rfl)) d_LN_write_2 ⟨Nat.zero_le _, Nat.zero_le _⟩) ?_
  refine lv_astore (lv' := [(4, .ref f1), (0, .ref x), (1, .int (nI 1)), (2, .int (nI q)), (3, .int (nI t))]) hx hb d_LN_write_5 hl (by decide) rfl (fun ls hl => ?_)
  refine lv_aload hx hb d_LN_write_7 (lv_at hl 0 rfl) ?_
  refine lv_ifnull hx hb d_LN_write_9 ?_
  refine lv_aload hx hb d_LN_write_12 (lv_at hl 0 rfl) ?_
  refine mk_r1 (W.runV (As := []) (rest := []) S (c_Ro_name l dC dI cI f1 a1 n1 v1 (by first | assumption | omega) (by first | assumption | omega)) (gV 0 hts k_136 k_137 k_138 k_25 k_139 (by decide +kernel) ⟨Nat.le_of_ble_eq_true rfl, Nat.le_of_ble_eq_true rfl⟩) (mk_vR hP hK hT hS [3, 4] rfl (q0 := 3) (ci := 1) rfl rfl) rfl rfl hl.1 rfl (lv_room (Nat.le_of_ble_eq_true rfl)) d_LN_write_14 ⟨Nat.zero_le _, Nat.zero_le _⟩) ?_
  refine lv_if_ne (tgt := 30) hx hb d_LN_write_17 (by decide) (fun c_1 => ?_) (fun c_1 => ?_)
  · skip
    have c_1 := bI_1 c_1
    refine lv_iload_n hx hb d_LN_write_30 rfl (lv_at hl 4 rfl) ?_
    refine lv_if_lt (tgt := 41) hx hb d_LN_write_31 (by decide) (fun c_2 => ?_) (fun c_2 => ?_)
    · skip
      rw [mk_clt (by omega)] at c_2
      first | omega | contradiction
    · skip
      rw [mk_clt (by omega)] at c_2
      refine lv_iload_n hx hb d_LN_write_34 rfl (lv_at hl 4 rfl) ?_
      refine lv_sipush (v := nI 9999) hx hb d_LN_write_35 (by decide) ?_
      refine lv_icmp_le (tgt := 51) hx hb d_LN_write_38 (by decide) (fun c_3 => ?_) (fun c_3 => ?_)
      · skip
        rw [nI_leI (by omega) (by omega)] at c_3
        refine lv_iload_n hx hb d_LN_write_51 rfl (lv_at hl 4 rfl) ?_
        refine lv_if_ne (tgt := 73) hx hb d_LN_write_52 (by decide) (fun c_4 => ?_) (fun c_4 => ?_)
        · skip
          rw [mk_ceq (by omega)] at c_4
          refine lv_iload_n hx hb d_LN_write_73 rfl (lv_at hl 4 rfl) ?_
          refine lv_if_ne (tgt := 81) hx hb d_LN_write_74 (by decide) (fun c_5 => ?_) (fun c_5 => ?_)
          · skip
            rw [mk_ceq (by omega)] at c_5
            refine lv_aload hx hb d_LN_write_81 (lv_at hl 0 rfl) ?_
            refine mk_r1 (W.runV (As := []) (rest := []) S (c_Ro_parts l dC dI cI f1 a1 n1 v1 (by first | assumption | omega)) (gV 0 hts k_161 k_162 k_163 k_25 k_164 (by decide +kernel) ⟨Nat.le_of_ble_eq_true rfl, Nat.le_of_ble_eq_true rfl⟩) (mk_vR hP hK hT hS [3, 4] rfl (q0 := 3) (ci := 1) rfl rfl) rfl rfl hl.1 rfl (lv_room (Nat.le_of_ble_eq_true rfl)) d_LN_write_83 ⟨Nat.zero_le _, Nat.zero_le _⟩) ?_
            have b_6 := pnN_le (show n1 ≤ 255 by omega)
            refine lv_istore (lv' := [(5, .int (nI (pnN n1))), (4, .ref f1), (0, .ref x), (1, .int (nI 1)), (2, .int (nI q)), (3, .int (nI t))]) hx hb d_LN_write_86 hl (by decide) rfl (fun ls hl => ?_)
            refine lv_iload_n hx hb d_LN_write_88 rfl (lv_at hl 4 rfl) ?_
            refine mk_r1 (W.runS (As := [.int (nI q)]) (rest := []) S (c_Sl_isN l dC dI cI q (by first | assumption | omega)) (gS 1 hts k_221 k_207 k_28 k_208 (by decide +kernel) ⟨Nat.le_of_ble_eq_true rfl, Nat.le_of_ble_eq_true rfl⟩) (mk_sR hP hK hT hS [] rfl) rfl rfl hl.1 rfl (lv_room (Nat.le_of_ble_eq_true rfl)) d_LN_write_89 ⟨Nat.zero_le _, Nat.zero_le _⟩) ?_
            refine lv_if_eq (tgt := 105) hx hb d_LN_write_92 (by decide) (fun c_7 => ?_) (fun c_7 => ?_)
            · skip
              rw [mk_ceq (by omega)] at c_7
              first | omega | contradiction
            · skip
              rw [mk_ceq (by omega)] at c_7
              refine lv_iload_n hx hb d_LN_write_95 rfl (lv_at hl 4 rfl) ?_
              refine lv_iload hx hb d_LN_write_96 (lv_at hl 0 rfl) ?_
              refine lv_iadd hx hb d_LN_write_98 ?_
              refine mk_ti (y := nI (q + pnN n1)) (nI_add q (pnN n1)) ?_
              refine mk_r1 (W.runS (As := [.int (nI (q + pnN n1))]) (rest := []) S (c_Sl_isX l dC dI cI (nI (q + pnN n1)) (by first | assumption | omega)) (gS 1 hts k_221 k_207 k_28 k_208 (by decide +kernel) ⟨Nat.le_of_ble_eq_true rfl, Nat.le_of_ble_eq_true rfl⟩) (mk_sR hP hK hT hS [] rfl) rfl rfl hl.1 rfl (lv_room (Nat.le_of_ble_eq_true rfl)) d_LN_write_99 ⟨Nat.zero_le _, Nat.zero_le _⟩) ?_
              refine lv_if_ne (tgt := 115) hx hb d_LN_write_102 (by decide) (fun c_8 => ?_) (fun c_8 => ?_)
              · skip
                rw [mk_ceq (by omega)] at c_8
                first | omega | contradiction
              · skip
                rw [mk_ceq (by omega)] at c_8
                obtain ⟨q9, hq9⟩ := hT.str (93, "there are too few slots") (by decide)
                exact hthr 105 _ _ _ 91 93 95 "there are too few slots" q9 hl.1 d_LN_write_105 d_LN_write_108 d_LN_write_109 d_LN_write_111 d_LN_write_114 (List.mem_cons_of_mem _ k_356) (List.mem_cons_of_mem _ k_357) (List.mem_cons_of_mem _ k_35) (fun z hz => List.mem_cons_of_mem _ (th_in_IndexOutOfBoundsException z hz)) th_ok_IndexOutOfBoundsException hq9 hP hD hS
          · skip
            rw [mk_ceq (by omega)] at c_5
            first | omega | contradiction
        · skip
          rw [mk_ceq (by omega)] at c_4
          first | omega | contradiction
      · skip
        rw [nI_leI (by omega) (by omega)] at c_3
        first | omega | contradiction
  · skip
    have c_1 := bI_0 c_1
    rw [h1] at c_1; exact absurd c_1 (by decide)

set_option maxHeartbeats 1000000 in
set_option maxRecDepth 100000 in
theorem x_readP1 (l : Launch) (dC : Nat → ClassId) (dI : Nat → Nat → Nat) (cI : ClassId) (x f0 a0 n0 : Nat) (v0 : Nat → Nat) (f1 a1 n1 : Nat) (v1 : Nat → Nat) (h a : Nat) (b : Nat → Nat) (hp ap : Nat) (pb : Nat → Nat) (hs as : Nat) (B : Nat → Nat) (y9 z9 : Int32) (hn0 : n0 ≤ 255) (hv0 : ∀ j, v0 j < 65536) (hn1 : n1 ≤ 255) (hv1 : ∀ j, v1 j < 65536) (hb9 : ∀ j, b j < 65536) (hpb : ∀ j, pb j < 65536) (hB : ∀ j, B j < 256) (ht : z9 < 0 ∨ ¬ z9 ≤ nI 20) (htr : l.stackTraces = false) : mT l y_LN_read w_LN_read ({ frames := 6, cells := 1, slots := 6, locals := 82 } : Room) [.ref x, .int (nI 1), .int y9, .int z9] (dC, dI) vwCl [(cI, .int)] [(x, .inr (0, [.ref f0, .ref f1, .ref h, .ref hp, .ref hs])), (f0, .inr (1, [.ref a0, .int (nI n0)])), (a0, .inl (cI, 255, .inl (nf v0))), (f1, .inr (1, [.ref a1, .int (nI n1)])), (a1, .inl (cI, 255, .inl (nf v1))), (h, .inr (2, [.ref a])), (a, .inl (cI, 11, .inl (nf b))), (hp, .inr (3, [.ref ap])), (ap, .inl (cI, 32, .inl (nf pb))), (hs, .inr (4, [.ref as])), (as, .inl (cI, 1024, .inl (nf B)))] "java/lang/IllegalArgumentException" [(x, .inr (0, [.ref f0, .ref f1, .ref h, .ref hp, .ref hs])), (f0, .inr (1, [.ref a0, .int (nI n0)])), (a0, .inl (cI, 255, .inl (nf v0))), (f1, .inr (1, [.ref a1, .int (nI 0)])), (a1, .inl (cI, 255, .inl (nf v1))), (h, .inr (2, [.ref a])), (a, .inl (cI, 11, .inl (nf b))), (hp, .inr (3, [.ref ap])), (ap, .inl (cI, 32, .inl (nf pb))), (hs, .inr (4, [.ref as])), (as, .inl (cI, 1024, .inl (nf B)))] := by
  refine mk_Th (cc := b_LN_read) (maxL := 5) (by decide) rfl (Nat.le_of_ble_eq_true rfl) (th_good _ rfl) htr (by decide +kernel) (by decide) (by decide) rfl rfl ?_
  intro p e s m below meth c Q A ls S hP hK hT hS hl hD hA hthr
  obtain ⟨hx, hb, hml, hown, hts⟩ := id S
  have hl : lv_has ls 5 [(0, .ref x), (1, .int (nI 1)), (2, .int y9), (3, .int z9)] := hl
  refine lv_aload_n hx hb d_LN_read_0 rfl (lv_at hl 0 rfl) ?_
  refine lv_iload_n hx hb d_LN_read_1 rfl (lv_at hl 1 rfl) ?_
  refine mk_r1 (W.runV (As := [.int (nI 1)]) (rest := []) S (c_LN_row1 l dC dI cI x f0 f1 h hp hs) (gV 1 hts k_111 k_113 k_0 k_24 k_114 (by decide +kernel) ⟨Nat.le_of_ble_eq_true rfl, Nat.le_of_ble_eq_true rfl⟩) (mk_vR hP hK hT hS [0] rfl (q0 := 0) (ci := 0) rfl rfl) rfl rfl hl.1 rfl (lv_room (Nat.le_of_ble_eq_true rfl)) d_LN_read_2 ⟨Nat.zero_le _, Nat.zero_le _⟩) ?_
  refine lv_astore (lv' := [(4, .ref f1), (0, .ref x), (1, .int (nI 1)), (2, .int y9), (3, .int z9)]) hx hb d_LN_read_5 hl (by decide) rfl (fun ls hl => ?_)
  refine lv_aload hx hb d_LN_read_7 (lv_at hl 0 rfl) ?_
  refine lv_ifnonnull (tgt := 22) hx hb d_LN_read_9 (by decide) ?_
  refine lv_aload hx hb d_LN_read_22 (lv_at hl 0 rfl) ?_
  refine mk_w0 (wr := [(x, .inr (0, [.ref f0, .ref f1, .ref h, .ref hp, .ref hs])), (f0, .inr (1, [.ref a0, .int (nI n0)])), (a0, .inl (cI, 255, .inl (nf v0))), (h, .inr (2, [.ref a])), (a, .inl (cI, 11, .inl (nf b))), (hp, .inr (3, [.ref ap])), (ap, .inl (cI, 32, .inl (nf pb))), (hs, .inr (4, [.ref as])), (as, .inl (cI, 1024, .inl (nf B)))]) (W.runV (As := []) (rest := []) S ((c_Ro_empty l dC dI cI f1 a1 n1 v1) _) (gV 0 hts k_128 k_129 k_130 k_25 k_131 (by decide +kernel) ⟨Nat.le_of_ble_eq_true rfl, Nat.le_of_ble_eq_true rfl⟩) (mk_vM hP hD hK hT hS hA [3, 4] rfl rfl (by decide) (q0 := 3) (ci := 1) rfl rfl) rfl rfl hl.1 rfl (lv_room (Nat.le_of_ble_eq_true rfl)) d_LN_read_24 ⟨Nat.zero_le _, Nat.zero_le _⟩) hP hD hS hA [3, 4] [0, 1, 2, 5, 6, 7, 8, 9, 10] rfl rfl (by decide) (by decide) (fun H locs hP hD hS => ?_)
  have hP : va_P (dC, dI) vwCl [(x, .inr (0, [.ref f0, .ref f1, .ref h, .ref hp, .ref hs])), (f0, .inr (1, [.ref a0, .int (nI n0)])), (a0, .inl (cI, 255, .inl (nf v0))), (f1, .inr (1, [.ref a1, .int (nI 0)])), (a1, .inl (cI, 255, .inl (nf v1))), (h, .inr (2, [.ref a])), (a, .inl (cI, 11, .inl (nf b))), (hp, .inr (3, [.ref ap])), (ap, .inl (cI, 32, .inl (nf pb))), (hs, .inr (4, [.ref as])), (as, .inl (cI, 1024, .inl (nf B)))] H := hP.sub [0, 1, 2, 9, 10, 3, 4, 5, 6, 7, 8] rfl
  have hD : va_D A [(x, .inr (0, [.ref f0, .ref f1, .ref h, .ref hp, .ref hs])), (f0, .inr (1, [.ref a0, .int (nI n0)])), (a0, .inl (cI, 255, .inl (nf v0))), (f1, .inr (1, [.ref a1, .int (nI 0)])), (a1, .inl (cI, 255, .inl (nf v1))), (h, .inr (2, [.ref a])), (a, .inl (cI, 11, .inl (nf b))), (hp, .inr (3, [.ref ap])), (ap, .inl (cI, 32, .inl (nf pb))), (hs, .inr (4, [.ref as])), (as, .inl (cI, 1024, .inl (nf B)))] := hD.sub [0, 1, 2, 9, 10, 3, 4, 5, 6, 7, 8] (by decide) rfl
  refine lv_iload_n hx hb d_LN_read_27 rfl (lv_at hl 4 rfl) ?_
  refine lv_if_lt (tgt := 37) hx hb d_LN_read_28 (by decide) (fun c_1 => ?_) (fun c_1 => ?_)
  · skip
    obtain ⟨q9, hq9⟩ := hT.str (110, "the parts are not 0 to 20") (by decide)
    exact hthr 37 _ _ _ 77 110 81 "the parts are not 0 to 20" q9 hl.1 d_LN_read_37 d_LN_read_40 d_LN_read_41 d_LN_read_43 d_LN_read_46 (List.mem_cons_of_mem _ k_286) (List.mem_cons_of_mem _ k_287) (List.mem_cons_of_mem _ k_34) (fun z hz => List.mem_cons_of_mem _ (th_in_IllegalArgumentException z hz)) th_ok_IllegalArgumentException hq9 hP hD hS
  · skip
    refine lv_iload_n hx hb d_LN_read_31 rfl (lv_at hl 4 rfl) ?_
    refine lv_bipush (v := nI 20) hx hb d_LN_read_32 (by decide) ?_
    refine lv_icmp_le (tgt := 47) hx hb d_LN_read_34 (by decide) (fun c_2 => ?_) (fun c_2 => ?_)
    · skip
      rcases ht with h9 | h9 <;> contradiction
    · skip
      obtain ⟨q9, hq9⟩ := hT.str (110, "the parts are not 0 to 20") (by decide)
      exact hthr 37 _ _ _ 77 110 81 "the parts are not 0 to 20" q9 hl.1 d_LN_read_37 d_LN_read_40 d_LN_read_41 d_LN_read_43 d_LN_read_46 (List.mem_cons_of_mem _ k_286) (List.mem_cons_of_mem _ k_287) (List.mem_cons_of_mem _ k_34) (fun z hz => List.mem_cons_of_mem _ (th_in_IllegalArgumentException z hz)) th_ok_IllegalArgumentException hq9 hP hD hS

set_option maxHeartbeats 1000000 in
set_option maxRecDepth 100000 in
theorem x_readI1 (l : Launch) (dC : Nat → ClassId) (dI : Nat → Nat → Nat) (cI : ClassId) (x f0 a0 n0 : Nat) (v0 : Nat → Nat) (f1 a1 n1 : Nat) (v1 : Nat → Nat) (h a : Nat) (b : Nat → Nat) (hp ap : Nat) (pb : Nat → Nat) (hs as : Nat) (B : Nat → Nat) (y9 : Int32) (p9 : Nat) (hn0 : n0 ≤ 255) (hv0 : ∀ j, v0 j < 65536) (hn1 : n1 ≤ 255) (hv1 : ∀ j, v1 j < 65536) (hb9 : ∀ j, b j < 65536) (hpb : ∀ j, pb j < 65536) (hB : ∀ j, B j < 256) (hp7 : p9 ≤ 20) (hy : y9 < 0 ∨ nI 32 ≤ y9) (htr : l.stackTraces = false) : mT l y_LN_read w_LN_read ({ frames := 6, cells := 1, slots := 6, locals := 82 } : Room) [.ref x, .int (nI 1), .int y9, .int (nI p9)] (dC, dI) vwCl [(cI, .int)] [(x, .inr (0, [.ref f0, .ref f1, .ref h, .ref hp, .ref hs])), (f0, .inr (1, [.ref a0, .int (nI n0)])), (a0, .inl (cI, 255, .inl (nf v0))), (f1, .inr (1, [.ref a1, .int (nI n1)])), (a1, .inl (cI, 255, .inl (nf v1))), (h, .inr (2, [.ref a])), (a, .inl (cI, 11, .inl (nf b))), (hp, .inr (3, [.ref ap])), (ap, .inl (cI, 32, .inl (nf pb))), (hs, .inr (4, [.ref as])), (as, .inl (cI, 1024, .inl (nf B)))] "java/lang/IndexOutOfBoundsException" [(x, .inr (0, [.ref f0, .ref f1, .ref h, .ref hp, .ref hs])), (f0, .inr (1, [.ref a0, .int (nI n0)])), (a0, .inl (cI, 255, .inl (nf v0))), (f1, .inr (1, [.ref a1, .int (nI 0)])), (a1, .inl (cI, 255, .inl (nf v1))), (h, .inr (2, [.ref a])), (a, .inl (cI, 11, .inl (nf b))), (hp, .inr (3, [.ref ap])), (ap, .inl (cI, 32, .inl (nf pb))), (hs, .inr (4, [.ref as])), (as, .inl (cI, 1024, .inl (nf B)))] := by
  refine mk_Th (cc := b_LN_read) (maxL := 5) (by decide) rfl (Nat.le_of_ble_eq_true rfl) (th_good _ rfl) htr (by decide +kernel) (by decide) (by decide) rfl rfl ?_
  intro p e s m below meth c Q A ls S hP hK hT hS hl hD hA hthr
  obtain ⟨hx, hb, hml, hown, hts⟩ := id S
  have hl : lv_has ls 5 [(0, .ref x), (1, .int (nI 1)), (2, .int y9), (3, .int (nI p9))] := hl
  refine lv_aload_n hx hb d_LN_read_0 rfl (lv_at hl 0 rfl) ?_
  refine lv_iload_n hx hb d_LN_read_1 rfl (lv_at hl 1 rfl) ?_
  refine mk_r1 (W.runV (As := [.int (nI 1)]) (rest := []) S (c_LN_row1 l dC dI cI x f0 f1 h hp hs) (gV 1 hts k_111 k_113 k_0 k_24 k_114 (by decide +kernel) ⟨Nat.le_of_ble_eq_true rfl, Nat.le_of_ble_eq_true rfl⟩) (mk_vR hP hK hT hS [0] rfl (q0 := 0) (ci := 0) rfl rfl) rfl rfl hl.1 rfl (lv_room (Nat.le_of_ble_eq_true rfl)) d_LN_read_2 ⟨Nat.zero_le _, Nat.zero_le _⟩) ?_
  refine lv_astore (lv' := [(4, .ref f1), (0, .ref x), (1, .int (nI 1)), (2, .int y9), (3, .int (nI p9))]) hx hb d_LN_read_5 hl (by decide) rfl (fun ls hl => ?_)
  refine lv_aload hx hb d_LN_read_7 (lv_at hl 0 rfl) ?_
  refine lv_ifnonnull (tgt := 22) hx hb d_LN_read_9 (by decide) ?_
  refine lv_aload hx hb d_LN_read_22 (lv_at hl 0 rfl) ?_
  refine mk_w0 (wr := [(x, .inr (0, [.ref f0, .ref f1, .ref h, .ref hp, .ref hs])), (f0, .inr (1, [.ref a0, .int (nI n0)])), (a0, .inl (cI, 255, .inl (nf v0))), (h, .inr (2, [.ref a])), (a, .inl (cI, 11, .inl (nf b))), (hp, .inr (3, [.ref ap])), (ap, .inl (cI, 32, .inl (nf pb))), (hs, .inr (4, [.ref as])), (as, .inl (cI, 1024, .inl (nf B)))]) (W.runV (As := []) (rest := []) S ((c_Ro_empty l dC dI cI f1 a1 n1 v1) _) (gV 0 hts k_128 k_129 k_130 k_25 k_131 (by decide +kernel) ⟨Nat.le_of_ble_eq_true rfl, Nat.le_of_ble_eq_true rfl⟩) (mk_vM hP hD hK hT hS hA [3, 4] rfl rfl (by decide) (q0 := 3) (ci := 1) rfl rfl) rfl rfl hl.1 rfl (lv_room (Nat.le_of_ble_eq_true rfl)) d_LN_read_24 ⟨Nat.zero_le _, Nat.zero_le _⟩) hP hD hS hA [3, 4] [0, 1, 2, 5, 6, 7, 8, 9, 10] rfl rfl (by decide) (by decide) (fun H locs hP hD hS => ?_)
  have hP : va_P (dC, dI) vwCl [(x, .inr (0, [.ref f0, .ref f1, .ref h, .ref hp, .ref hs])), (f0, .inr (1, [.ref a0, .int (nI n0)])), (a0, .inl (cI, 255, .inl (nf v0))), (f1, .inr (1, [.ref a1, .int (nI 0)])), (a1, .inl (cI, 255, .inl (nf v1))), (h, .inr (2, [.ref a])), (a, .inl (cI, 11, .inl (nf b))), (hp, .inr (3, [.ref ap])), (ap, .inl (cI, 32, .inl (nf pb))), (hs, .inr (4, [.ref as])), (as, .inl (cI, 1024, .inl (nf B)))] H := hP.sub [0, 1, 2, 9, 10, 3, 4, 5, 6, 7, 8] rfl
  have hD : va_D A [(x, .inr (0, [.ref f0, .ref f1, .ref h, .ref hp, .ref hs])), (f0, .inr (1, [.ref a0, .int (nI n0)])), (a0, .inl (cI, 255, .inl (nf v0))), (f1, .inr (1, [.ref a1, .int (nI 0)])), (a1, .inl (cI, 255, .inl (nf v1))), (h, .inr (2, [.ref a])), (a, .inl (cI, 11, .inl (nf b))), (hp, .inr (3, [.ref ap])), (ap, .inl (cI, 32, .inl (nf pb))), (hs, .inr (4, [.ref as])), (as, .inl (cI, 1024, .inl (nf B)))] := hD.sub [0, 1, 2, 9, 10, 3, 4, 5, 6, 7, 8] (by decide) rfl
  refine lv_iload_n hx hb d_LN_read_27 rfl (lv_at hl 4 rfl) ?_
  refine lv_if_lt (tgt := 37) hx hb d_LN_read_28 (by decide) (fun c_1 => ?_) (fun c_1 => ?_)
  · skip
    rw [mk_clt (by omega)] at c_1
    first | omega | contradiction
  · skip
    rw [mk_clt (by omega)] at c_1
    refine lv_iload_n hx hb d_LN_read_31 rfl (lv_at hl 4 rfl) ?_
    refine lv_bipush (v := nI 20) hx hb d_LN_read_32 (by decide) ?_
    refine lv_icmp_le (tgt := 47) hx hb d_LN_read_34 (by decide) (fun c_2 => ?_) (fun c_2 => ?_)
    · skip
      rw [nI_leI (by omega) (by omega)] at c_2
      refine lv_iload_n hx hb d_LN_read_47 rfl (lv_at hl 3 rfl) ?_
      refine mk_r1 (W.runS (As := [.int y9]) (rest := []) S (c_Sl_isX l dC dI cI y9 (by first | assumption | omega)) (gS 1 hts k_221 k_207 k_28 k_208 (by decide +kernel) ⟨Nat.le_of_ble_eq_true rfl, Nat.le_of_ble_eq_true rfl⟩) (mk_sR hP hK hT hS [] rfl) rfl rfl hl.1 rfl (lv_room (Nat.le_of_ble_eq_true rfl)) d_LN_read_48 ⟨Nat.zero_le _, Nat.zero_le _⟩) ?_
      refine lv_if_eq (tgt := 59) hx hb d_LN_read_51 (by decide) (fun c_3 => ?_) (fun c_3 => ?_)
      · skip
        rw [mk_ceq (by omega)] at c_3
        obtain ⟨q9, hq9⟩ := hT.str (112, "there is no such slot, or too few before it") (by decide)
        exact hthr 59 _ _ _ 91 112 95 "there is no such slot, or too few before it" q9 hl.1 d_LN_read_59 d_LN_read_62 d_LN_read_63 d_LN_read_65 d_LN_read_68 (List.mem_cons_of_mem _ k_356) (List.mem_cons_of_mem _ k_357) (List.mem_cons_of_mem _ k_35) (fun z hz => List.mem_cons_of_mem _ (th_in_IndexOutOfBoundsException z hz)) th_ok_IndexOutOfBoundsException hq9 hP hD hS
      · skip
        rw [mk_ceq (by omega)] at c_3
        first | omega | contradiction
    · skip
      rw [nI_leI (by omega) (by omega)] at c_2
      first | omega | contradiction

set_option maxHeartbeats 1000000 in
set_option maxRecDepth 100000 in
theorem x_readJ1 (l : Launch) (dC : Nat → ClassId) (dI : Nat → Nat → Nat) (cI : ClassId) (x f0 a0 n0 : Nat) (v0 : Nat → Nat) (f1 a1 n1 : Nat) (v1 : Nat → Nat) (h a : Nat) (b : Nat → Nat) (hp ap : Nat) (pb : Nat → Nat) (hs as : Nat) (B : Nat → Nat) (q p9 : Nat) (hn0 : n0 ≤ 255) (hv0 : ∀ j, v0 j < 65536) (hn1 : n1 ≤ 255) (hv1 : ∀ j, v1 j < 65536) (hb9 : ∀ j, b j < 65536) (hpb : ∀ j, pb j < 65536) (hB : ∀ j, B j < 256) (hp7 : p9 ≤ 20) (hq : q < 32) (hy : q < p9) (htr : l.stackTraces = false) : mT l y_LN_read w_LN_read ({ frames := 6, cells := 1, slots := 6, locals := 82 } : Room) [.ref x, .int (nI 1), .int (nI q), .int (nI p9)] (dC, dI) vwCl [(cI, .int)] [(x, .inr (0, [.ref f0, .ref f1, .ref h, .ref hp, .ref hs])), (f0, .inr (1, [.ref a0, .int (nI n0)])), (a0, .inl (cI, 255, .inl (nf v0))), (f1, .inr (1, [.ref a1, .int (nI n1)])), (a1, .inl (cI, 255, .inl (nf v1))), (h, .inr (2, [.ref a])), (a, .inl (cI, 11, .inl (nf b))), (hp, .inr (3, [.ref ap])), (ap, .inl (cI, 32, .inl (nf pb))), (hs, .inr (4, [.ref as])), (as, .inl (cI, 1024, .inl (nf B)))] "java/lang/IndexOutOfBoundsException" [(x, .inr (0, [.ref f0, .ref f1, .ref h, .ref hp, .ref hs])), (f0, .inr (1, [.ref a0, .int (nI n0)])), (a0, .inl (cI, 255, .inl (nf v0))), (f1, .inr (1, [.ref a1, .int (nI 0)])), (a1, .inl (cI, 255, .inl (nf v1))), (h, .inr (2, [.ref a])), (a, .inl (cI, 11, .inl (nf b))), (hp, .inr (3, [.ref ap])), (ap, .inl (cI, 32, .inl (nf pb))), (hs, .inr (4, [.ref as])), (as, .inl (cI, 1024, .inl (nf B)))] := by
  refine mk_Th (cc := b_LN_read) (maxL := 5) (by decide) rfl (Nat.le_of_ble_eq_true rfl) (th_good _ rfl) htr (by decide +kernel) (by decide) (by decide) rfl rfl ?_
  intro p e s m below meth c Q A ls S hP hK hT hS hl hD hA hthr
  obtain ⟨hx, hb, hml, hown, hts⟩ := id S
  have hl : lv_has ls 5 [(0, .ref x), (1, .int (nI 1)), (2, .int (nI q)), (3, .int (nI p9))] := hl
  refine lv_aload_n hx hb d_LN_read_0 rfl (lv_at hl 0 rfl) ?_
  refine lv_iload_n hx hb d_LN_read_1 rfl (lv_at hl 1 rfl) ?_
  refine mk_r1 (W.runV (As := [.int (nI 1)]) (rest := []) S (c_LN_row1 l dC dI cI x f0 f1 h hp hs) (gV 1 hts k_111 k_113 k_0 k_24 k_114 (by decide +kernel) ⟨Nat.le_of_ble_eq_true rfl, Nat.le_of_ble_eq_true rfl⟩) (mk_vR hP hK hT hS [0] rfl (q0 := 0) (ci := 0) rfl rfl) rfl rfl hl.1 rfl (lv_room (Nat.le_of_ble_eq_true rfl)) d_LN_read_2 ⟨Nat.zero_le _, Nat.zero_le _⟩) ?_
  refine lv_astore (lv' := [(4, .ref f1), (0, .ref x), (1, .int (nI 1)), (2, .int (nI q)), (3, .int (nI p9))]) hx hb d_LN_read_5 hl (by decide) rfl (fun ls hl => ?_)
  refine lv_aload hx hb d_LN_read_7 (lv_at hl 0 rfl) ?_
  refine lv_ifnonnull (tgt := 22) hx hb d_LN_read_9 (by decide) ?_
  refine lv_aload hx hb d_LN_read_22 (lv_at hl 0 rfl) ?_
  refine mk_w0 (wr := [(x, .inr (0, [.ref f0, .ref f1, .ref h, .ref hp, .ref hs])), (f0, .inr (1, [.ref a0, .int (nI n0)])), (a0, .inl (cI, 255, .inl (nf v0))), (h, .inr (2, [.ref a])), (a, .inl (cI, 11, .inl (nf b))), (hp, .inr (3, [.ref ap])), (ap, .inl (cI, 32, .inl (nf pb))), (hs, .inr (4, [.ref as])), (as, .inl (cI, 1024, .inl (nf B)))]) (W.runV (As := []) (rest := []) S ((c_Ro_empty l dC dI cI f1 a1 n1 v1) _) (gV 0 hts k_128 k_129 k_130 k_25 k_131 (by decide +kernel) ⟨Nat.le_of_ble_eq_true rfl, Nat.le_of_ble_eq_true rfl⟩) (mk_vM hP hD hK hT hS hA [3, 4] rfl rfl (by decide) (q0 := 3) (ci := 1) rfl rfl) rfl rfl hl.1 rfl (lv_room (Nat.le_of_ble_eq_true rfl)) d_LN_read_24 ⟨Nat.zero_le _, Nat.zero_le _⟩) hP hD hS hA [3, 4] [0, 1, 2, 5, 6, 7, 8, 9, 10] rfl rfl (by decide) (by decide) (fun H locs hP hD hS => ?_)
  have hP : va_P (dC, dI) vwCl [(x, .inr (0, [.ref f0, .ref f1, .ref h, .ref hp, .ref hs])), (f0, .inr (1, [.ref a0, .int (nI n0)])), (a0, .inl (cI, 255, .inl (nf v0))), (f1, .inr (1, [.ref a1, .int (nI 0)])), (a1, .inl (cI, 255, .inl (nf v1))), (h, .inr (2, [.ref a])), (a, .inl (cI, 11, .inl (nf b))), (hp, .inr (3, [.ref ap])), (ap, .inl (cI, 32, .inl (nf pb))), (hs, .inr (4, [.ref as])), (as, .inl (cI, 1024, .inl (nf B)))] H := hP.sub [0, 1, 2, 9, 10, 3, 4, 5, 6, 7, 8] rfl
  have hD : va_D A [(x, .inr (0, [.ref f0, .ref f1, .ref h, .ref hp, .ref hs])), (f0, .inr (1, [.ref a0, .int (nI n0)])), (a0, .inl (cI, 255, .inl (nf v0))), (f1, .inr (1, [.ref a1, .int (nI 0)])), (a1, .inl (cI, 255, .inl (nf v1))), (h, .inr (2, [.ref a])), (a, .inl (cI, 11, .inl (nf b))), (hp, .inr (3, [.ref ap])), (ap, .inl (cI, 32, .inl (nf pb))), (hs, .inr (4, [.ref as])), (as, .inl (cI, 1024, .inl (nf B)))] := hD.sub [0, 1, 2, 9, 10, 3, 4, 5, 6, 7, 8] (by decide) rfl
  refine lv_iload_n hx hb d_LN_read_27 rfl (lv_at hl 4 rfl) ?_
  refine lv_if_lt (tgt := 37) hx hb d_LN_read_28 (by decide) (fun c_1 => ?_) (fun c_1 => ?_)
  · skip
    rw [mk_clt (by omega)] at c_1
    first | omega | contradiction
  · skip
    rw [mk_clt (by omega)] at c_1
    refine lv_iload_n hx hb d_LN_read_31 rfl (lv_at hl 4 rfl) ?_
    refine lv_bipush (v := nI 20) hx hb d_LN_read_32 (by decide) ?_
    refine lv_icmp_le (tgt := 47) hx hb d_LN_read_34 (by decide) (fun c_2 => ?_) (fun c_2 => ?_)
    · skip
      rw [nI_leI (by omega) (by omega)] at c_2
      refine lv_iload_n hx hb d_LN_read_47 rfl (lv_at hl 3 rfl) ?_
      refine mk_r1 (W.runS (As := [.int (nI q)]) (rest := []) S (c_Sl_isN l dC dI cI q (by first | assumption | omega)) (gS 1 hts k_221 k_207 k_28 k_208 (by decide +kernel) ⟨Nat.le_of_ble_eq_true rfl, Nat.le_of_ble_eq_true rfl⟩) (mk_sR hP hK hT hS [] rfl) rfl rfl hl.1 rfl (lv_room (Nat.le_of_ble_eq_true rfl)) d_LN_read_48 ⟨Nat.zero_le _, Nat.zero_le _⟩) ?_
      refine lv_if_eq (tgt := 59) hx hb d_LN_read_51 (by decide) (fun c_3 => ?_) (fun c_3 => ?_)
      · skip
        rw [mk_ceq (by omega)] at c_3
        first | omega | contradiction
      · skip
        rw [mk_ceq (by omega)] at c_3
        refine lv_iload_n hx hb d_LN_read_54 rfl (lv_at hl 4 rfl) ?_
        refine lv_iload_n hx hb d_LN_read_55 rfl (lv_at hl 3 rfl) ?_
        refine lv_icmp_le (tgt := 69) hx hb d_LN_read_56 (by decide) (fun c_4 => ?_) (fun c_4 => ?_)
        · skip
          rw [nI_leI (by omega) (by omega)] at c_4
          first | omega | contradiction
        · skip
          rw [nI_leI (by omega) (by omega)] at c_4
          obtain ⟨q9, hq9⟩ := hT.str (112, "there is no such slot, or too few before it") (by decide)
          exact hthr 59 _ _ _ 91 112 95 "there is no such slot, or too few before it" q9 hl.1 d_LN_read_59 d_LN_read_62 d_LN_read_63 d_LN_read_65 d_LN_read_68 (List.mem_cons_of_mem _ k_356) (List.mem_cons_of_mem _ k_357) (List.mem_cons_of_mem _ k_35) (fun z hz => List.mem_cons_of_mem _ (th_in_IndexOutOfBoundsException z hz)) th_ok_IndexOutOfBoundsException hq9 hP hD hS
    · skip
      rw [nI_leI (by omega) (by omega)] at c_2
      first | omega | contradiction

set_option maxHeartbeats 1000000 in
set_option maxRecDepth 100000 in
theorem x_readV1 (l : Launch) (dC : Nat → ClassId) (dI : Nat → Nat → Nat) (cI : ClassId) (x f0 a0 n0 : Nat) (v0 : Nat → Nat) (f1 a1 n1 : Nat) (v1 : Nat → Nat) (h a : Nat) (b : Nat → Nat) (hp ap : Nat) (pb : Nat → Nat) (hs as : Nat) (B : Nat → Nat) (q p9 : Nat) (hn0 : n0 ≤ 255) (hv0 : ∀ j, v0 j < 65536) (hn1 : n1 ≤ 255) (hv1 : ∀ j, v1 j < 65536) (hb9 : ∀ j, b j < 65536) (hpb : ∀ j, pb j < 65536) (hB : ∀ j, B j < 256) (h1 : valN (cpN b B (q * 32) 11) = false) (hq : q < 32) (hp7 : p9 ≤ 20 ∧ p9 ≤ q) (htr : l.stackTraces = false) : mT l y_LN_read w_LN_read ({ frames := 6, cells := 1, slots := 6, locals := 86 } : Room) [.ref x, .int (nI 1), .int (nI q), .int (nI p9)] (dC, dI) vwCl [(cI, .int)] [(x, .inr (0, [.ref f0, .ref f1, .ref h, .ref hp, .ref hs])), (f0, .inr (1, [.ref a0, .int (nI n0)])), (a0, .inl (cI, 255, .inl (nf v0))), (f1, .inr (1, [.ref a1, .int (nI n1)])), (a1, .inl (cI, 255, .inl (nf v1))), (h, .inr (2, [.ref a])), (a, .inl (cI, 11, .inl (nf b))), (hp, .inr (3, [.ref ap])), (ap, .inl (cI, 32, .inl (nf pb))), (hs, .inr (4, [.ref as])), (as, .inl (cI, 1024, .inl (nf B)))] "java/lang/IllegalStateException" [(x, .inr (0, [.ref f0, .ref f1, .ref h, .ref hp, .ref hs])), (f0, .inr (1, [.ref a0, .int (nI n0)])), (a0, .inl (cI, 255, .inl (nf v0))), (f1, .inr (1, [.ref a1, .int (nI 0)])), (a1, .inl (cI, 255, .inl (nf v1))), (h, .inr (2, [.ref a])), (a, .inl (cI, 11, .inl (nf (cpN b B (q * 32) 11)))), (hp, .inr (3, [.ref ap])), (ap, .inl (cI, 32, .inl (nf pb))), (hs, .inr (4, [.ref as])), (as, .inl (cI, 1024, .inl (nf B)))] := by
  have htb : ∀ j, (cpN b B (q * 32) 11) j < 65536 := cpN_lt hb9 hB
  refine mk_Th (cc := b_LN_read) (maxL := 5) (by decide) rfl (Nat.le_of_ble_eq_true rfl) (th_good _ rfl) htr (by decide +kernel) (by decide) (by decide) rfl rfl ?_
  intro p e s m below meth c Q A ls S hP hK hT hS hl hD hA hthr
  obtain ⟨hx, hb, hml, hown, hts⟩ := id S
  have hl : lv_has ls 5 [(0, .ref x), (1, .int (nI 1)), (2, .int (nI q)), (3, .int (nI p9))] := hl
  refine lv_aload_n hx hb d_LN_read_0 rfl (lv_at hl 0 rfl) ?_
  refine lv_iload_n hx hb d_LN_read_1 rfl (lv_at hl 1 rfl) ?_
  refine mk_r1 (W.runV (As := [.int (nI 1)]) (rest := []) S (c_LN_row1 l dC dI cI x f0 f1 h hp hs) (gV 1 hts k_111 k_113 k_0 k_24 k_114 (by decide +kernel) ⟨Nat.le_of_ble_eq_true rfl, Nat.le_of_ble_eq_true rfl⟩) (mk_vR hP hK hT hS [0] rfl (q0 := 0) (ci := 0) rfl rfl) rfl rfl hl.1 rfl (lv_room (Nat.le_of_ble_eq_true rfl)) d_LN_read_2 ⟨Nat.zero_le _, Nat.zero_le _⟩) ?_
  refine lv_astore (lv' := [(4, .ref f1), (0, .ref x), (1, .int (nI 1)), (2, .int (nI q)), (3, .int (nI p9))]) hx hb d_LN_read_5 hl (by decide) rfl (fun ls hl => ?_)
  refine lv_aload hx hb d_LN_read_7 (lv_at hl 0 rfl) ?_
  refine lv_ifnonnull (tgt := 22) hx hb d_LN_read_9 (by decide) ?_
  refine lv_aload hx hb d_LN_read_22 (lv_at hl 0 rfl) ?_
  refine mk_w0 (wr := [(x, .inr (0, [.ref f0, .ref f1, .ref h, .ref hp, .ref hs])), (f0, .inr (1, [.ref a0, .int (nI n0)])), (a0, .inl (cI, 255, .inl (nf v0))), (h, .inr (2, [.ref a])), (a, .inl (cI, 11, .inl (nf b))), (hp, .inr (3, [.ref ap])), (ap, .inl (cI, 32, .inl (nf pb))), (hs, .inr (4, [.ref as])), (as, .inl (cI, 1024, .inl (nf B)))]) (W.runV (As := []) (rest := []) S ((c_Ro_empty l dC dI cI f1 a1 n1 v1) _) (gV 0 hts k_128 k_129 k_130 k_25 k_131 (by decide +kernel) ⟨Nat.le_of_ble_eq_true rfl, Nat.le_of_ble_eq_true rfl⟩) (mk_vM hP hD hK hT hS hA [3, 4] rfl rfl (by decide) (q0 := 3) (ci := 1) rfl rfl) rfl rfl hl.1 rfl (lv_room (Nat.le_of_ble_eq_true rfl)) d_LN_read_24 ⟨Nat.zero_le _, Nat.zero_le _⟩) hP hD hS hA [3, 4] [0, 1, 2, 5, 6, 7, 8, 9, 10] rfl rfl (by decide) (by decide) (fun H locs hP hD hS => ?_)
  have hP : va_P (dC, dI) vwCl [(x, .inr (0, [.ref f0, .ref f1, .ref h, .ref hp, .ref hs])), (f0, .inr (1, [.ref a0, .int (nI n0)])), (a0, .inl (cI, 255, .inl (nf v0))), (f1, .inr (1, [.ref a1, .int (nI 0)])), (a1, .inl (cI, 255, .inl (nf v1))), (h, .inr (2, [.ref a])), (a, .inl (cI, 11, .inl (nf b))), (hp, .inr (3, [.ref ap])), (ap, .inl (cI, 32, .inl (nf pb))), (hs, .inr (4, [.ref as])), (as, .inl (cI, 1024, .inl (nf B)))] H := hP.sub [0, 1, 2, 9, 10, 3, 4, 5, 6, 7, 8] rfl
  have hD : va_D A [(x, .inr (0, [.ref f0, .ref f1, .ref h, .ref hp, .ref hs])), (f0, .inr (1, [.ref a0, .int (nI n0)])), (a0, .inl (cI, 255, .inl (nf v0))), (f1, .inr (1, [.ref a1, .int (nI 0)])), (a1, .inl (cI, 255, .inl (nf v1))), (h, .inr (2, [.ref a])), (a, .inl (cI, 11, .inl (nf b))), (hp, .inr (3, [.ref ap])), (ap, .inl (cI, 32, .inl (nf pb))), (hs, .inr (4, [.ref as])), (as, .inl (cI, 1024, .inl (nf B)))] := hD.sub [0, 1, 2, 9, 10, 3, 4, 5, 6, 7, 8] (by decide) rfl
  refine lv_iload_n hx hb d_LN_read_27 rfl (lv_at hl 4 rfl) ?_
  refine lv_if_lt (tgt := 37) hx hb d_LN_read_28 (by decide) (fun c_1 => ?_) (fun c_1 => ?_)
  · skip
    rw [mk_clt (by omega)] at c_1
    first | omega | contradiction
  · skip
    rw [mk_clt (by omega)] at c_1
    refine lv_iload_n hx hb d_LN_read_31 rfl (lv_at hl 4 rfl) ?_
    refine lv_bipush (v := nI 20) hx hb d_LN_read_32 (by decide) ?_
    refine lv_icmp_le (tgt := 47) hx hb d_LN_read_34 (by decide) (fun c_2 => ?_) (fun c_2 => ?_)
    · skip
      rw [nI_leI (by omega) (by omega)] at c_2
      refine lv_iload_n hx hb d_LN_read_47 rfl (lv_at hl 3 rfl) ?_
      refine mk_r1 (W.runS (As := [.int (nI q)]) (rest := []) S (c_Sl_isN l dC dI cI q (by first | assumption | omega)) (gS 1 hts k_221 k_207 k_28 k_208 (by decide +kernel) ⟨Nat.le_of_ble_eq_true rfl, Nat.le_of_ble_eq_true rfl⟩) (mk_sR hP hK hT hS [] rfl) rfl rfl hl.1 rfl (lv_room (Nat.le_of_ble_eq_true rfl)) d_LN_read_48 ⟨Nat.zero_le _, Nat.zero_le _⟩) ?_
      refine lv_if_eq (tgt := 59) hx hb d_LN_read_51 (by decide) (fun c_3 => ?_) (fun c_3 => ?_)
      · skip
        rw [mk_ceq (by omega)] at c_3
        first | omega | contradiction
      · skip
        rw [mk_ceq (by omega)] at c_3
        refine lv_iload_n hx hb d_LN_read_54 rfl (lv_at hl 4 rfl) ?_
        refine lv_iload_n hx hb d_LN_read_55 rfl (lv_at hl 3 rfl) ?_
        refine lv_icmp_le (tgt := 69) hx hb d_LN_read_56 (by decide) (fun c_4 => ?_) (fun c_4 => ?_)
        · skip
          rw [nI_leI (by omega) (by omega)] at c_4
          refine lv_aload_n hx hb d_LN_read_69 rfl (lv_at hl 1 rfl) ?_
          refine va_get (D := (dC, dI)) (ci := 0) (v := .ref h) (C := "LongNames") (T := F_LN) (N := 5) hx hb hts (iw_LN _) hown hK hP 0 rfl rfl 2 (by decide) (hts _ (List.mem_cons_of_mem _ k_93)) (fun _ h9 => h9) rfl d_LN_read_70 ?_
          refine lv_aload_n hx hb d_LN_read_73 rfl (lv_at hl 1 rfl) ?_
          refine va_get (D := (dC, dI)) (ci := 0) (v := .ref hs) (C := "LongNames") (T := F_LN) (N := 5) hx hb hts (iw_LN _) hown hK hP 0 rfl rfl 4 (by decide) (hts _ (List.mem_cons_of_mem _ k_95)) (fun _ h9 => h9) rfl d_LN_read_74 ?_
          refine lv_iload_n hx hb d_LN_read_77 rfl (lv_at hl 3 rfl) ?_
          refine mk_w0 (wr := [(x, .inr (0, [.ref f0, .ref f1, .ref h, .ref hp, .ref hs])), (f0, .inr (1, [.ref a0, .int (nI n0)])), (a0, .inl (cI, 255, .inl (nf v0))), (f1, .inr (1, [.ref a1, .int (nI 0)])), (a1, .inl (cI, 255, .inl (nf v1))), (hp, .inr (3, [.ref ap])), (ap, .inl (cI, 32, .inl (nf pb)))]) (W.runV (As := [.ref hs, .int (nI q)]) (rest := []) S ((c_Sn_take l dC dI cI h a b hs as B q (by first | assumption | omega) (by first | assumption | omega)) _) (gV 2 hts k_460 k_461 k_462 k_26 k_463 (by decide +kernel) ⟨Nat.le_of_ble_eq_true rfl, Nat.le_of_ble_eq_true rfl⟩) (mk_vM hP hD hK hT hS hA [5, 6, 9, 10] rfl rfl (by decide) (q0 := 5) (ci := 2) rfl rfl) rfl rfl hl.1 rfl (lv_room (Nat.le_of_ble_eq_true rfl)) d_LN_read_78 ⟨Nat.zero_le _, Nat.zero_le _⟩) hP hD hS hA [5, 6, 9, 10] [0, 1, 2, 3, 4, 7, 8] rfl rfl (by decide) (by decide) (fun H locs hP hD hS => ?_)
          have hP : va_P (dC, dI) vwCl [(x, .inr (0, [.ref f0, .ref f1, .ref h, .ref hp, .ref hs])), (f0, .inr (1, [.ref a0, .int (nI n0)])), (a0, .inl (cI, 255, .inl (nf v0))), (f1, .inr (1, [.ref a1, .int (nI 0)])), (a1, .inl (cI, 255, .inl (nf v1))), (h, .inr (2, [.ref a])), (a, .inl (cI, 11, .inl (nf (cpN b B (q * 32) 11)))), (hp, .inr (3, [.ref ap])), (ap, .inl (cI, 32, .inl (nf pb))), (hs, .inr (4, [.ref as])), (as, .inl (cI, 1024, .inl (nf B)))] H := hP.sub [0, 1, 2, 3, 4, 7, 8, 5, 6, 9, 10] rfl
          have hD : va_D A [(x, .inr (0, [.ref f0, .ref f1, .ref h, .ref hp, .ref hs])), (f0, .inr (1, [.ref a0, .int (nI n0)])), (a0, .inl (cI, 255, .inl (nf v0))), (f1, .inr (1, [.ref a1, .int (nI 0)])), (a1, .inl (cI, 255, .inl (nf v1))), (h, .inr (2, [.ref a])), (a, .inl (cI, 11, .inl (nf (cpN b B (q * 32) 11)))), (hp, .inr (3, [.ref ap])), (ap, .inl (cI, 32, .inl (nf pb))), (hs, .inr (4, [.ref as])), (as, .inl (cI, 1024, .inl (nf B)))] := hD.sub [0, 1, 2, 3, 4, 7, 8, 5, 6, 9, 10] (by decide) rfl
          refine lv_aload_n hx hb d_LN_read_81 rfl (lv_at hl 1 rfl) ?_
          refine va_get (D := (dC, dI)) (ci := 0) (v := .ref h) (C := "LongNames") (T := F_LN) (N := 5) hx hb hts (iw_LN _) hown hK hP 0 rfl rfl 2 (by decide) (hts _ (List.mem_cons_of_mem _ k_93)) (fun _ h9 => h9) rfl d_LN_read_82 ?_
          refine mk_r1 (W.runV (As := []) (rest := []) S (c_Sn_valid l dC dI cI h a (cpN b B (q * 32) 11) (by first | assumption | omega)) (gV 0 hts k_465 k_466 k_467 k_26 k_468 (by decide +kernel) ⟨Nat.le_of_ble_eq_true rfl, Nat.le_of_ble_eq_true rfl⟩) (mk_vR hP hK hT hS [5, 6] rfl (q0 := 5) (ci := 2) rfl rfl) rfl rfl hl.1 rfl (lv_room (Nat.le_of_ble_eq_true rfl)) d_LN_read_85 ⟨Nat.zero_le _, Nat.zero_le _⟩) ?_
          refine lv_if_ne (tgt := 101) hx hb d_LN_read_88 (by decide) (fun c_5 => ?_) (fun c_5 => ?_)
          · skip
            have c_5 := bI_1 c_5
            rw [h1] at c_5; exact absurd c_5 (by decide)
          · skip
            have c_5 := bI_0 c_5
            obtain ⟨q9, hq9⟩ := hT.str (123, "the entry has no short name") (by decide)
            exact hthr 91 _ _ _ 121 123 125 "the entry has no short name" q9 hl.1 d_LN_read_91 d_LN_read_94 d_LN_read_95 d_LN_read_97 d_LN_read_100 (List.mem_cons_of_mem _ k_474) (List.mem_cons_of_mem _ k_475) (List.mem_cons_of_mem _ k_37) (fun z hz => List.mem_cons_of_mem _ (th_in_IllegalStateException z hz)) th_ok_IllegalStateException hq9 hP hD hS
        · skip
          rw [nI_leI (by omega) (by omega)] at c_4
          first | omega | contradiction
    · skip
      rw [nI_leI (by omega) (by omega)] at c_2
      first | omega | contradiction

set_option maxHeartbeats 1000000 in
set_option maxRecDepth 100000 in
theorem x_readR11 (l : Launch) (dC : Nat → ClassId) (dI : Nat → Nat → Nat) (cI : ClassId) (x f0 a0 n0 : Nat) (v0 : Nat → Nat) (f1 a1 n1 : Nat) (v1 : Nat → Nat) (h a : Nat) (b : Nat → Nat) (hp ap : Nat) (pb : Nat → Nat) (hs as : Nat) (B : Nat → Nat) (q p9 : Nat) (hn0 : n0 ≤ 255) (hv0 : ∀ j, v0 j < 65536) (hn1 : n1 ≤ 255) (hv1 : ∀ j, v1 j < 65536) (hb9 : ∀ j, b j < 65536) (hpb : ∀ j, pb j < 65536) (hB : ∀ j, B j < 256) (h1 : valN (cpN b B (q * 32) 11) = true) (hq : q < 32) (hp7 : 1 ≤ p9 ∧ p9 ≤ 20 ∧ p9 ≤ q) (h3 : nameN (coV v1 (unN B q) (coC (unN B q) (13 * p9) 0)) (coC (unN B q) (13 * p9) 0) = false) (htr : l.stackTraces = false) : mT l y_LN_read w_LN_read ({ frames := 6, cells := 1, slots := 6, locals := 137 } : Room) [.ref x, .int (nI 1), .int (nI q), .int (nI p9)] (dC, dI) vwCl [(cI, .int)] [(x, .inr (0, [.ref f0, .ref f1, .ref h, .ref hp, .ref hs])), (f0, .inr (1, [.ref a0, .int (nI n0)])), (a0, .inl (cI, 255, .inl (nf v0))), (f1, .inr (1, [.ref a1, .int (nI n1)])), (a1, .inl (cI, 255, .inl (nf v1))), (h, .inr (2, [.ref a])), (a, .inl (cI, 11, .inl (nf b))), (hp, .inr (3, [.ref ap])), (ap, .inl (cI, 32, .inl (nf pb))), (hs, .inr (4, [.ref as])), (as, .inl (cI, 1024, .inl (nf B)))] "java/lang/IllegalStateException" [(x, .inr (0, [.ref f0, .ref f1, .ref h, .ref hp, .ref hs])), (f0, .inr (1, [.ref a0, .int (nI n0)])), (a0, .inl (cI, 255, .inl (nf v0))), (f1, .inr (1, [.ref a1, .int (nI 0)])), (a1, .inl (cI, 255, .inl (nf (coV v1 (unN B q) (coC (unN B q) (13 * p9) 0))))), (h, .inr (2, [.ref a])), (a, .inl (cI, 11, .inl (nf (cpN b B (q * 32) 11)))), (hp, .inr (3, [.ref ap])), (ap, .inl (cI, 32, .inl (nf pb))), (hs, .inr (4, [.ref as])), (as, .inl (cI, 1024, .inl (nf B)))] := by
  have htb : ∀ j, (cpN b B (q * 32) 11) j < 65536 := cpN_lt hb9 hB
  refine mk_Th (cc := b_LN_read) (maxL := 5) (by decide) rfl (Nat.le_of_ble_eq_true rfl) (th_good _ rfl) htr (by decide +kernel) (by decide) (by decide) rfl rfl ?_
  intro p e s m below meth c Q A ls S hP hK hT hS hl hD hA hthr
  obtain ⟨hx, hb, hml, hown, hts⟩ := id S
  have hl : lv_has ls 5 [(0, .ref x), (1, .int (nI 1)), (2, .int (nI q)), (3, .int (nI p9))] := hl
  refine lv_aload_n hx hb d_LN_read_0 rfl (lv_at hl 0 rfl) ?_
  refine lv_iload_n hx hb d_LN_read_1 rfl (lv_at hl 1 rfl) ?_
  refine mk_r1 (W.runV (As := [.int (nI 1)]) (rest := []) S (c_LN_row1 l dC dI cI x f0 f1 h hp hs) (gV 1 hts k_111 k_113 k_0 k_24 k_114 (by decide +kernel) ⟨Nat.le_of_ble_eq_true rfl, Nat.le_of_ble_eq_true rfl⟩) (mk_vR hP hK hT hS [0] rfl (q0 := 0) (ci := 0) rfl rfl) rfl rfl hl.1 rfl (lv_room (Nat.le_of_ble_eq_true rfl)) d_LN_read_2 ⟨Nat.zero_le _, Nat.zero_le _⟩) ?_
  refine lv_astore (lv' := [(4, .ref f1), (0, .ref x), (1, .int (nI 1)), (2, .int (nI q)), (3, .int (nI p9))]) hx hb d_LN_read_5 hl (by decide) rfl (fun ls hl => ?_)
  refine lv_aload hx hb d_LN_read_7 (lv_at hl 0 rfl) ?_
  refine lv_ifnonnull (tgt := 22) hx hb d_LN_read_9 (by decide) ?_
  refine lv_aload hx hb d_LN_read_22 (lv_at hl 0 rfl) ?_
  refine mk_w0 (wr := [(x, .inr (0, [.ref f0, .ref f1, .ref h, .ref hp, .ref hs])), (f0, .inr (1, [.ref a0, .int (nI n0)])), (a0, .inl (cI, 255, .inl (nf v0))), (h, .inr (2, [.ref a])), (a, .inl (cI, 11, .inl (nf b))), (hp, .inr (3, [.ref ap])), (ap, .inl (cI, 32, .inl (nf pb))), (hs, .inr (4, [.ref as])), (as, .inl (cI, 1024, .inl (nf B)))]) (W.runV (As := []) (rest := []) S ((c_Ro_empty l dC dI cI f1 a1 n1 v1) _) (gV 0 hts k_128 k_129 k_130 k_25 k_131 (by decide +kernel) ⟨Nat.le_of_ble_eq_true rfl, Nat.le_of_ble_eq_true rfl⟩) (mk_vM hP hD hK hT hS hA [3, 4] rfl rfl (by decide) (q0 := 3) (ci := 1) rfl rfl) rfl rfl hl.1 rfl (lv_room (Nat.le_of_ble_eq_true rfl)) d_LN_read_24 ⟨Nat.zero_le _, Nat.zero_le _⟩) hP hD hS hA [3, 4] [0, 1, 2, 5, 6, 7, 8, 9, 10] rfl rfl (by decide) (by decide) (fun H locs hP hD hS => ?_)
  have hP : va_P (dC, dI) vwCl [(x, .inr (0, [.ref f0, .ref f1, .ref h, .ref hp, .ref hs])), (f0, .inr (1, [.ref a0, .int (nI n0)])), (a0, .inl (cI, 255, .inl (nf v0))), (f1, .inr (1, [.ref a1, .int (nI 0)])), (a1, .inl (cI, 255, .inl (nf v1))), (h, .inr (2, [.ref a])), (a, .inl (cI, 11, .inl (nf b))), (hp, .inr (3, [.ref ap])), (ap, .inl (cI, 32, .inl (nf pb))), (hs, .inr (4, [.ref as])), (as, .inl (cI, 1024, .inl (nf B)))] H := hP.sub [0, 1, 2, 9, 10, 3, 4, 5, 6, 7, 8] rfl
  have hD : va_D A [(x, .inr (0, [.ref f0, .ref f1, .ref h, .ref hp, .ref hs])), (f0, .inr (1, [.ref a0, .int (nI n0)])), (a0, .inl (cI, 255, .inl (nf v0))), (f1, .inr (1, [.ref a1, .int (nI 0)])), (a1, .inl (cI, 255, .inl (nf v1))), (h, .inr (2, [.ref a])), (a, .inl (cI, 11, .inl (nf b))), (hp, .inr (3, [.ref ap])), (ap, .inl (cI, 32, .inl (nf pb))), (hs, .inr (4, [.ref as])), (as, .inl (cI, 1024, .inl (nf B)))] := hD.sub [0, 1, 2, 9, 10, 3, 4, 5, 6, 7, 8] (by decide) rfl
  refine lv_iload_n hx hb d_LN_read_27 rfl (lv_at hl 4 rfl) ?_
  refine lv_if_lt (tgt := 37) hx hb d_LN_read_28 (by decide) (fun c_1 => ?_) (fun c_1 => ?_)
  · skip
    rw [mk_clt (by omega)] at c_1
    first | omega | contradiction
  · skip
    rw [mk_clt (by omega)] at c_1
    refine lv_iload_n hx hb d_LN_read_31 rfl (lv_at hl 4 rfl) ?_
    refine lv_bipush (v := nI 20) hx hb d_LN_read_32 (by decide) ?_
    refine lv_icmp_le (tgt := 47) hx hb d_LN_read_34 (by decide) (fun c_2 => ?_) (fun c_2 => ?_)
    · skip
      rw [nI_leI (by omega) (by omega)] at c_2
      refine lv_iload_n hx hb d_LN_read_47 rfl (lv_at hl 3 rfl) ?_
      refine mk_r1 (W.runS (As := [.int (nI q)]) (rest := []) S (c_Sl_isN l dC dI cI q (by first | assumption | omega)) (gS 1 hts k_221 k_207 k_28 k_208 (by decide +kernel) ⟨Nat.le_of_ble_eq_true rfl, Nat.le_of_ble_eq_true rfl⟩) (mk_sR hP hK hT hS [] rfl) rfl rfl hl.1 rfl (lv_room (Nat.le_of_ble_eq_true rfl)) d_LN_read_48 ⟨Nat.zero_le _, Nat.zero_le _⟩) ?_
      refine lv_if_eq (tgt := 59) hx hb d_LN_read_51 (by decide) (fun c_3 => ?_) (fun c_3 => ?_)
      · skip
        rw [mk_ceq (by omega)] at c_3
        first | omega | contradiction
      · skip
        rw [mk_ceq (by omega)] at c_3
        refine lv_iload_n hx hb d_LN_read_54 rfl (lv_at hl 4 rfl) ?_
        refine lv_iload_n hx hb d_LN_read_55 rfl (lv_at hl 3 rfl) ?_
        refine lv_icmp_le (tgt := 69) hx hb d_LN_read_56 (by decide) (fun c_4 => ?_) (fun c_4 => ?_)
        · skip
          rw [nI_leI (by omega) (by omega)] at c_4
          refine lv_aload_n hx hb d_LN_read_69 rfl (lv_at hl 1 rfl) ?_
          refine va_get (D := (dC, dI)) (ci := 0) (v := .ref h) (C := "LongNames") (T := F_LN) (N := 5) hx hb hts (iw_LN _) hown hK hP 0 rfl rfl 2 (by decide) (hts _ (List.mem_cons_of_mem _ k_93)) (fun _ h9 => h9) rfl d_LN_read_70 ?_
          refine lv_aload_n hx hb d_LN_read_73 rfl (lv_at hl 1 rfl) ?_
          refine va_get (D := (dC, dI)) (ci := 0) (v := .ref hs) (C := "LongNames") (T := F_LN) (N := 5) hx hb hts (iw_LN _) hown hK hP 0 rfl rfl 4 (by decide) (hts _ (List.mem_cons_of_mem _ k_95)) (fun _ h9 => h9) rfl d_LN_read_74 ?_
          refine lv_iload_n hx hb d_LN_read_77 rfl (lv_at hl 3 rfl) ?_
          refine mk_w0 (wr := [(x, .inr (0, [.ref f0, .ref f1, .ref h, .ref hp, .ref hs])), (f0, .inr (1, [.ref a0, .int (nI n0)])), (a0, .inl (cI, 255, .inl (nf v0))), (f1, .inr (1, [.ref a1, .int (nI 0)])), (a1, .inl (cI, 255, .inl (nf v1))), (hp, .inr (3, [.ref ap])), (ap, .inl (cI, 32, .inl (nf pb)))]) (W.runV (As := [.ref hs, .int (nI q)]) (rest := []) S ((c_Sn_take l dC dI cI h a b hs as B q (by first | assumption | omega) (by first | assumption | omega)) _) (gV 2 hts k_460 k_461 k_462 k_26 k_463 (by decide +kernel) ⟨Nat.le_of_ble_eq_true rfl, Nat.le_of_ble_eq_true rfl⟩) (mk_vM hP hD hK hT hS hA [5, 6, 9, 10] rfl rfl (by decide) (q0 := 5) (ci := 2) rfl rfl) rfl rfl hl.1 rfl (lv_room (Nat.le_of_ble_eq_true rfl)) d_LN_read_78 ⟨Nat.zero_le _, Nat.zero_le _⟩) hP hD hS hA [5, 6, 9, 10] [0, 1, 2, 3, 4, 7, 8] rfl rfl (by decide) (by decide) (fun H locs hP hD hS => ?_)
          have hP : va_P (dC, dI) vwCl [(x, .inr (0, [.ref f0, .ref f1, .ref h, .ref hp, .ref hs])), (f0, .inr (1, [.ref a0, .int (nI n0)])), (a0, .inl (cI, 255, .inl (nf v0))), (f1, .inr (1, [.ref a1, .int (nI 0)])), (a1, .inl (cI, 255, .inl (nf v1))), (h, .inr (2, [.ref a])), (a, .inl (cI, 11, .inl (nf (cpN b B (q * 32) 11)))), (hp, .inr (3, [.ref ap])), (ap, .inl (cI, 32, .inl (nf pb))), (hs, .inr (4, [.ref as])), (as, .inl (cI, 1024, .inl (nf B)))] H := hP.sub [0, 1, 2, 3, 4, 7, 8, 5, 6, 9, 10] rfl
          have hD : va_D A [(x, .inr (0, [.ref f0, .ref f1, .ref h, .ref hp, .ref hs])), (f0, .inr (1, [.ref a0, .int (nI n0)])), (a0, .inl (cI, 255, .inl (nf v0))), (f1, .inr (1, [.ref a1, .int (nI 0)])), (a1, .inl (cI, 255, .inl (nf v1))), (h, .inr (2, [.ref a])), (a, .inl (cI, 11, .inl (nf (cpN b B (q * 32) 11)))), (hp, .inr (3, [.ref ap])), (ap, .inl (cI, 32, .inl (nf pb))), (hs, .inr (4, [.ref as])), (as, .inl (cI, 1024, .inl (nf B)))] := hD.sub [0, 1, 2, 3, 4, 7, 8, 5, 6, 9, 10] (by decide) rfl
          refine lv_aload_n hx hb d_LN_read_81 rfl (lv_at hl 1 rfl) ?_
          refine va_get (D := (dC, dI)) (ci := 0) (v := .ref h) (C := "LongNames") (T := F_LN) (N := 5) hx hb hts (iw_LN _) hown hK hP 0 rfl rfl 2 (by decide) (hts _ (List.mem_cons_of_mem _ k_93)) (fun _ h9 => h9) rfl d_LN_read_82 ?_
          refine mk_r1 (W.runV (As := []) (rest := []) S (c_Sn_valid l dC dI cI h a (cpN b B (q * 32) 11) (by first | assumption | omega)) (gV 0 hts k_465 k_466 k_467 k_26 k_468 (by decide +kernel) ⟨Nat.le_of_ble_eq_true rfl, Nat.le_of_ble_eq_true rfl⟩) (mk_vR hP hK hT hS [5, 6] rfl (q0 := 5) (ci := 2) rfl rfl) rfl rfl hl.1 rfl (lv_room (Nat.le_of_ble_eq_true rfl)) d_LN_read_85 ⟨Nat.zero_le _, Nat.zero_le _⟩) ?_
          refine lv_if_ne (tgt := 101) hx hb d_LN_read_88 (by decide) (fun c_5 => ?_) (fun c_5 => ?_)
          · skip
            have c_5 := bI_1 c_5
            refine lv_iload_n hx hb d_LN_read_101 rfl (lv_at hl 4 rfl) ?_
            refine lv_if_ne (tgt := 117) hx hb d_LN_read_102 (by decide) (fun c_6 => ?_) (fun c_6 => ?_)
            · skip
              rw [mk_ceq (by omega)] at c_6
              refine lv_aload_n hx hb d_LN_read_117 rfl (lv_at hl 1 rfl) ?_
              refine lv_aload hx hb d_LN_read_118 (lv_at hl 0 rfl) ?_
              refine lv_iload_n hx hb d_LN_read_120 rfl (lv_at hl 3 rfl) ?_
              refine lv_iload_n hx hb d_LN_read_121 rfl (lv_at hl 4 rfl) ?_
              refine mk_w1 (wr := [(f0, .inr (1, [.ref a0, .int (nI n0)])), (a0, .inl (cI, 255, .inl (nf v0))), (h, .inr (2, [.ref a])), (a, .inl (cI, 11, .inl (nf (cpN b B (q * 32) 11))))]) (W.runV (As := [.ref f1, .int (nI q), .int (nI p9)]) (rest := []) S ((c_LN_rp1 l dC dI cI x f0 f1 h hp ap pb hs as B f1 a1 v1 q p9 (by first | assumption | omega) (by first | assumption | omega) (by first | assumption | omega) (by first | assumption | omega) (by first | assumption | omega) (by first | assumption | omega) (by first | assumption | omega)) _) (gV 3 hts k_499 k_501 k_11 k_24 k_502 (by decide +kernel) ⟨Nat.le_of_ble_eq_true rfl, Nat.le_of_ble_eq_true rfl⟩) (mk_vM hP hD hK hT hS hA [0, 7, 8, 9, 10, 3, 4] rfl rfl (by decide) (q0 := 0) (ci := 0) rfl rfl) rfl rfl hl.1 rfl (lv_room (Nat.le_of_ble_eq_true rfl)) d_LN_read_122 ⟨Nat.zero_le _, Nat.zero_le _⟩) hP hD hS hA [0, 7, 8, 9, 10, 3, 4] [1, 2, 5, 6] rfl rfl (by decide) (by decide) (fun H locs hP hD hS => ?_)
              have hP : va_P (dC, dI) vwCl [(x, .inr (0, [.ref f0, .ref f1, .ref h, .ref hp, .ref hs])), (f0, .inr (1, [.ref a0, .int (nI n0)])), (a0, .inl (cI, 255, .inl (nf v0))), (f1, .inr (1, [.ref a1, .int (nI (coC (unN B q) (13 * p9) 0))])), (a1, .inl (cI, 255, .inl (nf (coV v1 (unN B q) (coC (unN B q) (13 * p9) 0))))), (h, .inr (2, [.ref a])), (a, .inl (cI, 11, .inl (nf (cpN b B (q * 32) 11)))), (hp, .inr (3, [.ref ap])), (ap, .inl (cI, 32, .inl (nf pb))), (hs, .inr (4, [.ref as])), (as, .inl (cI, 1024, .inl (nf B)))] H := hP.sub [4, 0, 1, 9, 10, 2, 3, 5, 6, 7, 8] rfl
              have hD : va_D A [(x, .inr (0, [.ref f0, .ref f1, .ref h, .ref hp, .ref hs])), (f0, .inr (1, [.ref a0, .int (nI n0)])), (a0, .inl (cI, 255, .inl (nf v0))), (f1, .inr (1, [.ref a1, .int (nI (coC (unN B q) (13 * p9) 0))])), (a1, .inl (cI, 255, .inl (nf (coV v1 (unN B q) (coC (unN B q) (13 * p9) 0))))), (h, .inr (2, [.ref a])), (a, .inl (cI, 11, .inl (nf (cpN b B (q * 32) 11)))), (hp, .inr (3, [.ref ap])), (ap, .inl (cI, 32, .inl (nf pb))), (hs, .inr (4, [.ref as])), (as, .inl (cI, 1024, .inl (nf B)))] := hD.sub [4, 0, 1, 9, 10, 2, 3, 5, 6, 7, 8] (by decide) rfl
              refine lv_if_ne (tgt := 143) hx hb d_LN_read_125 (by decide) (fun c_7 => ?_) (fun c_7 => ?_)
              · skip
                rw [mk_ceq (by omega)] at c_7
                first | omega | contradiction
              · skip
                rw [mk_ceq (by omega)] at c_7
                refine lv_aload hx hb d_LN_read_128 (lv_at hl 0 rfl) ?_
                refine mk_w0 (wr := [(x, .inr (0, [.ref f0, .ref f1, .ref h, .ref hp, .ref hs])), (f0, .inr (1, [.ref a0, .int (nI n0)])), (a0, .inl (cI, 255, .inl (nf v0))), (h, .inr (2, [.ref a])), (a, .inl (cI, 11, .inl (nf (cpN b B (q * 32) 11)))), (hp, .inr (3, [.ref ap])), (ap, .inl (cI, 32, .inl (nf pb))), (hs, .inr (4, [.ref as])), (as, .inl (cI, 1024, .inl (nf B)))]) (W.runV (As := []) (rest := []) S ((c_Ro_empty l dC dI cI f1 a1 (coC (unN B q) (13 * p9) 0) (coV v1 (unN B q) (coC (unN B q) (13 * p9) 0))) _) (gV 0 hts k_128 k_129 k_130 k_25 k_131 (by decide +kernel) ⟨Nat.le_of_ble_eq_true rfl, Nat.le_of_ble_eq_true rfl⟩) (mk_vM hP hD hK hT hS hA [3, 4] rfl rfl (by decide) (q0 := 3) (ci := 1) rfl rfl) rfl rfl hl.1 rfl (lv_room (Nat.le_of_ble_eq_true rfl)) d_LN_read_130 ⟨Nat.zero_le _, Nat.zero_le _⟩) hP hD hS hA [3, 4] [0, 1, 2, 5, 6, 7, 8, 9, 10] rfl rfl (by decide) (by decide) (fun H locs hP hD hS => ?_)
                have hP : va_P (dC, dI) vwCl [(x, .inr (0, [.ref f0, .ref f1, .ref h, .ref hp, .ref hs])), (f0, .inr (1, [.ref a0, .int (nI n0)])), (a0, .inl (cI, 255, .inl (nf v0))), (f1, .inr (1, [.ref a1, .int (nI 0)])), (a1, .inl (cI, 255, .inl (nf (coV v1 (unN B q) (coC (unN B q) (13 * p9) 0))))), (h, .inr (2, [.ref a])), (a, .inl (cI, 11, .inl (nf (cpN b B (q * 32) 11)))), (hp, .inr (3, [.ref ap])), (ap, .inl (cI, 32, .inl (nf pb))), (hs, .inr (4, [.ref as])), (as, .inl (cI, 1024, .inl (nf B)))] H := hP.sub [0, 1, 2, 9, 10, 3, 4, 5, 6, 7, 8] rfl
                have hD : va_D A [(x, .inr (0, [.ref f0, .ref f1, .ref h, .ref hp, .ref hs])), (f0, .inr (1, [.ref a0, .int (nI n0)])), (a0, .inl (cI, 255, .inl (nf v0))), (f1, .inr (1, [.ref a1, .int (nI 0)])), (a1, .inl (cI, 255, .inl (nf (coV v1 (unN B q) (coC (unN B q) (13 * p9) 0))))), (h, .inr (2, [.ref a])), (a, .inl (cI, 11, .inl (nf (cpN b B (q * 32) 11)))), (hp, .inr (3, [.ref ap])), (ap, .inl (cI, 32, .inl (nf pb))), (hs, .inr (4, [.ref as])), (as, .inl (cI, 1024, .inl (nf B)))] := hD.sub [0, 1, 2, 9, 10, 3, 4, 5, 6, 7, 8] (by decide) rfl
                obtain ⟨q9, hq9⟩ := hT.str (133, "the parts are not those of the entry") (by decide)
                exact hthr 133 _ _ _ 121 133 125 "the parts are not those of the entry" q9 hl.1 d_LN_read_133 d_LN_read_136 d_LN_read_137 d_LN_read_139 d_LN_read_142 (List.mem_cons_of_mem _ k_474) (List.mem_cons_of_mem _ k_475) (List.mem_cons_of_mem _ k_37) (fun z hz => List.mem_cons_of_mem _ (th_in_IllegalStateException z hz)) th_ok_IllegalStateException hq9 hP hD hS
            · skip
              rw [mk_ceq (by omega)] at c_6
              first | omega | contradiction
          · skip
            have c_5 := bI_0 c_5
            rw [h1] at c_5; exact absurd c_5 (by decide)
        · skip
          rw [nI_leI (by omega) (by omega)] at c_4
          first | omega | contradiction
    · skip
      rw [nI_leI (by omega) (by omega)] at c_2
      first | omega | contradiction

set_option maxHeartbeats 1000000 in
set_option maxRecDepth 100000 in
theorem x_readR21 (l : Launch) (dC : Nat → ClassId) (dI : Nat → Nat → Nat) (cI : ClassId) (x f0 a0 n0 : Nat) (v0 : Nat → Nat) (f1 a1 n1 : Nat) (v1 : Nat → Nat) (h a : Nat) (b : Nat → Nat) (hp ap : Nat) (pb : Nat → Nat) (hs as : Nat) (B : Nat → Nat) (q p9 : Nat) (hn0 : n0 ≤ 255) (hv0 : ∀ j, v0 j < 65536) (hn1 : n1 ≤ 255) (hv1 : ∀ j, v1 j < 65536) (hb9 : ∀ j, b j < 65536) (hpb : ∀ j, pb j < 65536) (hB : ∀ j, B j < 256) (h1 : valN (cpN b B (q * 32) 11) = true) (hq : q < 32) (hp7 : 1 ≤ p9 ∧ p9 ≤ 20 ∧ p9 ≤ q) (h3 : nameN (coV v1 (unN B q) (coC (unN B q) (13 * p9) 0)) (coC (unN B q) (13 * p9) 0) = true) (h4 : ¬ pnN (coC (unN B q) (13 * p9) 0) = p9) (htr : l.stackTraces = false) : mT l y_LN_read w_LN_read ({ frames := 6, cells := 1, slots := 6, locals := 137 } : Room) [.ref x, .int (nI 1), .int (nI q), .int (nI p9)] (dC, dI) vwCl [(cI, .int)] [(x, .inr (0, [.ref f0, .ref f1, .ref h, .ref hp, .ref hs])), (f0, .inr (1, [.ref a0, .int (nI n0)])), (a0, .inl (cI, 255, .inl (nf v0))), (f1, .inr (1, [.ref a1, .int (nI n1)])), (a1, .inl (cI, 255, .inl (nf v1))), (h, .inr (2, [.ref a])), (a, .inl (cI, 11, .inl (nf b))), (hp, .inr (3, [.ref ap])), (ap, .inl (cI, 32, .inl (nf pb))), (hs, .inr (4, [.ref as])), (as, .inl (cI, 1024, .inl (nf B)))] "java/lang/IllegalStateException" [(x, .inr (0, [.ref f0, .ref f1, .ref h, .ref hp, .ref hs])), (f0, .inr (1, [.ref a0, .int (nI n0)])), (a0, .inl (cI, 255, .inl (nf v0))), (f1, .inr (1, [.ref a1, .int (nI 0)])), (a1, .inl (cI, 255, .inl (nf (coV v1 (unN B q) (coC (unN B q) (13 * p9) 0))))), (h, .inr (2, [.ref a])), (a, .inl (cI, 11, .inl (nf (cpN b B (q * 32) 11)))), (hp, .inr (3, [.ref ap])), (ap, .inl (cI, 32, .inl (nf pb))), (hs, .inr (4, [.ref as])), (as, .inl (cI, 1024, .inl (nf B)))] := by
  have htb : ∀ j, (cpN b B (q * 32) 11) j < 65536 := cpN_lt hb9 hB
  refine mk_Th (cc := b_LN_read) (maxL := 5) (by decide) rfl (Nat.le_of_ble_eq_true rfl) (th_good _ rfl) htr (by decide +kernel) (by decide) (by decide) rfl rfl ?_
  intro p e s m below meth c Q A ls S hP hK hT hS hl hD hA hthr
  obtain ⟨hx, hb, hml, hown, hts⟩ := id S
  have hl : lv_has ls 5 [(0, .ref x), (1, .int (nI 1)), (2, .int (nI q)), (3, .int (nI p9))] := hl
  refine lv_aload_n hx hb d_LN_read_0 rfl (lv_at hl 0 rfl) ?_
  refine lv_iload_n hx hb d_LN_read_1 rfl (lv_at hl 1 rfl) ?_
  refine mk_r1 (W.runV (As := [.int (nI 1)]) (rest := []) S (c_LN_row1 l dC dI cI x f0 f1 h hp hs) (gV 1 hts k_111 k_113 k_0 k_24 k_114 (by decide +kernel) ⟨Nat.le_of_ble_eq_true rfl, Nat.le_of_ble_eq_true rfl⟩) (mk_vR hP hK hT hS [0] rfl (q0 := 0) (ci := 0) rfl rfl) rfl rfl hl.1 rfl (lv_room (Nat.le_of_ble_eq_true rfl)) d_LN_read_2 ⟨Nat.zero_le _, Nat.zero_le _⟩) ?_
  refine lv_astore (lv' := [(4, .ref f1), (0, .ref x), (1, .int (nI 1)), (2, .int (nI q)), (3, .int (nI p9))]) hx hb d_LN_read_5 hl (by decide) rfl (fun ls hl => ?_)
  refine lv_aload hx hb d_LN_read_7 (lv_at hl 0 rfl) ?_
  refine lv_ifnonnull (tgt := 22) hx hb d_LN_read_9 (by decide) ?_
  refine lv_aload hx hb d_LN_read_22 (lv_at hl 0 rfl) ?_
  refine mk_w0 (wr := [(x, .inr (0, [.ref f0, .ref f1, .ref h, .ref hp, .ref hs])), (f0, .inr (1, [.ref a0, .int (nI n0)])), (a0, .inl (cI, 255, .inl (nf v0))), (h, .inr (2, [.ref a])), (a, .inl (cI, 11, .inl (nf b))), (hp, .inr (3, [.ref ap])), (ap, .inl (cI, 32, .inl (nf pb))), (hs, .inr (4, [.ref as])), (as, .inl (cI, 1024, .inl (nf B)))]) (W.runV (As := []) (rest := []) S ((c_Ro_empty l dC dI cI f1 a1 n1 v1) _) (gV 0 hts k_128 k_129 k_130 k_25 k_131 (by decide +kernel) ⟨Nat.le_of_ble_eq_true rfl, Nat.le_of_ble_eq_true rfl⟩) (mk_vM hP hD hK hT hS hA [3, 4] rfl rfl (by decide) (q0 := 3) (ci := 1) rfl rfl) rfl rfl hl.1 rfl (lv_room (Nat.le_of_ble_eq_true rfl)) d_LN_read_24 ⟨Nat.zero_le _, Nat.zero_le _⟩) hP hD hS hA [3, 4] [0, 1, 2, 5, 6, 7, 8, 9, 10] rfl rfl (by decide) (by decide) (fun H locs hP hD hS => ?_)
  have hP : va_P (dC, dI) vwCl [(x, .inr (0, [.ref f0, .ref f1, .ref h, .ref hp, .ref hs])), (f0, .inr (1, [.ref a0, .int (nI n0)])), (a0, .inl (cI, 255, .inl (nf v0))), (f1, .inr (1, [.ref a1, .int (nI 0)])), (a1, .inl (cI, 255, .inl (nf v1))), (h, .inr (2, [.ref a])), (a, .inl (cI, 11, .inl (nf b))), (hp, .inr (3, [.ref ap])), (ap, .inl (cI, 32, .inl (nf pb))), (hs, .inr (4, [.ref as])), (as, .inl (cI, 1024, .inl (nf B)))] H := hP.sub [0, 1, 2, 9, 10, 3, 4, 5, 6, 7, 8] rfl
  have hD : va_D A [(x, .inr (0, [.ref f0, .ref f1, .ref h, .ref hp, .ref hs])), (f0, .inr (1, [.ref a0, .int (nI n0)])), (a0, .inl (cI, 255, .inl (nf v0))), (f1, .inr (1, [.ref a1, .int (nI 0)])), (a1, .inl (cI, 255, .inl (nf v1))), (h, .inr (2, [.ref a])), (a, .inl (cI, 11, .inl (nf b))), (hp, .inr (3, [.ref ap])), (ap, .inl (cI, 32, .inl (nf pb))), (hs, .inr (4, [.ref as])), (as, .inl (cI, 1024, .inl (nf B)))] := hD.sub [0, 1, 2, 9, 10, 3, 4, 5, 6, 7, 8] (by decide) rfl
  refine lv_iload_n hx hb d_LN_read_27 rfl (lv_at hl 4 rfl) ?_
  refine lv_if_lt (tgt := 37) hx hb d_LN_read_28 (by decide) (fun c_1 => ?_) (fun c_1 => ?_)
  · skip
    rw [mk_clt (by omega)] at c_1
    first | omega | contradiction
  · skip
    rw [mk_clt (by omega)] at c_1
    refine lv_iload_n hx hb d_LN_read_31 rfl (lv_at hl 4 rfl) ?_
    refine lv_bipush (v := nI 20) hx hb d_LN_read_32 (by decide) ?_
    refine lv_icmp_le (tgt := 47) hx hb d_LN_read_34 (by decide) (fun c_2 => ?_) (fun c_2 => ?_)
    · skip
      rw [nI_leI (by omega) (by omega)] at c_2
      refine lv_iload_n hx hb d_LN_read_47 rfl (lv_at hl 3 rfl) ?_
      refine mk_r1 (W.runS (As := [.int (nI q)]) (rest := []) S (c_Sl_isN l dC dI cI q (by first | assumption | omega)) (gS 1 hts k_221 k_207 k_28 k_208 (by decide +kernel) ⟨Nat.le_of_ble_eq_true rfl, Nat.le_of_ble_eq_true rfl⟩) (mk_sR hP hK hT hS [] rfl) rfl rfl hl.1 rfl (lv_room (Nat.le_of_ble_eq_true rfl)) d_LN_read_48 ⟨Nat.zero_le _, Nat.zero_le _⟩) ?_
      refine lv_if_eq (tgt := 59) hx hb d_LN_read_51 (by decide) (fun c_3 => ?_) (fun c_3 => ?_)
      · skip
        rw [mk_ceq (by omega)] at c_3
        first | omega | contradiction
      · skip
        rw [mk_ceq (by omega)] at c_3
        refine lv_iload_n hx hb d_LN_read_54 rfl (lv_at hl 4 rfl) ?_
        refine lv_iload_n hx hb d_LN_read_55 rfl (lv_at hl 3 rfl) ?_
        refine lv_icmp_le (tgt := 69) hx hb d_LN_read_56 (by decide) (fun c_4 => ?_) (fun c_4 => ?_)
        · skip
          rw [nI_leI (by omega) (by omega)] at c_4
          refine lv_aload_n hx hb d_LN_read_69 rfl (lv_at hl 1 rfl) ?_
          refine va_get (D := (dC, dI)) (ci := 0) (v := .ref h) (C := "LongNames") (T := F_LN) (N := 5) hx hb hts (iw_LN _) hown hK hP 0 rfl rfl 2 (by decide) (hts _ (List.mem_cons_of_mem _ k_93)) (fun _ h9 => h9) rfl d_LN_read_70 ?_
          refine lv_aload_n hx hb d_LN_read_73 rfl (lv_at hl 1 rfl) ?_
          refine va_get (D := (dC, dI)) (ci := 0) (v := .ref hs) (C := "LongNames") (T := F_LN) (N := 5) hx hb hts (iw_LN _) hown hK hP 0 rfl rfl 4 (by decide) (hts _ (List.mem_cons_of_mem _ k_95)) (fun _ h9 => h9) rfl d_LN_read_74 ?_
          refine lv_iload_n hx hb d_LN_read_77 rfl (lv_at hl 3 rfl) ?_
          refine mk_w0 (wr := [(x, .inr (0, [.ref f0, .ref f1, .ref h, .ref hp, .ref hs])), (f0, .inr (1, [.ref a0, .int (nI n0)])), (a0, .inl (cI, 255, .inl (nf v0))), (f1, .inr (1, [.ref a1, .int (nI 0)])), (a1, .inl (cI, 255, .inl (nf v1))), (hp, .inr (3, [.ref ap])), (ap, .inl (cI, 32, .inl (nf pb)))]) (W.runV (As := [.ref hs, .int (nI q)]) (rest := []) S ((c_Sn_take l dC dI cI h a b hs as B q (by first | assumption | omega) (by first | assumption | omega)) _) (gV 2 hts k_460 k_461 k_462 k_26 k_463 (by decide +kernel) ⟨Nat.le_of_ble_eq_true rfl, Nat.le_of_ble_eq_true rfl⟩) (mk_vM hP hD hK hT hS hA [5, 6, 9, 10] rfl rfl (by decide) (q0 := 5) (ci := 2) rfl rfl) rfl rfl hl.1 rfl (lv_room (Nat.le_of_ble_eq_true rfl)) d_LN_read_78 ⟨Nat.zero_le _, Nat.zero_le _⟩) hP hD hS hA [5, 6, 9, 10] [0, 1, 2, 3, 4, 7, 8] rfl rfl (by decide) (by decide) (fun H locs hP hD hS => ?_)
          have hP : va_P (dC, dI) vwCl [(x, .inr (0, [.ref f0, .ref f1, .ref h, .ref hp, .ref hs])), (f0, .inr (1, [.ref a0, .int (nI n0)])), (a0, .inl (cI, 255, .inl (nf v0))), (f1, .inr (1, [.ref a1, .int (nI 0)])), (a1, .inl (cI, 255, .inl (nf v1))), (h, .inr (2, [.ref a])), (a, .inl (cI, 11, .inl (nf (cpN b B (q * 32) 11)))), (hp, .inr (3, [.ref ap])), (ap, .inl (cI, 32, .inl (nf pb))), (hs, .inr (4, [.ref as])), (as, .inl (cI, 1024, .inl (nf B)))] H := hP.sub [0, 1, 2, 3, 4, 7, 8, 5, 6, 9, 10] rfl
          have hD : va_D A [(x, .inr (0, [.ref f0, .ref f1, .ref h, .ref hp, .ref hs])), (f0, .inr (1, [.ref a0, .int (nI n0)])), (a0, .inl (cI, 255, .inl (nf v0))), (f1, .inr (1, [.ref a1, .int (nI 0)])), (a1, .inl (cI, 255, .inl (nf v1))), (h, .inr (2, [.ref a])), (a, .inl (cI, 11, .inl (nf (cpN b B (q * 32) 11)))), (hp, .inr (3, [.ref ap])), (ap, .inl (cI, 32, .inl (nf pb))), (hs, .inr (4, [.ref as])), (as, .inl (cI, 1024, .inl (nf B)))] := hD.sub [0, 1, 2, 3, 4, 7, 8, 5, 6, 9, 10] (by decide) rfl
          refine lv_aload_n hx hb d_LN_read_81 rfl (lv_at hl 1 rfl) ?_
          refine va_get (D := (dC, dI)) (ci := 0) (v := .ref h) (C := "LongNames") (T := F_LN) (N := 5) hx hb hts (iw_LN _) hown hK hP 0 rfl rfl 2 (by decide) (hts _ (List.mem_cons_of_mem _ k_93)) (fun _ h9 => h9) rfl d_LN_read_82 ?_
          refine mk_r1 (W.runV (As := []) (rest := []) S (c_Sn_valid l dC dI cI h a (cpN b B (q * 32) 11) (by first | assumption | omega)) (gV 0 hts k_465 k_466 k_467 k_26 k_468 (by decide +kernel) ⟨Nat.le_of_ble_eq_true rfl, Nat.le_of_ble_eq_true rfl⟩) (mk_vR hP hK hT hS [5, 6] rfl (q0 := 5) (ci := 2) rfl rfl) rfl rfl hl.1 rfl (lv_room (Nat.le_of_ble_eq_true rfl)) d_LN_read_85 ⟨Nat.zero_le _, Nat.zero_le _⟩) ?_
          refine lv_if_ne (tgt := 101) hx hb d_LN_read_88 (by decide) (fun c_5 => ?_) (fun c_5 => ?_)
          · skip
            have c_5 := bI_1 c_5
            refine lv_iload_n hx hb d_LN_read_101 rfl (lv_at hl 4 rfl) ?_
            refine lv_if_ne (tgt := 117) hx hb d_LN_read_102 (by decide) (fun c_6 => ?_) (fun c_6 => ?_)
            · skip
              rw [mk_ceq (by omega)] at c_6
              refine lv_aload_n hx hb d_LN_read_117 rfl (lv_at hl 1 rfl) ?_
              refine lv_aload hx hb d_LN_read_118 (lv_at hl 0 rfl) ?_
              refine lv_iload_n hx hb d_LN_read_120 rfl (lv_at hl 3 rfl) ?_
              refine lv_iload_n hx hb d_LN_read_121 rfl (lv_at hl 4 rfl) ?_
              refine mk_w1 (wr := [(f0, .inr (1, [.ref a0, .int (nI n0)])), (a0, .inl (cI, 255, .inl (nf v0))), (h, .inr (2, [.ref a])), (a, .inl (cI, 11, .inl (nf (cpN b B (q * 32) 11))))]) (W.runV (As := [.ref f1, .int (nI q), .int (nI p9)]) (rest := []) S ((c_LN_rp2 l dC dI cI x f0 f1 h hp ap pb hs as B f1 a1 v1 q p9 (by first | assumption | omega) (by first | assumption | omega) (by first | assumption | omega) (by first | assumption | omega) (by first | assumption | omega) (by first | assumption | omega) (by first | assumption | omega) (by first | assumption | omega)) _) (gV 3 hts k_499 k_501 k_11 k_24 k_502 (by decide +kernel) ⟨Nat.le_of_ble_eq_true rfl, Nat.le_of_ble_eq_true rfl⟩) (mk_vM hP hD hK hT hS hA [0, 7, 8, 9, 10, 3, 4] rfl rfl (by decide) (q0 := 0) (ci := 0) rfl rfl) rfl rfl hl.1 rfl (lv_room (Nat.le_of_ble_eq_true rfl)) d_LN_read_122 ⟨Nat.zero_le _, Nat.zero_le _⟩) hP hD hS hA [0, 7, 8, 9, 10, 3, 4] [1, 2, 5, 6] rfl rfl (by decide) (by decide) (fun H locs hP hD hS => ?_)
              have hP : va_P (dC, dI) vwCl [(x, .inr (0, [.ref f0, .ref f1, .ref h, .ref hp, .ref hs])), (f0, .inr (1, [.ref a0, .int (nI n0)])), (a0, .inl (cI, 255, .inl (nf v0))), (f1, .inr (1, [.ref a1, .int (nI (coC (unN B q) (13 * p9) 0))])), (a1, .inl (cI, 255, .inl (nf (coV v1 (unN B q) (coC (unN B q) (13 * p9) 0))))), (h, .inr (2, [.ref a])), (a, .inl (cI, 11, .inl (nf (cpN b B (q * 32) 11)))), (hp, .inr (3, [.ref ap])), (ap, .inl (cI, 32, .inl (nf pb))), (hs, .inr (4, [.ref as])), (as, .inl (cI, 1024, .inl (nf B)))] H := hP.sub [4, 0, 1, 9, 10, 2, 3, 5, 6, 7, 8] rfl
              have hD : va_D A [(x, .inr (0, [.ref f0, .ref f1, .ref h, .ref hp, .ref hs])), (f0, .inr (1, [.ref a0, .int (nI n0)])), (a0, .inl (cI, 255, .inl (nf v0))), (f1, .inr (1, [.ref a1, .int (nI (coC (unN B q) (13 * p9) 0))])), (a1, .inl (cI, 255, .inl (nf (coV v1 (unN B q) (coC (unN B q) (13 * p9) 0))))), (h, .inr (2, [.ref a])), (a, .inl (cI, 11, .inl (nf (cpN b B (q * 32) 11)))), (hp, .inr (3, [.ref ap])), (ap, .inl (cI, 32, .inl (nf pb))), (hs, .inr (4, [.ref as])), (as, .inl (cI, 1024, .inl (nf B)))] := hD.sub [4, 0, 1, 9, 10, 2, 3, 5, 6, 7, 8] (by decide) rfl
              refine lv_if_ne (tgt := 143) hx hb d_LN_read_125 (by decide) (fun c_7 => ?_) (fun c_7 => ?_)
              · skip
                rw [mk_ceq (by omega)] at c_7
                first | omega | contradiction
              · skip
                rw [mk_ceq (by omega)] at c_7
                refine lv_aload hx hb d_LN_read_128 (lv_at hl 0 rfl) ?_
                refine mk_w0 (wr := [(x, .inr (0, [.ref f0, .ref f1, .ref h, .ref hp, .ref hs])), (f0, .inr (1, [.ref a0, .int (nI n0)])), (a0, .inl (cI, 255, .inl (nf v0))), (h, .inr (2, [.ref a])), (a, .inl (cI, 11, .inl (nf (cpN b B (q * 32) 11)))), (hp, .inr (3, [.ref ap])), (ap, .inl (cI, 32, .inl (nf pb))), (hs, .inr (4, [.ref as])), (as, .inl (cI, 1024, .inl (nf B)))]) (W.runV (As := []) (rest := []) S ((c_Ro_empty l dC dI cI f1 a1 (coC (unN B q) (13 * p9) 0) (coV v1 (unN B q) (coC (unN B q) (13 * p9) 0))) _) (gV 0 hts k_128 k_129 k_130 k_25 k_131 (by decide +kernel) ⟨Nat.le_of_ble_eq_true rfl, Nat.le_of_ble_eq_true rfl⟩) (mk_vM hP hD hK hT hS hA [3, 4] rfl rfl (by decide) (q0 := 3) (ci := 1) rfl rfl) rfl rfl hl.1 rfl (lv_room (Nat.le_of_ble_eq_true rfl)) d_LN_read_130 ⟨Nat.zero_le _, Nat.zero_le _⟩) hP hD hS hA [3, 4] [0, 1, 2, 5, 6, 7, 8, 9, 10] rfl rfl (by decide) (by decide) (fun H locs hP hD hS => ?_)
                have hP : va_P (dC, dI) vwCl [(x, .inr (0, [.ref f0, .ref f1, .ref h, .ref hp, .ref hs])), (f0, .inr (1, [.ref a0, .int (nI n0)])), (a0, .inl (cI, 255, .inl (nf v0))), (f1, .inr (1, [.ref a1, .int (nI 0)])), (a1, .inl (cI, 255, .inl (nf (coV v1 (unN B q) (coC (unN B q) (13 * p9) 0))))), (h, .inr (2, [.ref a])), (a, .inl (cI, 11, .inl (nf (cpN b B (q * 32) 11)))), (hp, .inr (3, [.ref ap])), (ap, .inl (cI, 32, .inl (nf pb))), (hs, .inr (4, [.ref as])), (as, .inl (cI, 1024, .inl (nf B)))] H := hP.sub [0, 1, 2, 9, 10, 3, 4, 5, 6, 7, 8] rfl
                have hD : va_D A [(x, .inr (0, [.ref f0, .ref f1, .ref h, .ref hp, .ref hs])), (f0, .inr (1, [.ref a0, .int (nI n0)])), (a0, .inl (cI, 255, .inl (nf v0))), (f1, .inr (1, [.ref a1, .int (nI 0)])), (a1, .inl (cI, 255, .inl (nf (coV v1 (unN B q) (coC (unN B q) (13 * p9) 0))))), (h, .inr (2, [.ref a])), (a, .inl (cI, 11, .inl (nf (cpN b B (q * 32) 11)))), (hp, .inr (3, [.ref ap])), (ap, .inl (cI, 32, .inl (nf pb))), (hs, .inr (4, [.ref as])), (as, .inl (cI, 1024, .inl (nf B)))] := hD.sub [0, 1, 2, 9, 10, 3, 4, 5, 6, 7, 8] (by decide) rfl
                obtain ⟨q9, hq9⟩ := hT.str (133, "the parts are not those of the entry") (by decide)
                exact hthr 133 _ _ _ 121 133 125 "the parts are not those of the entry" q9 hl.1 d_LN_read_133 d_LN_read_136 d_LN_read_137 d_LN_read_139 d_LN_read_142 (List.mem_cons_of_mem _ k_474) (List.mem_cons_of_mem _ k_475) (List.mem_cons_of_mem _ k_37) (fun z hz => List.mem_cons_of_mem _ (th_in_IllegalStateException z hz)) th_ok_IllegalStateException hq9 hP hD hS
            · skip
              rw [mk_ceq (by omega)] at c_6
              first | omega | contradiction
          · skip
            have c_5 := bI_0 c_5
            rw [h1] at c_5; exact absurd c_5 (by decide)
        · skip
          rw [nI_leI (by omega) (by omega)] at c_4
          first | omega | contradiction
    · skip
      rw [nI_leI (by omega) (by omega)] at c_2
      first | omega | contradiction

set_option maxHeartbeats 1000000 in
set_option maxRecDepth 100000 in
theorem x_readR31 (l : Launch) (dC : Nat → ClassId) (dI : Nat → Nat → Nat) (cI : ClassId) (x f0 a0 n0 : Nat) (v0 : Nat → Nat) (f1 a1 n1 : Nat) (v1 : Nat → Nat) (h a : Nat) (b : Nat → Nat) (hp ap : Nat) (pb : Nat → Nat) (hs as : Nat) (B : Nat → Nat) (q p9 : Nat) (hn0 : n0 ≤ 255) (hv0 : ∀ j, v0 j < 65536) (hn1 : n1 ≤ 255) (hv1 : ∀ j, v1 j < 65536) (hb9 : ∀ j, b j < 65536) (hpb : ∀ j, pb j < 65536) (hB : ∀ j, B j < 256) (h1 : valN (cpN b B (q * 32) 11) = true) (hq : q < 32) (hp7 : 1 ≤ p9 ∧ p9 ≤ 20 ∧ p9 ≤ q) (h3 : nameN (coV v1 (unN B q) (coC (unN B q) (13 * p9) 0)) (coC (unN B q) (13 * p9) 0) = true) (h4 : pnN (coC (unN B q) (13 * p9) 0) = p9) (h5 : rpR (coV v1 (unN B q) (coC (unN B q) (13 * p9) 0)) (coC (unN B q) (13 * p9) 0) (suN B (q * 32) 11) q pb B p9 0 = false) (htr : l.stackTraces = false) : mT l y_LN_read w_LN_read ({ frames := 6, cells := 1, slots := 6, locals := 137 } : Room) [.ref x, .int (nI 1), .int (nI q), .int (nI p9)] (dC, dI) vwCl [(cI, .int)] [(x, .inr (0, [.ref f0, .ref f1, .ref h, .ref hp, .ref hs])), (f0, .inr (1, [.ref a0, .int (nI n0)])), (a0, .inl (cI, 255, .inl (nf v0))), (f1, .inr (1, [.ref a1, .int (nI n1)])), (a1, .inl (cI, 255, .inl (nf v1))), (h, .inr (2, [.ref a])), (a, .inl (cI, 11, .inl (nf b))), (hp, .inr (3, [.ref ap])), (ap, .inl (cI, 32, .inl (nf pb))), (hs, .inr (4, [.ref as])), (as, .inl (cI, 1024, .inl (nf B)))] "java/lang/IllegalStateException" [(x, .inr (0, [.ref f0, .ref f1, .ref h, .ref hp, .ref hs])), (f0, .inr (1, [.ref a0, .int (nI n0)])), (a0, .inl (cI, 255, .inl (nf v0))), (f1, .inr (1, [.ref a1, .int (nI 0)])), (a1, .inl (cI, 255, .inl (nf (coV v1 (unN B q) (coC (unN B q) (13 * p9) 0))))), (h, .inr (2, [.ref a])), (a, .inl (cI, 11, .inl (nf (cpN b B (q * 32) 11)))), (hp, .inr (3, [.ref ap])), (ap, .inl (cI, 32, .inl (nf (wpB (coV v1 (unN B q) (coC (unN B q) (13 * p9) 0)) (coC (unN B q) (13 * p9) 0) (suN B (q * 32) 11) pb (rpK (coV v1 (unN B q) (coC (unN B q) (13 * p9) 0)) (coC (unN B q) (13 * p9) 0) (suN B (q * 32) 11) q pb B p9 0))))), (hs, .inr (4, [.ref as])), (as, .inl (cI, 1024, .inl (nf B)))] := by
  have htb : ∀ j, (cpN b B (q * 32) 11) j < 65536 := cpN_lt hb9 hB
  refine mk_Th (cc := b_LN_read) (maxL := 5) (by decide) rfl (Nat.le_of_ble_eq_true rfl) (th_good _ rfl) htr (by decide +kernel) (by decide) (by decide) rfl rfl ?_
  intro p e s m below meth c Q A ls S hP hK hT hS hl hD hA hthr
  obtain ⟨hx, hb, hml, hown, hts⟩ := id S
  have hl : lv_has ls 5 [(0, .ref x), (1, .int (nI 1)), (2, .int (nI q)), (3, .int (nI p9))] := hl
  refine lv_aload_n hx hb d_LN_read_0 rfl (lv_at hl 0 rfl) ?_
  refine lv_iload_n hx hb d_LN_read_1 rfl (lv_at hl 1 rfl) ?_
  refine mk_r1 (W.runV (As := [.int (nI 1)]) (rest := []) S (c_LN_row1 l dC dI cI x f0 f1 h hp hs) (gV 1 hts k_111 k_113 k_0 k_24 k_114 (by decide +kernel) ⟨Nat.le_of_ble_eq_true rfl, Nat.le_of_ble_eq_true rfl⟩) (mk_vR hP hK hT hS [0] rfl (q0 := 0) (ci := 0) rfl rfl) rfl rfl hl.1 rfl (lv_room (Nat.le_of_ble_eq_true rfl)) d_LN_read_2 ⟨Nat.zero_le _, Nat.zero_le _⟩) ?_
  refine lv_astore (lv' := [(4, .ref f1), (0, .ref x), (1, .int (nI 1)), (2, .int (nI q)), (3, .int (nI p9))]) hx hb d_LN_read_5 hl (by decide) rfl (fun ls hl => ?_)
  refine lv_aload hx hb d_LN_read_7 (lv_at hl 0 rfl) ?_
  refine lv_ifnonnull (tgt := 22) hx hb d_LN_read_9 (by decide) ?_
  refine lv_aload hx hb d_LN_read_22 (lv_at hl 0 rfl) ?_
  refine mk_w0 (wr := [(x, .inr (0, [.ref f0, .ref f1, .ref h, .ref hp, .ref hs])), (f0, .inr (1, [.ref a0, .int (nI n0)])), (a0, .inl (cI, 255, .inl (nf v0))), (h, .inr (2, [.ref a])), (a, .inl (cI, 11, .inl (nf b))), (hp, .inr (3, [.ref ap])), (ap, .inl (cI, 32, .inl (nf pb))), (hs, .inr (4, [.ref as])), (as, .inl (cI, 1024, .inl (nf B)))]) (W.runV (As := []) (rest := []) S ((c_Ro_empty l dC dI cI f1 a1 n1 v1) _) (gV 0 hts k_128 k_129 k_130 k_25 k_131 (by decide +kernel) ⟨Nat.le_of_ble_eq_true rfl, Nat.le_of_ble_eq_true rfl⟩) (mk_vM hP hD hK hT hS hA [3, 4] rfl rfl (by decide) (q0 := 3) (ci := 1) rfl rfl) rfl rfl hl.1 rfl (lv_room (Nat.le_of_ble_eq_true rfl)) d_LN_read_24 ⟨Nat.zero_le _, Nat.zero_le _⟩) hP hD hS hA [3, 4] [0, 1, 2, 5, 6, 7, 8, 9, 10] rfl rfl (by decide) (by decide) (fun H locs hP hD hS => ?_)
  have hP : va_P (dC, dI) vwCl [(x, .inr (0, [.ref f0, .ref f1, .ref h, .ref hp, .ref hs])), (f0, .inr (1, [.ref a0, .int (nI n0)])), (a0, .inl (cI, 255, .inl (nf v0))), (f1, .inr (1, [.ref a1, .int (nI 0)])), (a1, .inl (cI, 255, .inl (nf v1))), (h, .inr (2, [.ref a])), (a, .inl (cI, 11, .inl (nf b))), (hp, .inr (3, [.ref ap])), (ap, .inl (cI, 32, .inl (nf pb))), (hs, .inr (4, [.ref as])), (as, .inl (cI, 1024, .inl (nf B)))] H := hP.sub [0, 1, 2, 9, 10, 3, 4, 5, 6, 7, 8] rfl
  have hD : va_D A [(x, .inr (0, [.ref f0, .ref f1, .ref h, .ref hp, .ref hs])), (f0, .inr (1, [.ref a0, .int (nI n0)])), (a0, .inl (cI, 255, .inl (nf v0))), (f1, .inr (1, [.ref a1, .int (nI 0)])), (a1, .inl (cI, 255, .inl (nf v1))), (h, .inr (2, [.ref a])), (a, .inl (cI, 11, .inl (nf b))), (hp, .inr (3, [.ref ap])), (ap, .inl (cI, 32, .inl (nf pb))), (hs, .inr (4, [.ref as])), (as, .inl (cI, 1024, .inl (nf B)))] := hD.sub [0, 1, 2, 9, 10, 3, 4, 5, 6, 7, 8] (by decide) rfl
  refine lv_iload_n hx hb d_LN_read_27 rfl (lv_at hl 4 rfl) ?_
  refine lv_if_lt (tgt := 37) hx hb d_LN_read_28 (by decide) (fun c_1 => ?_) (fun c_1 => ?_)
  · skip
    rw [mk_clt (by omega)] at c_1
    first | omega | contradiction
  · skip
    rw [mk_clt (by omega)] at c_1
    refine lv_iload_n hx hb d_LN_read_31 rfl (lv_at hl 4 rfl) ?_
    refine lv_bipush (v := nI 20) hx hb d_LN_read_32 (by decide) ?_
    refine lv_icmp_le (tgt := 47) hx hb d_LN_read_34 (by decide) (fun c_2 => ?_) (fun c_2 => ?_)
    · skip
      rw [nI_leI (by omega) (by omega)] at c_2
      refine lv_iload_n hx hb d_LN_read_47 rfl (lv_at hl 3 rfl) ?_
      refine mk_r1 (W.runS (As := [.int (nI q)]) (rest := []) S (c_Sl_isN l dC dI cI q (by first | assumption | omega)) (gS 1 hts k_221 k_207 k_28 k_208 (by decide +kernel) ⟨Nat.le_of_ble_eq_true rfl, Nat.le_of_ble_eq_true rfl⟩) (mk_sR hP hK hT hS [] rfl) rfl rfl hl.1 rfl (lv_room (Nat.le_of_ble_eq_true rfl)) d_LN_read_48 ⟨Nat.zero_le _, Nat.zero_le _⟩) ?_
      refine lv_if_eq (tgt := 59) hx hb d_LN_read_51 (by decide) (fun c_3 => ?_) (fun c_3 => ?_)
      · skip
        rw [mk_ceq (by omega)] at c_3
        first | omega | contradiction
      · skip
        rw [mk_ceq (by omega)] at c_3
        refine lv_iload_n hx hb d_LN_read_54 rfl (lv_at hl 4 rfl) ?_
        refine lv_iload_n hx hb d_LN_read_55 rfl (lv_at hl 3 rfl) ?_
        refine lv_icmp_le (tgt := 69) hx hb d_LN_read_56 (by decide) (fun c_4 => ?_) (fun c_4 => ?_)
        · skip
          rw [nI_leI (by omega) (by omega)] at c_4
          refine lv_aload_n hx hb d_LN_read_69 rfl (lv_at hl 1 rfl) ?_
          refine va_get (D := (dC, dI)) (ci := 0) (v := .ref h) (C := "LongNames") (T := F_LN) (N := 5) hx hb hts (iw_LN _) hown hK hP 0 rfl rfl 2 (by decide) (hts _ (List.mem_cons_of_mem _ k_93)) (fun _ h9 => h9) rfl d_LN_read_70 ?_
          refine lv_aload_n hx hb d_LN_read_73 rfl (lv_at hl 1 rfl) ?_
          refine va_get (D := (dC, dI)) (ci := 0) (v := .ref hs) (C := "LongNames") (T := F_LN) (N := 5) hx hb hts (iw_LN _) hown hK hP 0 rfl rfl 4 (by decide) (hts _ (List.mem_cons_of_mem _ k_95)) (fun _ h9 => h9) rfl d_LN_read_74 ?_
          refine lv_iload_n hx hb d_LN_read_77 rfl (lv_at hl 3 rfl) ?_
          refine mk_w0 (wr := [(x, .inr (0, [.ref f0, .ref f1, .ref h, .ref hp, .ref hs])), (f0, .inr (1, [.ref a0, .int (nI n0)])), (a0, .inl (cI, 255, .inl (nf v0))), (f1, .inr (1, [.ref a1, .int (nI 0)])), (a1, .inl (cI, 255, .inl (nf v1))), (hp, .inr (3, [.ref ap])), (ap, .inl (cI, 32, .inl (nf pb)))]) (W.runV (As := [.ref hs, .int (nI q)]) (rest := []) S ((c_Sn_take l dC dI cI h a b hs as B q (by first | assumption | omega) (by first | assumption | omega)) _) (gV 2 hts k_460 k_461 k_462 k_26 k_463 (by decide +kernel) ⟨Nat.le_of_ble_eq_true rfl, Nat.le_of_ble_eq_true rfl⟩) (mk_vM hP hD hK hT hS hA [5, 6, 9, 10] rfl rfl (by decide) (q0 := 5) (ci := 2) rfl rfl) rfl rfl hl.1 rfl (lv_room (Nat.le_of_ble_eq_true rfl)) d_LN_read_78 ⟨Nat.zero_le _, Nat.zero_le _⟩) hP hD hS hA [5, 6, 9, 10] [0, 1, 2, 3, 4, 7, 8] rfl rfl (by decide) (by decide) (fun H locs hP hD hS => ?_)
          have hP : va_P (dC, dI) vwCl [(x, .inr (0, [.ref f0, .ref f1, .ref h, .ref hp, .ref hs])), (f0, .inr (1, [.ref a0, .int (nI n0)])), (a0, .inl (cI, 255, .inl (nf v0))), (f1, .inr (1, [.ref a1, .int (nI 0)])), (a1, .inl (cI, 255, .inl (nf v1))), (h, .inr (2, [.ref a])), (a, .inl (cI, 11, .inl (nf (cpN b B (q * 32) 11)))), (hp, .inr (3, [.ref ap])), (ap, .inl (cI, 32, .inl (nf pb))), (hs, .inr (4, [.ref as])), (as, .inl (cI, 1024, .inl (nf B)))] H := hP.sub [0, 1, 2, 3, 4, 7, 8, 5, 6, 9, 10] rfl
          have hD : va_D A [(x, .inr (0, [.ref f0, .ref f1, .ref h, .ref hp, .ref hs])), (f0, .inr (1, [.ref a0, .int (nI n0)])), (a0, .inl (cI, 255, .inl (nf v0))), (f1, .inr (1, [.ref a1, .int (nI 0)])), (a1, .inl (cI, 255, .inl (nf v1))), (h, .inr (2, [.ref a])), (a, .inl (cI, 11, .inl (nf (cpN b B (q * 32) 11)))), (hp, .inr (3, [.ref ap])), (ap, .inl (cI, 32, .inl (nf pb))), (hs, .inr (4, [.ref as])), (as, .inl (cI, 1024, .inl (nf B)))] := hD.sub [0, 1, 2, 3, 4, 7, 8, 5, 6, 9, 10] (by decide) rfl
          refine lv_aload_n hx hb d_LN_read_81 rfl (lv_at hl 1 rfl) ?_
          refine va_get (D := (dC, dI)) (ci := 0) (v := .ref h) (C := "LongNames") (T := F_LN) (N := 5) hx hb hts (iw_LN _) hown hK hP 0 rfl rfl 2 (by decide) (hts _ (List.mem_cons_of_mem _ k_93)) (fun _ h9 => h9) rfl d_LN_read_82 ?_
          refine mk_r1 (W.runV (As := []) (rest := []) S (c_Sn_valid l dC dI cI h a (cpN b B (q * 32) 11) (by first | assumption | omega)) (gV 0 hts k_465 k_466 k_467 k_26 k_468 (by decide +kernel) ⟨Nat.le_of_ble_eq_true rfl, Nat.le_of_ble_eq_true rfl⟩) (mk_vR hP hK hT hS [5, 6] rfl (q0 := 5) (ci := 2) rfl rfl) rfl rfl hl.1 rfl (lv_room (Nat.le_of_ble_eq_true rfl)) d_LN_read_85 ⟨Nat.zero_le _, Nat.zero_le _⟩) ?_
          refine lv_if_ne (tgt := 101) hx hb d_LN_read_88 (by decide) (fun c_5 => ?_) (fun c_5 => ?_)
          · skip
            have c_5 := bI_1 c_5
            refine lv_iload_n hx hb d_LN_read_101 rfl (lv_at hl 4 rfl) ?_
            refine lv_if_ne (tgt := 117) hx hb d_LN_read_102 (by decide) (fun c_6 => ?_) (fun c_6 => ?_)
            · skip
              rw [mk_ceq (by omega)] at c_6
              refine lv_aload_n hx hb d_LN_read_117 rfl (lv_at hl 1 rfl) ?_
              refine lv_aload hx hb d_LN_read_118 (lv_at hl 0 rfl) ?_
              refine lv_iload_n hx hb d_LN_read_120 rfl (lv_at hl 3 rfl) ?_
              refine lv_iload_n hx hb d_LN_read_121 rfl (lv_at hl 4 rfl) ?_
              refine mk_w1 (wr := [(f0, .inr (1, [.ref a0, .int (nI n0)])), (a0, .inl (cI, 255, .inl (nf v0))), (h, .inr (2, [.ref a])), (a, .inl (cI, 11, .inl (nf (cpN b B (q * 32) 11))))]) (W.runV (As := [.ref f1, .int (nI q), .int (nI p9)]) (rest := []) S ((c_LN_rp3 l dC dI cI x f0 f1 h hp ap pb hs as B f1 a1 v1 q p9 (by first | assumption | omega) (by first | assumption | omega) (by first | assumption | omega) (by first | assumption | omega) (by first | assumption | omega) (by first | assumption | omega) (by first | assumption | omega) (by first | assumption | omega)) _) (gV 3 hts k_499 k_501 k_11 k_24 k_502 (by decide +kernel) ⟨Nat.le_of_ble_eq_true rfl, Nat.le_of_ble_eq_true rfl⟩) (mk_vM hP hD hK hT hS hA [0, 7, 8, 9, 10, 3, 4] rfl rfl (by decide) (q0 := 0) (ci := 0) rfl rfl) rfl rfl hl.1 rfl (lv_room (Nat.le_of_ble_eq_true rfl)) d_LN_read_122 ⟨Nat.zero_le _, Nat.zero_le _⟩) hP hD hS hA [0, 7, 8, 9, 10, 3, 4] [1, 2, 5, 6] rfl rfl (by decide) (by decide) (fun H locs hP hD hS => ?_)
              have hP : va_P (dC, dI) vwCl [(x, .inr (0, [.ref f0, .ref f1, .ref h, .ref hp, .ref hs])), (f0, .inr (1, [.ref a0, .int (nI n0)])), (a0, .inl (cI, 255, .inl (nf v0))), (f1, .inr (1, [.ref a1, .int (nI (coC (unN B q) (13 * p9) 0))])), (a1, .inl (cI, 255, .inl (nf (coV v1 (unN B q) (coC (unN B q) (13 * p9) 0))))), (h, .inr (2, [.ref a])), (a, .inl (cI, 11, .inl (nf (cpN b B (q * 32) 11)))), (hp, .inr (3, [.ref ap])), (ap, .inl (cI, 32, .inl (nf (wpB (coV v1 (unN B q) (coC (unN B q) (13 * p9) 0)) (coC (unN B q) (13 * p9) 0) (suN B (q * 32) 11) pb (rpK (coV v1 (unN B q) (coC (unN B q) (13 * p9) 0)) (coC (unN B q) (13 * p9) 0) (suN B (q * 32) 11) q pb B p9 0))))), (hs, .inr (4, [.ref as])), (as, .inl (cI, 1024, .inl (nf B)))] H := hP.sub [4, 0, 1, 9, 10, 2, 3, 5, 6, 7, 8] rfl
              have hD : va_D A [(x, .inr (0, [.ref f0, .ref f1, .ref h, .ref hp, .ref hs])), (f0, .inr (1, [.ref a0, .int (nI n0)])), (a0, .inl (cI, 255, .inl (nf v0))), (f1, .inr (1, [.ref a1, .int (nI (coC (unN B q) (13 * p9) 0))])), (a1, .inl (cI, 255, .inl (nf (coV v1 (unN B q) (coC (unN B q) (13 * p9) 0))))), (h, .inr (2, [.ref a])), (a, .inl (cI, 11, .inl (nf (cpN b B (q * 32) 11)))), (hp, .inr (3, [.ref ap])), (ap, .inl (cI, 32, .inl (nf (wpB (coV v1 (unN B q) (coC (unN B q) (13 * p9) 0)) (coC (unN B q) (13 * p9) 0) (suN B (q * 32) 11) pb (rpK (coV v1 (unN B q) (coC (unN B q) (13 * p9) 0)) (coC (unN B q) (13 * p9) 0) (suN B (q * 32) 11) q pb B p9 0))))), (hs, .inr (4, [.ref as])), (as, .inl (cI, 1024, .inl (nf B)))] := hD.sub [4, 0, 1, 9, 10, 2, 3, 5, 6, 7, 8] (by decide) rfl
              refine lv_if_ne (tgt := 143) hx hb d_LN_read_125 (by decide) (fun c_7 => ?_) (fun c_7 => ?_)
              · skip
                have c_7 := bI_1 c_7
                rw [h5] at c_7; exact absurd c_7 (by decide)
              · skip
                have c_7 := bI_0 c_7
                refine lv_aload hx hb d_LN_read_128 (lv_at hl 0 rfl) ?_
                refine mk_w0 (wr := [(x, .inr (0, [.ref f0, .ref f1, .ref h, .ref hp, .ref hs])), (f0, .inr (1, [.ref a0, .int (nI n0)])), (a0, .inl (cI, 255, .inl (nf v0))), (h, .inr (2, [.ref a])), (a, .inl (cI, 11, .inl (nf (cpN b B (q * 32) 11)))), (hp, .inr (3, [.ref ap])), (ap, .inl (cI, 32, .inl (nf (wpB (coV v1 (unN B q) (coC (unN B q) (13 * p9) 0)) (coC (unN B q) (13 * p9) 0) (suN B (q * 32) 11) pb (rpK (coV v1 (unN B q) (coC (unN B q) (13 * p9) 0)) (coC (unN B q) (13 * p9) 0) (suN B (q * 32) 11) q pb B p9 0))))), (hs, .inr (4, [.ref as])), (as, .inl (cI, 1024, .inl (nf B)))]) (W.runV (As := []) (rest := []) S ((c_Ro_empty l dC dI cI f1 a1 (coC (unN B q) (13 * p9) 0) (coV v1 (unN B q) (coC (unN B q) (13 * p9) 0))) _) (gV 0 hts k_128 k_129 k_130 k_25 k_131 (by decide +kernel) ⟨Nat.le_of_ble_eq_true rfl, Nat.le_of_ble_eq_true rfl⟩) (mk_vM hP hD hK hT hS hA [3, 4] rfl rfl (by decide) (q0 := 3) (ci := 1) rfl rfl) rfl rfl hl.1 rfl (lv_room (Nat.le_of_ble_eq_true rfl)) d_LN_read_130 ⟨Nat.zero_le _, Nat.zero_le _⟩) hP hD hS hA [3, 4] [0, 1, 2, 5, 6, 7, 8, 9, 10] rfl rfl (by decide) (by decide) (fun H locs hP hD hS => ?_)
                have hP : va_P (dC, dI) vwCl [(x, .inr (0, [.ref f0, .ref f1, .ref h, .ref hp, .ref hs])), (f0, .inr (1, [.ref a0, .int (nI n0)])), (a0, .inl (cI, 255, .inl (nf v0))), (f1, .inr (1, [.ref a1, .int (nI 0)])), (a1, .inl (cI, 255, .inl (nf (coV v1 (unN B q) (coC (unN B q) (13 * p9) 0))))), (h, .inr (2, [.ref a])), (a, .inl (cI, 11, .inl (nf (cpN b B (q * 32) 11)))), (hp, .inr (3, [.ref ap])), (ap, .inl (cI, 32, .inl (nf (wpB (coV v1 (unN B q) (coC (unN B q) (13 * p9) 0)) (coC (unN B q) (13 * p9) 0) (suN B (q * 32) 11) pb (rpK (coV v1 (unN B q) (coC (unN B q) (13 * p9) 0)) (coC (unN B q) (13 * p9) 0) (suN B (q * 32) 11) q pb B p9 0))))), (hs, .inr (4, [.ref as])), (as, .inl (cI, 1024, .inl (nf B)))] H := hP.sub [0, 1, 2, 9, 10, 3, 4, 5, 6, 7, 8] rfl
                have hD : va_D A [(x, .inr (0, [.ref f0, .ref f1, .ref h, .ref hp, .ref hs])), (f0, .inr (1, [.ref a0, .int (nI n0)])), (a0, .inl (cI, 255, .inl (nf v0))), (f1, .inr (1, [.ref a1, .int (nI 0)])), (a1, .inl (cI, 255, .inl (nf (coV v1 (unN B q) (coC (unN B q) (13 * p9) 0))))), (h, .inr (2, [.ref a])), (a, .inl (cI, 11, .inl (nf (cpN b B (q * 32) 11)))), (hp, .inr (3, [.ref ap])), (ap, .inl (cI, 32, .inl (nf (wpB (coV v1 (unN B q) (coC (unN B q) (13 * p9) 0)) (coC (unN B q) (13 * p9) 0) (suN B (q * 32) 11) pb (rpK (coV v1 (unN B q) (coC (unN B q) (13 * p9) 0)) (coC (unN B q) (13 * p9) 0) (suN B (q * 32) 11) q pb B p9 0))))), (hs, .inr (4, [.ref as])), (as, .inl (cI, 1024, .inl (nf B)))] := hD.sub [0, 1, 2, 9, 10, 3, 4, 5, 6, 7, 8] (by decide) rfl
                obtain ⟨q9, hq9⟩ := hT.str (133, "the parts are not those of the entry") (by decide)
                exact hthr 133 _ _ _ 121 133 125 "the parts are not those of the entry" q9 hl.1 d_LN_read_133 d_LN_read_136 d_LN_read_137 d_LN_read_139 d_LN_read_142 (List.mem_cons_of_mem _ k_474) (List.mem_cons_of_mem _ k_475) (List.mem_cons_of_mem _ k_37) (fun z hz => List.mem_cons_of_mem _ (th_in_IllegalStateException z hz)) th_ok_IllegalStateException hq9 hP hD hS
            · skip
              rw [mk_ceq (by omega)] at c_6
              first | omega | contradiction
          · skip
            have c_5 := bI_0 c_5
            rw [h1] at c_5; exact absurd c_5 (by decide)
        · skip
          rw [nI_leI (by omega) (by omega)] at c_4
          first | omega | contradiction
    · skip
      rw [nI_leI (by omega) (by omega)] at c_2
      first | omega | contradiction

