set_option maxHeartbeats 4000000 in
set_option maxRecDepth 100000 in
theorem lc_write {p : Program} {l : Launch} {e : Env} {s : State} {m : MethodId} {below : List Frame} {meth : Method} {c : Code} {dC : Nat → ClassId} {dI : Nat → Nat → Nat} {cI cL : ClassId} {sa L : Nat} {xs : Nat → Int32} {Q : State → Prop} {ad am : Nat → Nat} {o i cells slots : Nat} {n0 : Nat} {v0 : Nat → Nat} {n1 : Nat} {v1 b pb B : Nat → Nat} {th : Int32} {U Z bm : Nat → Nat} {g : Nat → Int64} {H : Heap} {locs : List Loc} {ls : Array Slot} (hH : lH p l s m c dC dI cI cL sa L xs) (hi : i + 4 ≤ L) (hL : L ≤ 2048) (hce : cells + 1 ≤ 1050) (hsl : slots + 6 ≤ 11388) (hI : lwI n0 v0 n1 v1 b pb B U Z bm) (hP : va_P (dC, dI) vwCl (wL cI ad n0 v0 n1 v1 b pb B ++ (wM cI am th U Z B bm ++ wO cL o g)) H) (hD : va_D (lA s) (wL cI ad n0 v0 n1 v1 b pb B ++ (wM cI am th U Z B bm ++ wO cL o g))) (hS : va_S (lA s) s.heap H locs) (hl : lv_has ls 7 [(0, .ref sa), (1, .ref (ad 0)), (2, .ref (am 0)), (3, .ref o), (4, .int (nI i))]) (kk : lK p l e s m below meth c dC dI cI cL ad am o sa i cells slots Q) : W p l e room_1 s m #[Value.ref sa] below meth c H locs cells slots Q (F0 m 245 ls []) := by
  obtain ⟨S, hX, hbl, hK, hT, hN, htr⟩ := hH
  obtain ⟨hx, hb, hml, hown, hts⟩ := id S
  have hA : ∀ q : Nat, s.heap.size ≤ q → lA s q := fun _ h => h
  have hbA : ¬ lA s sa := Nat.not_le.mpr hbl
  have hK1 := hK.sub (tys' := [(cI, .int)]) [0] rfl
  have hws : ∀ w ∈ w_La_write, ∀ (a' : Array Value) (V : State), s.WarmedH V.vm → w.before a' V = true := pay_in hts (g_in (fun x hx => (List.mem_cons.mp hx).elim (fun e9 => e9 ▸ k_279) id))
  refine lv_aload_n hx hb d_la_245 rfl (lv_at hl 1 rfl) ?_
  refine lv_aload_n hx hb d_la_246 rfl (lv_at hl 0 rfl) ?_
  refine lv_iload hx hb d_la_247 (lv_at hl 4 rfl) ?_
  refine lv_iconst (v := nI 1) hx hb d_la_249 (by decide) ?_
  refine lv_iadd hx hb d_la_250 ?_
  refine mk_ti (y := nI (i + 1)) (nI_add i 1) ?_
  refine va_sld hx hb hX hbl hbA hS (vp_in_nI (by omega) (by omega)) d_la_251 ?_
  refine mk_ti (y := xs (i + 1)) (by rw [nI_clamp (by omega)]) ?_
  refine lv_aload_n hx hb d_la_252 rfl (lv_at hl 0 rfl) ?_
  refine lv_iload hx hb d_la_253 (lv_at hl 4 rfl) ?_
  refine lv_iconst (v := nI 2) hx hb d_la_255 (by decide) ?_
  refine lv_iadd hx hb d_la_256 ?_
  refine mk_ti (y := nI (i + 2)) (nI_add i 2) ?_
  refine va_sld hx hb hX hbl hbA hS (vp_in_nI (by omega) (by omega)) d_la_257 ?_
  refine mk_ti (y := xs (i + 2)) (by rw [nI_clamp (by omega)]) ?_
  refine lv_aload_n hx hb d_la_258 rfl (lv_at hl 0 rfl) ?_
  refine lv_iload hx hb d_la_259 (lv_at hl 4 rfl) ?_
  refine lv_iconst (v := nI 3) hx hb d_la_261 (by decide) ?_
  refine lv_iadd hx hb d_la_262 ?_
  refine mk_ti (y := nI (i + 3)) (nI_add i 3) ?_
  refine va_sld hx hb hX hbl hbA hS (vp_in_nI (by omega) (by omega)) d_la_263 ?_
  refine mk_ti (y := xs (i + 3)) (by rw [nI_clamp (by omega)]) ?_
  refine lv_aload_n hx hb d_la_264 rfl (lv_at hl 3 rfl) ?_
  rcases o_write l dC dI cI ad am th hI htr (xs (i + 1)) (xs (i + 2)) (xs (i + 3)) with ⟨r, n0', v0', n1', v1', b', pb', B', hC, ⟨rm2, hF2, hLc2, hc2, hs2, hM2⟩⟩ | ⟨X, k, n0', v0', n1', v1', b', pb', B', hXk, hC, ⟨rm2, hF2, hLc2, hc2, hs2, hM2⟩⟩
  · refine mk_g1 (wr := wM cI am th U Z B bm) (mk_sW (As := [.ref (ad 0), .int (xs (i + 1)), .int (xs (i + 2)), .int (xs (i + 3)), .ref o]) (rest := []) (bytes := b_La_write) (maxL := 6) (ret := some .int) (hh := [(0, 12, 15, 13), (0, 12, 19, 15)]) (n := 5) S ((c_La_write l dC dI cI cL ad o g (xs (i + 1)) (xs (i + 2)) (xs (i + 3)) r hC) H.size) rfl rfl (Nat.le_of_ble_eq_true rfl) (Nat.le_of_ble_eq_true rfl) hws List.mem_cons_self (hts _ (List.mem_cons_of_mem _ k_279)) (hts _ (List.mem_cons_of_mem _ k_23)) (hts _ (List.mem_cons_of_mem _ k_277)) (hts _ (List.mem_cons_of_mem _ k_278)) (by decide +kernel) ⟨mk_bW, fun V hV hW => ⟨rfl, ((mk_sM (As := [.ref (ad 0), .int (xs (i + 1)), .int (xs (i + 2)), .int (xs (i + 3)), .ref o]) hP hD hK hT hS hA [0, 1, 2, 3, 4, 5, 6, 7, 8, 9, 10, 16] rfl rfl (by decide)).2 V hV hW).2, nc_X.moved hW.alike hN⟩⟩ rfl rfl hl.1 rfl (lv_room (Nat.le_of_ble_eq_true rfl)) d_la_265 ⟨by show _ ≤ 1050; omega, by show _ ≤ 11388; omega⟩) hP hD hS hA [0, 1, 2, 3, 4, 5, 6, 7, 8, 9, 10, 16] [11, 12, 13, 14, 15] rfl rfl (by decide) (by decide) (fun v w1 H locs hΦ hP hD hS => ?_)
    obtain ⟨rfl, g', hg, rfl⟩ := hΦ
    refine lv_istore (lv' := [(5, .int (nI 0)), (0, .ref sa), (1, .ref (ad 0)), (2, .ref (am 0)), (3, .ref o), (4, .int (nI i))]) hx hb d_la_268 hl (by decide) rfl (fun ls hl => ?_)
    refine lv_aload_n hx hb d_la_270 rfl (lv_at hl 3 rfl) ?_
    refine lv_aload_n hx hb d_la_271 rfl (lv_at hl 1 rfl) ?_
    refine lv_iload hx hb d_la_272 (lv_at hl 5 rfl) ?_
    refine lv_iconst (v := nI 1) hx hb d_la_274 (by decide) ?_
    refine lv_iadd hx hb d_la_275 ?_
    refine mk_ti (y := nI (i + 1)) (nI_add i 1) ?_
    refine va_sld hx hb hX hbl hbA hS (vp_in_nI (by omega) (by omega)) d_la_276 ?_
    refine mk_ti (y := xs (i + 1)) (by rw [nI_clamp (by omega)]) ?_
    refine lv_aload_n hx hb d_la_277 rfl (lv_at hl 1 rfl) ?_
    refine lv_iload hx hb d_la_278 (lv_at hl 5 rfl) ?_
    refine lv_iconst (v := nI 2) hx hb d_la_280 (by decide) ?_
    refine lv_iadd hx hb d_la_281 ?_
    refine mk_ti (y := nI (i + 2)) (nI_add i 2) ?_
    refine va_sld hx hb hX hbl hbA hS (vp_in_nI (by omega) (by omega)) d_la_282 ?_
    refine mk_ti (y := xs (i + 2)) (by rw [nI_clamp (by omega)]) ?_
    refine lv_aload_n hx hb d_la_283 rfl (lv_at hl 1 rfl) ?_
    refine lv_iload hx hb d_la_284 (lv_at hl 5 rfl) ?_
    refine lv_iconst (v := nI 3) hx hb d_la_286 (by decide) ?_
    refine lv_iadd hx hb d_la_287 ?_
    refine mk_ti (y := nI (i + 3)) (nI_add i 3) ?_
    refine va_sld hx hb hX hbl hbA hS (vp_in_nI (by omega) (by omega)) d_la_288 ?_
    refine mk_ti (y := xs (i + 3)) (by rw [nI_clamp (by omega)]) ?_
    refine mk_g1 (wr := wL cI ad n0' v0' n1' v1' b' pb' B' ++ wO cL o g') (W.runV (As := [.int (xs (i + 1)), .int (xs (i + 2)), .int (xs (i + 3))]) (rest := []) S (hM2 _) (gV 3 hts k_600 k_601 k_602 k_29 k_603 (by decide +kernel) ⟨by show rm2.frames + 1 ≤ 10; omega, by show 8 + (12 + 11) + rm2.locals ≤ 372; omega⟩ hc2 hs2) (mk_vM hP hD hK1 hT hS hA [0, 1, 2, 3, 4] rfl rfl (by decide) (q0 := 0) (ci := 5) rfl rfl) rfl rfl hl.1 rfl (lv_room (Nat.le_of_ble_eq_true rfl)) d_la_289 ⟨by show _ ≤ 1050; omega, by show _ ≤ 11388; omega⟩) hP hD hS hA [0, 1, 2, 3, 4] [5, 6, 7, 8, 9, 10, 11, 12, 13, 14, 15, 16] rfl rfl (by decide) (by decide) (fun v w1 H locs hΦ hP hD hS => ?_)
    obtain ⟨rfl, U', Z', bm', rfl, hI'⟩ := hΦ
    refine lv_istore (lv' := (6, .int r) :: [(5, .int (nI 0)), (0, .ref sa), (1, .ref (ad 0)), (2, .ref (am 0)), (3, .ref o), (4, .int (nI i))]) hx hb d_la_292 hl (by decide) rfl (fun ls hl => ?_)
    refine lv_aload_n hx hb d_la_294 rfl (lv_at hl 4 rfl) ?_
    refine mk_r1 (W.runV (As := []) (rest := []) S (c_La_thrown l dC dI cI am (nI 0) U' Z' B' bm') (gV 0 hts k_538 k_539 k_540 k_29 k_541 (by decide +kernel) ⟨(Nat.le_of_ble_eq_true rfl), (Nat.le_of_ble_eq_true rfl)⟩) (mk_vR hP hK1 hT hS [12, 13, 14, 15, 16] rfl (q0 := 12) (ci := 5) rfl rfl) rfl rfl hl.1 rfl (lv_room (Nat.le_of_ble_eq_true rfl)) d_la_295 ⟨by show _ ≤ 1050; omega, by show _ ≤ 11388; omega⟩) ?_
    refine lv_iload hx hb d_la_298 (lv_at hl 1 rfl) ?_
    refine lv_icmp_eq (tgt := 305) hx hb d_la_300 (by decide) (fun _ => ?_) (fun h9 => absurd rfl h9)
    refine lv_iload hx hb d_la_305 (lv_at hl 1 rfl) ?_
    refine lv_if_ne (tgt := 322) hx hb d_la_307 (by decide) (fun h9 => absurd nI_0 h9) (fun _ => ?_)
    refine lv_aload_n hx hb d_la_310 rfl (lv_at hl 5 rfl) ?_
    refine lv_iconst (v := nI 0) hx hb d_la_311 (by decide) ?_
    refine va_lald hx hb hK hP 11 1 rfl rfl (vp_in_nI (N := 1) (by decide) (by decide)) d_la_312 ?_
    refine mk_tl (y := r.toInt64) (by rw [nI_clamp (by decide)]; exact hg) ?_
    refine lv_iload hx hb d_la_313 (lv_at hl 0 rfl) ?_
    refine lv_i2l (v := r.toInt64) hx hb d_la_315 rfl ?_
    refine W.lcmp hx hb d_la_316 ?_
    refine lv_if_eq (tgt := 322) hx hb d_la_317 (by decide) (fun _ => ?_) (fun h9 => absurd (by simp [lg_cmp]) h9)
    refine lv_goto (tgt := 554) hx hb d_la_322 (by decide) ?_
    exact kk n0' v0' n1' v1' b' pb' B' (nI 0) U' Z' bm' g' _ _ _ hI' (hP.sub [0, 1, 2, 3, 4, 5, 6, 7, 8, 9, 10, 12, 13, 14, 15, 16, 11] rfl) (hD.sub [0, 1, 2, 3, 4, 5, 6, 7, 8, 9, 10, 12, 13, 14, 15, 16, 11] (by decide) rfl) hS (lv_sub hl [2, 3, 4, 5, 6] rfl)
  · refine mk_g1 (wr := wM cI am th U Z B bm) (mk_sW (As := [.ref (ad 0), .int (xs (i + 1)), .int (xs (i + 2)), .int (xs (i + 3)), .ref o]) (rest := []) (bytes := b_La_write) (maxL := 6) (ret := some .int) (hh := [(0, 12, 15, 13), (0, 12, 19, 15)]) (n := 5) S ((x_La_write l dC dI cI cL ad o g (xs (i + 1)) (xs (i + 2)) (xs (i + 3)) X k hXk hC) H.size) rfl rfl (Nat.le_of_ble_eq_true rfl) (Nat.le_of_ble_eq_true rfl) hws List.mem_cons_self (hts _ (List.mem_cons_of_mem _ k_279)) (hts _ (List.mem_cons_of_mem _ k_23)) (hts _ (List.mem_cons_of_mem _ k_277)) (hts _ (List.mem_cons_of_mem _ k_278)) (by decide +kernel) ⟨mk_bW, fun V hV hW => ⟨rfl, ((mk_sM (As := [.ref (ad 0), .int (xs (i + 1)), .int (xs (i + 2)), .int (xs (i + 3)), .ref o]) hP hD hK hT hS hA [0, 1, 2, 3, 4, 5, 6, 7, 8, 9, 10, 16] rfl rfl (by decide)).2 V hV hW).2, nc_X.moved hW.alike hN⟩⟩ rfl rfl hl.1 rfl (lv_room (Nat.le_of_ble_eq_true rfl)) d_la_265 ⟨by show _ ≤ 1050; omega, by show _ ≤ 11388; omega⟩) hP hD hS hA [0, 1, 2, 3, 4, 5, 6, 7, 8, 9, 10, 16] [11, 12, 13, 14, 15] rfl rfl (by decide) (by decide) (fun v w1 H locs hΦ hP hD hS => ?_)
    obtain ⟨rfl, rfl⟩ := hΦ
    refine lv_istore (lv' := [(5, .int (nI k)), (0, .ref sa), (1, .ref (ad 0)), (2, .ref (am 0)), (3, .ref o), (4, .int (nI i))]) hx hb d_la_268 hl (by decide) rfl (fun ls hl => ?_)
    refine lv_aload_n hx hb d_la_270 rfl (lv_at hl 3 rfl) ?_
    refine lv_aload_n hx hb d_la_271 rfl (lv_at hl 1 rfl) ?_
    refine lv_iload hx hb d_la_272 (lv_at hl 5 rfl) ?_
    refine lv_iconst (v := nI 1) hx hb d_la_274 (by decide) ?_
    refine lv_iadd hx hb d_la_275 ?_
    refine mk_ti (y := nI (i + 1)) (nI_add i 1) ?_
    refine va_sld hx hb hX hbl hbA hS (vp_in_nI (by omega) (by omega)) d_la_276 ?_
    refine mk_ti (y := xs (i + 1)) (by rw [nI_clamp (by omega)]) ?_
    refine lv_aload_n hx hb d_la_277 rfl (lv_at hl 1 rfl) ?_
    refine lv_iload hx hb d_la_278 (lv_at hl 5 rfl) ?_
    refine lv_iconst (v := nI 2) hx hb d_la_280 (by decide) ?_
    refine lv_iadd hx hb d_la_281 ?_
    refine mk_ti (y := nI (i + 2)) (nI_add i 2) ?_
    refine va_sld hx hb hX hbl hbA hS (vp_in_nI (by omega) (by omega)) d_la_282 ?_
    refine mk_ti (y := xs (i + 2)) (by rw [nI_clamp (by omega)]) ?_
    refine lv_aload_n hx hb d_la_283 rfl (lv_at hl 1 rfl) ?_
    refine lv_iload hx hb d_la_284 (lv_at hl 5 rfl) ?_
    refine lv_iconst (v := nI 3) hx hb d_la_286 (by decide) ?_
    refine lv_iadd hx hb d_la_287 ?_
    refine mk_ti (y := nI (i + 3)) (nI_add i 3) ?_
    refine va_sld hx hb hX hbl hbA hS (vp_in_nI (by omega) (by omega)) d_la_288 ?_
    refine mk_ti (y := xs (i + 3)) (by rw [nI_clamp (by omega)]) ?_
    refine mk_g1 (wr := wL cI ad n0' v0' n1' v1' b' pb' B' ++ wO cL o g) (W.runV (As := [.int (xs (i + 1)), .int (xs (i + 2)), .int (xs (i + 3))]) (rest := []) S (hM2 _) (gV 3 hts k_600 k_601 k_602 k_29 k_603 (by decide +kernel) ⟨by show rm2.frames + 1 ≤ 10; omega, by show 8 + (12 + 11) + rm2.locals ≤ 372; omega⟩ hc2 hs2) (mk_vM hP hD hK1 hT hS hA [0, 1, 2, 3, 4] rfl rfl (by decide) (q0 := 0) (ci := 5) rfl rfl) rfl rfl hl.1 rfl (lv_room (Nat.le_of_ble_eq_true rfl)) d_la_289 ⟨by show _ ≤ 1050; omega, by show _ ≤ 11388; omega⟩) hP hD hS hA [0, 1, 2, 3, 4] [5, 6, 7, 8, 9, 10, 11, 12, 13, 14, 15, 16] rfl rfl (by decide) (by decide) (fun v w1 H locs hΦ hP hD hS => ?_)
    obtain ⟨⟨z, rfl⟩, U', Z', bm', rfl, hI'⟩ := hΦ
    refine lv_istore (lv' := (6, .int z) :: [(5, .int (nI k)), (0, .ref sa), (1, .ref (ad 0)), (2, .ref (am 0)), (3, .ref o), (4, .int (nI i))]) hx hb d_la_292 hl (by decide) rfl (fun ls hl => ?_)
    refine lv_aload_n hx hb d_la_294 rfl (lv_at hl 4 rfl) ?_
    refine mk_r1 (W.runV (As := []) (rest := []) S (c_La_thrown l dC dI cI am (nI k) U' Z' B' bm') (gV 0 hts k_538 k_539 k_540 k_29 k_541 (by decide +kernel) ⟨(Nat.le_of_ble_eq_true rfl), (Nat.le_of_ble_eq_true rfl)⟩) (mk_vR hP hK1 hT hS [12, 13, 14, 15, 16] rfl (q0 := 12) (ci := 5) rfl rfl) rfl rfl hl.1 rfl (lv_room (Nat.le_of_ble_eq_true rfl)) d_la_295 ⟨by show _ ≤ 1050; omega, by show _ ≤ 11388; omega⟩) ?_
    refine lv_iload hx hb d_la_298 (lv_at hl 1 rfl) ?_
    refine lv_icmp_eq (tgt := 305) hx hb d_la_300 (by decide) (fun _ => ?_) (fun h9 => absurd rfl h9)
    refine lv_iload hx hb d_la_305 (lv_at hl 1 rfl) ?_
    have hk : ¬ nI k = 0 := by
      simp only [List.mem_cons, Prod.mk.injEq, List.not_mem_nil, or_false] at hXk
      rcases hXk with ⟨-, rfl⟩ | ⟨-, rfl⟩ <;> decide
    refine lv_if_ne (tgt := 322) hx hb d_la_307 (by decide) (fun _ => ?_) (fun h9 => absurd h9 hk)
    refine lv_goto (tgt := 554) hx hb d_la_322 (by decide) ?_
    exact kk n0' v0' n1' v1' b' pb' B' (nI k) U' Z' bm' g _ _ _ hI' (hP.sub [0, 1, 2, 3, 4, 5, 6, 7, 8, 9, 10, 12, 13, 14, 15, 16, 11] rfl) (hD.sub [0, 1, 2, 3, 4, 5, 6, 7, 8, 9, 10, 12, 13, 14, 15, 16, 11] (by decide) rfl) hS (lv_sub hl [2, 3, 4, 5, 6] rfl)
set_option maxHeartbeats 4000000 in
set_option maxRecDepth 100000 in
theorem lc_read {p : Program} {l : Launch} {e : Env} {s : State} {m : MethodId} {below : List Frame} {meth : Method} {c : Code} {dC : Nat → ClassId} {dI : Nat → Nat → Nat} {cI cL : ClassId} {sa L : Nat} {xs : Nat → Int32} {Q : State → Prop} {ad am : Nat → Nat} {o i cells slots : Nat} {n0 : Nat} {v0 : Nat → Nat} {n1 : Nat} {v1 b pb B : Nat → Nat} {th : Int32} {U Z bm : Nat → Nat} {g : Nat → Int64} {H : Heap} {locs : List Loc} {ls : Array Slot} (hH : lH p l s m c dC dI cI cL sa L xs) (hi : i + 4 ≤ L) (hL : L ≤ 2048) (hce : cells + 1 ≤ 1050) (hsl : slots + 6 ≤ 11388) (hI : lwI n0 v0 n1 v1 b pb B U Z bm) (hP : va_P (dC, dI) vwCl (wL cI ad n0 v0 n1 v1 b pb B ++ (wM cI am th U Z B bm ++ wO cL o g)) H) (hD : va_D (lA s) (wL cI ad n0 v0 n1 v1 b pb B ++ (wM cI am th U Z B bm ++ wO cL o g))) (hS : va_S (lA s) s.heap H locs) (hl : lv_has ls 7 [(0, .ref sa), (1, .ref (ad 0)), (2, .ref (am 0)), (3, .ref o), (4, .int (nI i))]) (kk : lK p l e s m below meth c dC dI cI cL ad am o sa i cells slots Q) : W p l e room_1 s m #[Value.ref sa] below meth c H locs cells slots Q (F0 m 325 ls []) := by
  obtain ⟨S, hX, hbl, hK, hT, hN, htr⟩ := hH
  obtain ⟨hx, hb, hml, hown, hts⟩ := id S
  have hA : ∀ q : Nat, s.heap.size ≤ q → lA s q := fun _ h => h
  have hbA : ¬ lA s sa := Nat.not_le.mpr hbl
  have hK1 := hK.sub (tys' := [(cI, .int)]) [0] rfl
  have hws : ∀ w ∈ w_La_read, ∀ (a' : Array Value) (V : State), s.WarmedH V.vm → w.before a' V = true := pay_in hts (g_in (fun x hx => (List.mem_cons.mp hx).elim (fun e9 => e9 ▸ k_451) id))
  refine lv_aload_n hx hb d_la_325 rfl (lv_at hl 1 rfl) ?_
  refine lv_aload_n hx hb d_la_326 rfl (lv_at hl 0 rfl) ?_
  refine lv_iload hx hb d_la_327 (lv_at hl 4 rfl) ?_
  refine lv_iconst (v := nI 1) hx hb d_la_329 (by decide) ?_
  refine lv_iadd hx hb d_la_330 ?_
  refine mk_ti (y := nI (i + 1)) (nI_add i 1) ?_
  refine va_sld hx hb hX hbl hbA hS (vp_in_nI (by omega) (by omega)) d_la_331 ?_
  refine mk_ti (y := xs (i + 1)) (by rw [nI_clamp (by omega)]) ?_
  refine lv_aload_n hx hb d_la_332 rfl (lv_at hl 0 rfl) ?_
  refine lv_iload hx hb d_la_333 (lv_at hl 4 rfl) ?_
  refine lv_iconst (v := nI 2) hx hb d_la_335 (by decide) ?_
  refine lv_iadd hx hb d_la_336 ?_
  refine mk_ti (y := nI (i + 2)) (nI_add i 2) ?_
  refine va_sld hx hb hX hbl hbA hS (vp_in_nI (by omega) (by omega)) d_la_337 ?_
  refine mk_ti (y := xs (i + 2)) (by rw [nI_clamp (by omega)]) ?_
  refine lv_aload_n hx hb d_la_338 rfl (lv_at hl 0 rfl) ?_
  refine lv_iload hx hb d_la_339 (lv_at hl 4 rfl) ?_
  refine lv_iconst (v := nI 3) hx hb d_la_341 (by decide) ?_
  refine lv_iadd hx hb d_la_342 ?_
  refine mk_ti (y := nI (i + 3)) (nI_add i 3) ?_
  refine va_sld hx hb hX hbl hbA hS (vp_in_nI (by omega) (by omega)) d_la_343 ?_
  refine mk_ti (y := xs (i + 3)) (by rw [nI_clamp (by omega)]) ?_
  refine lv_aload_n hx hb d_la_344 rfl (lv_at hl 3 rfl) ?_
  rcases o_read l dC dI cI ad am th hI htr (xs (i + 1)) (xs (i + 2)) (xs (i + 3)) with ⟨r, n0', v0', n1', v1', b', pb', B', hC, ⟨rm2, hF2, hLc2, hc2, hs2, hM2⟩⟩ | ⟨X, k, n0', v0', n1', v1', b', pb', B', hXk, hC, ⟨rm2, hF2, hLc2, hc2, hs2, hM2⟩⟩
  · refine mk_g1 (wr := wM cI am th U Z B bm) (mk_sW (As := [.ref (ad 0), .int (xs (i + 1)), .int (xs (i + 2)), .int (xs (i + 3)), .ref o]) (rest := []) (bytes := b_La_read) (maxL := 6) (ret := some .int) (hh := [(0, 12, 15, 13), (0, 12, 19, 15), (0, 12, 23, 20)]) (n := 5) S ((c_La_read l dC dI cI cL ad o g (xs (i + 1)) (xs (i + 2)) (xs (i + 3)) r hC) H.size) rfl rfl (Nat.le_of_ble_eq_true rfl) (Nat.le_of_ble_eq_true rfl) hws List.mem_cons_self (hts _ (List.mem_cons_of_mem _ k_451)) (hts _ (List.mem_cons_of_mem _ k_23)) (hts _ (List.mem_cons_of_mem _ k_449)) (hts _ (List.mem_cons_of_mem _ k_450)) (by decide +kernel) ⟨mk_bW, fun V hV hW => ⟨rfl, ((mk_sM (As := [.ref (ad 0), .int (xs (i + 1)), .int (xs (i + 2)), .int (xs (i + 3)), .ref o]) hP hD hK hT hS hA [0, 1, 2, 3, 4, 5, 6, 7, 8, 9, 10, 16] rfl rfl (by decide)).2 V hV hW).2, nc_X.moved hW.alike hN⟩⟩ rfl rfl hl.1 rfl (lv_room (Nat.le_of_ble_eq_true rfl)) d_la_345 ⟨by show _ ≤ 1050; omega, by show _ ≤ 11388; omega⟩) hP hD hS hA [0, 1, 2, 3, 4, 5, 6, 7, 8, 9, 10, 16] [11, 12, 13, 14, 15] rfl rfl (by decide) (by decide) (fun v w1 H locs hΦ hP hD hS => ?_)
    obtain ⟨rfl, g', hg, rfl⟩ := hΦ
    refine lv_istore (lv' := [(5, .int (nI 0)), (0, .ref sa), (1, .ref (ad 0)), (2, .ref (am 0)), (3, .ref o), (4, .int (nI i))]) hx hb d_la_348 hl (by decide) rfl (fun ls hl => ?_)
    refine lv_aload_n hx hb d_la_350 rfl (lv_at hl 3 rfl) ?_
    refine lv_aload_n hx hb d_la_351 rfl (lv_at hl 1 rfl) ?_
    refine lv_iload hx hb d_la_352 (lv_at hl 5 rfl) ?_
    refine lv_iconst (v := nI 1) hx hb d_la_354 (by decide) ?_
    refine lv_iadd hx hb d_la_355 ?_
    refine mk_ti (y := nI (i + 1)) (nI_add i 1) ?_
    refine va_sld hx hb hX hbl hbA hS (vp_in_nI (by omega) (by omega)) d_la_356 ?_
    refine mk_ti (y := xs (i + 1)) (by rw [nI_clamp (by omega)]) ?_
    refine lv_aload_n hx hb d_la_357 rfl (lv_at hl 1 rfl) ?_
    refine lv_iload hx hb d_la_358 (lv_at hl 5 rfl) ?_
    refine lv_iconst (v := nI 2) hx hb d_la_360 (by decide) ?_
    refine lv_iadd hx hb d_la_361 ?_
    refine mk_ti (y := nI (i + 2)) (nI_add i 2) ?_
    refine va_sld hx hb hX hbl hbA hS (vp_in_nI (by omega) (by omega)) d_la_362 ?_
    refine mk_ti (y := xs (i + 2)) (by rw [nI_clamp (by omega)]) ?_
    refine lv_aload_n hx hb d_la_363 rfl (lv_at hl 1 rfl) ?_
    refine lv_iload hx hb d_la_364 (lv_at hl 5 rfl) ?_
    refine lv_iconst (v := nI 3) hx hb d_la_366 (by decide) ?_
    refine lv_iadd hx hb d_la_367 ?_
    refine mk_ti (y := nI (i + 3)) (nI_add i 3) ?_
    refine va_sld hx hb hX hbl hbA hS (vp_in_nI (by omega) (by omega)) d_la_368 ?_
    refine mk_ti (y := xs (i + 3)) (by rw [nI_clamp (by omega)]) ?_
    refine mk_g1 (wr := wL cI ad n0' v0' n1' v1' b' pb' B' ++ wO cL o g') (W.runV (As := [.int (xs (i + 1)), .int (xs (i + 2)), .int (xs (i + 3))]) (rest := []) S (hM2 _) (gV 3 hts k_621 k_622 k_623 k_29 k_624 (by decide +kernel) ⟨by show rm2.frames + 1 ≤ 10; omega, by show 8 + (6 + 11) + rm2.locals ≤ 372; omega⟩ hc2 hs2) (mk_vM hP hD hK1 hT hS hA [0, 1, 2, 3, 4] rfl rfl (by decide) (q0 := 0) (ci := 5) rfl rfl) rfl rfl hl.1 rfl (lv_room (Nat.le_of_ble_eq_true rfl)) d_la_369 ⟨by show _ ≤ 1050; omega, by show _ ≤ 11388; omega⟩) hP hD hS hA [0, 1, 2, 3, 4] [5, 6, 7, 8, 9, 10, 11, 12, 13, 14, 15, 16] rfl rfl (by decide) (by decide) (fun v w1 H locs hΦ hP hD hS => ?_)
    obtain ⟨rfl, U', Z', bm', rfl, hI'⟩ := hΦ
    refine lv_istore (lv' := (6, .int r) :: [(5, .int (nI 0)), (0, .ref sa), (1, .ref (ad 0)), (2, .ref (am 0)), (3, .ref o), (4, .int (nI i))]) hx hb d_la_372 hl (by decide) rfl (fun ls hl => ?_)
    refine lv_aload_n hx hb d_la_374 rfl (lv_at hl 4 rfl) ?_
    refine mk_r1 (W.runV (As := []) (rest := []) S (c_La_thrown l dC dI cI am (nI 0) U' Z' B' bm') (gV 0 hts k_538 k_539 k_540 k_29 k_541 (by decide +kernel) ⟨(Nat.le_of_ble_eq_true rfl), (Nat.le_of_ble_eq_true rfl)⟩) (mk_vR hP hK1 hT hS [12, 13, 14, 15, 16] rfl (q0 := 12) (ci := 5) rfl rfl) rfl rfl hl.1 rfl (lv_room (Nat.le_of_ble_eq_true rfl)) d_la_375 ⟨by show _ ≤ 1050; omega, by show _ ≤ 11388; omega⟩) ?_
    refine lv_iload hx hb d_la_378 (lv_at hl 1 rfl) ?_
    refine lv_icmp_eq (tgt := 385) hx hb d_la_380 (by decide) (fun _ => ?_) (fun h9 => absurd rfl h9)
    refine lv_iload hx hb d_la_385 (lv_at hl 1 rfl) ?_
    refine lv_if_ne (tgt := 402) hx hb d_la_387 (by decide) (fun h9 => absurd nI_0 h9) (fun _ => ?_)
    refine lv_aload_n hx hb d_la_390 rfl (lv_at hl 5 rfl) ?_
    refine lv_iconst (v := nI 0) hx hb d_la_391 (by decide) ?_
    refine va_lald hx hb hK hP 11 1 rfl rfl (vp_in_nI (N := 1) (by decide) (by decide)) d_la_392 ?_
    refine mk_tl (y := r.toInt64) (by rw [nI_clamp (by decide)]; exact hg) ?_
    refine lv_iload hx hb d_la_393 (lv_at hl 0 rfl) ?_
    refine lv_i2l (v := r.toInt64) hx hb d_la_395 rfl ?_
    refine W.lcmp hx hb d_la_396 ?_
    refine lv_if_eq (tgt := 402) hx hb d_la_397 (by decide) (fun _ => ?_) (fun h9 => absurd (by simp [lg_cmp]) h9)
    refine lv_goto (tgt := 554) hx hb d_la_402 (by decide) ?_
    exact kk n0' v0' n1' v1' b' pb' B' (nI 0) U' Z' bm' g' _ _ _ hI' (hP.sub [0, 1, 2, 3, 4, 5, 6, 7, 8, 9, 10, 12, 13, 14, 15, 16, 11] rfl) (hD.sub [0, 1, 2, 3, 4, 5, 6, 7, 8, 9, 10, 12, 13, 14, 15, 16, 11] (by decide) rfl) hS (lv_sub hl [2, 3, 4, 5, 6] rfl)
  · refine mk_g1 (wr := wM cI am th U Z B bm) (mk_sW (As := [.ref (ad 0), .int (xs (i + 1)), .int (xs (i + 2)), .int (xs (i + 3)), .ref o]) (rest := []) (bytes := b_La_read) (maxL := 6) (ret := some .int) (hh := [(0, 12, 15, 13), (0, 12, 19, 15), (0, 12, 23, 20)]) (n := 5) S ((x_La_read l dC dI cI cL ad o g (xs (i + 1)) (xs (i + 2)) (xs (i + 3)) X k hXk hC) H.size) rfl rfl (Nat.le_of_ble_eq_true rfl) (Nat.le_of_ble_eq_true rfl) hws List.mem_cons_self (hts _ (List.mem_cons_of_mem _ k_451)) (hts _ (List.mem_cons_of_mem _ k_23)) (hts _ (List.mem_cons_of_mem _ k_449)) (hts _ (List.mem_cons_of_mem _ k_450)) (by decide +kernel) ⟨mk_bW, fun V hV hW => ⟨rfl, ((mk_sM (As := [.ref (ad 0), .int (xs (i + 1)), .int (xs (i + 2)), .int (xs (i + 3)), .ref o]) hP hD hK hT hS hA [0, 1, 2, 3, 4, 5, 6, 7, 8, 9, 10, 16] rfl rfl (by decide)).2 V hV hW).2, nc_X.moved hW.alike hN⟩⟩ rfl rfl hl.1 rfl (lv_room (Nat.le_of_ble_eq_true rfl)) d_la_345 ⟨by show _ ≤ 1050; omega, by show _ ≤ 11388; omega⟩) hP hD hS hA [0, 1, 2, 3, 4, 5, 6, 7, 8, 9, 10, 16] [11, 12, 13, 14, 15] rfl rfl (by decide) (by decide) (fun v w1 H locs hΦ hP hD hS => ?_)
    obtain ⟨rfl, rfl⟩ := hΦ
    refine lv_istore (lv' := [(5, .int (nI k)), (0, .ref sa), (1, .ref (ad 0)), (2, .ref (am 0)), (3, .ref o), (4, .int (nI i))]) hx hb d_la_348 hl (by decide) rfl (fun ls hl => ?_)
    refine lv_aload_n hx hb d_la_350 rfl (lv_at hl 3 rfl) ?_
    refine lv_aload_n hx hb d_la_351 rfl (lv_at hl 1 rfl) ?_
    refine lv_iload hx hb d_la_352 (lv_at hl 5 rfl) ?_
    refine lv_iconst (v := nI 1) hx hb d_la_354 (by decide) ?_
    refine lv_iadd hx hb d_la_355 ?_
    refine mk_ti (y := nI (i + 1)) (nI_add i 1) ?_
    refine va_sld hx hb hX hbl hbA hS (vp_in_nI (by omega) (by omega)) d_la_356 ?_
    refine mk_ti (y := xs (i + 1)) (by rw [nI_clamp (by omega)]) ?_
    refine lv_aload_n hx hb d_la_357 rfl (lv_at hl 1 rfl) ?_
    refine lv_iload hx hb d_la_358 (lv_at hl 5 rfl) ?_
    refine lv_iconst (v := nI 2) hx hb d_la_360 (by decide) ?_
    refine lv_iadd hx hb d_la_361 ?_
    refine mk_ti (y := nI (i + 2)) (nI_add i 2) ?_
    refine va_sld hx hb hX hbl hbA hS (vp_in_nI (by omega) (by omega)) d_la_362 ?_
    refine mk_ti (y := xs (i + 2)) (by rw [nI_clamp (by omega)]) ?_
    refine lv_aload_n hx hb d_la_363 rfl (lv_at hl 1 rfl) ?_
    refine lv_iload hx hb d_la_364 (lv_at hl 5 rfl) ?_
    refine lv_iconst (v := nI 3) hx hb d_la_366 (by decide) ?_
    refine lv_iadd hx hb d_la_367 ?_
    refine mk_ti (y := nI (i + 3)) (nI_add i 3) ?_
    refine va_sld hx hb hX hbl hbA hS (vp_in_nI (by omega) (by omega)) d_la_368 ?_
    refine mk_ti (y := xs (i + 3)) (by rw [nI_clamp (by omega)]) ?_
    refine mk_g1 (wr := wL cI ad n0' v0' n1' v1' b' pb' B' ++ wO cL o g) (W.runV (As := [.int (xs (i + 1)), .int (xs (i + 2)), .int (xs (i + 3))]) (rest := []) S (hM2 _) (gV 3 hts k_621 k_622 k_623 k_29 k_624 (by decide +kernel) ⟨by show rm2.frames + 1 ≤ 10; omega, by show 8 + (6 + 11) + rm2.locals ≤ 372; omega⟩ hc2 hs2) (mk_vM hP hD hK1 hT hS hA [0, 1, 2, 3, 4] rfl rfl (by decide) (q0 := 0) (ci := 5) rfl rfl) rfl rfl hl.1 rfl (lv_room (Nat.le_of_ble_eq_true rfl)) d_la_369 ⟨by show _ ≤ 1050; omega, by show _ ≤ 11388; omega⟩) hP hD hS hA [0, 1, 2, 3, 4] [5, 6, 7, 8, 9, 10, 11, 12, 13, 14, 15, 16] rfl rfl (by decide) (by decide) (fun v w1 H locs hΦ hP hD hS => ?_)
    obtain ⟨⟨z, rfl⟩, U', Z', bm', rfl, hI'⟩ := hΦ
    refine lv_istore (lv' := (6, .int z) :: [(5, .int (nI k)), (0, .ref sa), (1, .ref (ad 0)), (2, .ref (am 0)), (3, .ref o), (4, .int (nI i))]) hx hb d_la_372 hl (by decide) rfl (fun ls hl => ?_)
    refine lv_aload_n hx hb d_la_374 rfl (lv_at hl 4 rfl) ?_
    refine mk_r1 (W.runV (As := []) (rest := []) S (c_La_thrown l dC dI cI am (nI k) U' Z' B' bm') (gV 0 hts k_538 k_539 k_540 k_29 k_541 (by decide +kernel) ⟨(Nat.le_of_ble_eq_true rfl), (Nat.le_of_ble_eq_true rfl)⟩) (mk_vR hP hK1 hT hS [12, 13, 14, 15, 16] rfl (q0 := 12) (ci := 5) rfl rfl) rfl rfl hl.1 rfl (lv_room (Nat.le_of_ble_eq_true rfl)) d_la_375 ⟨by show _ ≤ 1050; omega, by show _ ≤ 11388; omega⟩) ?_
    refine lv_iload hx hb d_la_378 (lv_at hl 1 rfl) ?_
    refine lv_icmp_eq (tgt := 385) hx hb d_la_380 (by decide) (fun _ => ?_) (fun h9 => absurd rfl h9)
    refine lv_iload hx hb d_la_385 (lv_at hl 1 rfl) ?_
    have hk : ¬ nI k = 0 := by
      simp only [List.mem_cons, Prod.mk.injEq, List.not_mem_nil, or_false] at hXk
      rcases hXk with ⟨-, rfl⟩ | ⟨-, rfl⟩ | ⟨-, rfl⟩ <;> decide
    refine lv_if_ne (tgt := 402) hx hb d_la_387 (by decide) (fun _ => ?_) (fun h9 => absurd h9 hk)
    refine lv_goto (tgt := 554) hx hb d_la_402 (by decide) ?_
    exact kk n0' v0' n1' v1' b' pb' B' (nI k) U' Z' bm' g _ _ _ hI' (hP.sub [0, 1, 2, 3, 4, 5, 6, 7, 8, 9, 10, 12, 13, 14, 15, 16, 11] rfl) (hD.sub [0, 1, 2, 3, 4, 5, 6, 7, 8, 9, 10, 12, 13, 14, 15, 16, 11] (by decide) rfl) hS (lv_sub hl [2, 3, 4, 5, 6] rfl)
