set_option maxHeartbeats 1000000 in
set_option maxRecDepth 100000 in
/-- the head of the loop -/
theorem law_head {p : Program} {l : Launch} {e : Env} {s : State} {m : MethodId} {below : List Frame} {meth : Method} {c : Code} {dC : Nat → ClassId} {dI : Nat → Nat → Nat} {cI cL : ClassId} {sa L : Nat} {xs : Nat → Int32} {ad am : Nat → Nat} {o i cells slots : Nat} {H : Heap} {locs : List Loc} {ls : Array Slot} (hH : lH p l s m c dC dI cI cL sa L xs) (hr : meth.sig.returnType = ret) (hlocks : meth.locks = false) (hL : L ≤ 2048) (hi : i ≤ 3000) (hce : cells ≤ 1050) (hsl : slots ≤ 11388) (hS : va_S (lA s) s.heap H locs) (hl : lv_has ls 7 [(0, .ref sa), (1, .ref (ad 0)), (2, .ref (am 0)), (3, .ref o), (4, .int (nI i))]) (kk : i + 4 ≤ L → W p l e room_1 s m #[Value.ref sa] below meth c H locs cells slots (lw_Z below #[Value.ref sa] s) (F0 m 32 ls [])) : W p l e room_1 s m #[Value.ref sa] below meth c H locs cells slots (lw_Z below #[Value.ref sa] s) (F0 m 23 ls []) := by
  obtain ⟨S, hX, hbl, hK, hT, hN, htr⟩ := hH
  obtain ⟨hx, hb, hml, hown, hts⟩ := id S
  have hA : ∀ q : Nat, s.heap.size ≤ q → lA s q := fun _ h => h
  have hbA : ¬ lA s sa := Nat.not_le.mpr hbl
  have hK1 := hK.sub (tys' := [(cI, .int)]) [0] rfl
  refine lv_iload hx hb d_la_23 (lv_at hl 4 rfl) ?_
  refine lv_aload_n hx hb d_la_25 rfl (lv_at hl 0 rfl) ?_
  refine va_slen hx hb hX hbl hbA hS d_la_26 ?_
  refine lv_iconst (v := nI 4) hx hb d_la_27 (by decide) ?_
  refine lv_isub hx hb d_la_28 ?_
  refine lv_icmp_gt (tgt := 560) hx hb d_la_29 (by decide) (fun h9 => ?_) (fun h9 => ?_)
  · refine lv_iconst (v := 1) hx hb d_la_560 (by decide) ?_
    refine va_forget (fun q hq => hS.2.2 q hq) ?_
    refine W.widen (k := 1050) (n := 11388) hce hsl ?_
    exact lw_ret hx hb hr hlocks d_la_561
  · refine kk ?_
    have h8 : ¬ (nI L - nI 4 < nI i) := h9
    rw [Int32.lt_iff_toInt_lt, pk_sub_toInt (by omega) (by decide), nI_toInt (by omega)] at h8
    omega
set_option maxHeartbeats 2000000 in
set_option maxRecDepth 100000 in
/-- one turn of the loop -/
theorem law_turn {p : Program} {l : Launch} {e : Env} {s : State} {m : MethodId} {below : List Frame} {meth : Method} {c : Code} {dC : Nat → ClassId} {dI : Nat → Nat → Nat} {cI cL : ClassId} {sa L : Nat} {xs : Nat → Int32} {Q : State → Prop} {ad am : Nat → Nat} {o i cells slots : Nat} {n0 : Nat} {v0 : Nat → Nat} {n1 : Nat} {v1 b pb B : Nat → Nat} {th : Int32} {U Z bm : Nat → Nat} {g : Nat → Int64} {H : Heap} {locs : List Loc} {ls : Array Slot} (hH : lH p l s m c dC dI cI cL sa L xs) (hi : i + 4 ≤ L) (hL : L ≤ 2048) (hce : cells + 1 ≤ 1050) (hsl : slots + 6 ≤ 11388) (hI : lwI n0 v0 n1 v1 b pb B U Z bm) (hP : va_P (dC, dI) vwCl (wL cI ad n0 v0 n1 v1 b pb B ++ (wM cI am th U Z B bm ++ wO cL o g)) H) (hD : va_D (lA s) (wL cI ad n0 v0 n1 v1 b pb B ++ (wM cI am th U Z B bm ++ wO cL o g))) (hS : va_S (lA s) s.heap H locs) (hl : lv_has ls 7 [(0, .ref sa), (1, .ref (ad 0)), (2, .ref (am 0)), (3, .ref o), (4, .int (nI i))]) (kk : lK p l e s m below meth c dC dI cI cL ad am o sa i cells slots Q) : W p l e room_1 s m #[Value.ref sa] below meth c H locs cells slots Q (F0 m 32 ls []) := by
  have hH0 := hH
  obtain ⟨S, hX, hbl, hK, hT, hN, htr⟩ := hH
  obtain ⟨hx, hb, hml, hown, hts⟩ := id S
  have hA : ∀ q : Nat, s.heap.size ≤ q → lA s q := fun _ h => h
  have hbA : ¬ lA s sa := Nat.not_le.mpr hbl
  have hK1 := hK.sub (tys' := [(cI, .int)]) [0] rfl
  refine lv_aload_n hx hb d_la_32 rfl (lv_at hl 0 rfl) ?_
  refine lv_iload hx hb d_la_33 (lv_at hl 4 rfl) ?_
  refine va_sld hx hb hX hbl hbA hS (vp_in_nI (by omega) (by omega)) d_la_35 ?_
  refine lv_bipush (v := nI 15) hx hb d_la_36 (by decide) ?_
  refine lv_iand hx hb d_la_38 ?_
  obtain ⟨j, hj, ej⟩ := pk_andE (xs (nI i).toNatClampNeg) (m := nI 15) 4 (by decide)
  refine mk_ti (y := nI j) ej ?_
  have hj : j < 16 := hj
  rcases (show j = 0 ∨ j = 1 ∨ j = 2 ∨ j = 3 ∨ j = 4 ∨ j = 5 ∨ j = 6 ∨ j = 7 ∨ j = 8 ∨ j = 9 ∨ j = 10 ∨ j = 11 ∨ j = 12 ∨ j = 13 ∨ j = 14 ∨ j = 15 by omega) with rfl | rfl | rfl | rfl | rfl | rfl | rfl | rfl | rfl | rfl | rfl | rfl | rfl | rfl | rfl | rfl
  · refine lv_tableIn (tgt := 96) (off := 57) hx hb d_la_39 (by decide) (by decide) (by rfl) (by decide) ?_
    exact lc_unit hH0 hi hL hce hsl hI hP hD hS hl kk
  · refine lv_tableIn (tgt := 133) (off := 94) hx hb d_la_39 (by decide) (by decide) (by rfl) (by decide) ?_
    exact lc_clear hH0 hi hL hce hsl hI hP hD hS hl kk
  · refine lv_tableIn (tgt := 158) (off := 119) hx hb d_la_39 (by decide) (by decide) (by rfl) (by decide) ?_
    exact lc_about hH0 hi hL hce hsl hI hP hD hS hl kk
  · refine lv_tableIn (tgt := 195) (off := 156) hx hb d_la_39 (by decide) (by decide) (by rfl) (by decide) ?_
    exact lc_letter hH0 hi hL hce hsl hI hP hD hS hl kk
  · refine lv_tableIn (tgt := 232) (off := 193) hx hb d_la_39 (by decide) (by decide) (by rfl) (by decide) ?_
    exact lc_alike hH0 hi hL hce hsl hI hP hD hS hl kk
  · refine lv_tableIn (tgt := 245) (off := 206) hx hb d_la_39 (by decide) (by decide) (by rfl) (by decide) ?_
    exact lc_write hH0 hi hL hce hsl hI hP hD hS hl kk
  · refine lv_tableIn (tgt := 325) (off := 286) hx hb d_la_39 (by decide) (by decide) (by rfl) (by decide) ?_
    exact lc_read hH0 hi hL hce hsl hI hP hD hS hl kk
  · refine lv_tableIn (tgt := 405) (off := 366) hx hb d_la_39 (by decide) (by decide) (by rfl) (by decide) ?_
    exact lc_poke hH0 hi hL hce hsl hI hP hD hS hl kk
  · refine lv_tableIn (tgt := 454) (off := 415) hx hb d_la_39 (by decide) (by decide) (by rfl) (by decide) ?_
    exact lc_byteAt hH0 hi hL hce hsl hI hP hD hS hl kk
  · refine lv_tableIn (tgt := 491) (off := 452) hx hb d_la_39 (by decide) (by decide) (by rfl) (by decide) ?_
    exact lc_sum hH0 hi hL hce hsl hI hP hD hS hl kk
  · refine lv_tableIn (tgt := 516) (off := 477) hx hb d_la_39 (by decide) (by decide) (by rfl) (by decide) ?_
    exact lc_seconds hH0 hi hL hce hsl hI hP hD hS hl kk
  · refine lv_tableOut (tgt := 554) hx hb d_la_39 (Or.inr (by decide)) (by decide) ?_
    refine W.widen (k := cells + 1) (n := slots + 6) (by omega) (by omega) ?_
    exact kk n0 v0 n1 v1 b pb B th U Z bm g _ _ _ hI hP hD hS hl
  · refine lv_tableOut (tgt := 554) hx hb d_la_39 (Or.inr (by decide)) (by decide) ?_
    refine W.widen (k := cells + 1) (n := slots + 6) (by omega) (by omega) ?_
    exact kk n0 v0 n1 v1 b pb B th U Z bm g _ _ _ hI hP hD hS hl
  · refine lv_tableOut (tgt := 554) hx hb d_la_39 (Or.inr (by decide)) (by decide) ?_
    refine W.widen (k := cells + 1) (n := slots + 6) (by omega) (by omega) ?_
    exact kk n0 v0 n1 v1 b pb B th U Z bm g _ _ _ hI hP hD hS hl
  · refine lv_tableOut (tgt := 554) hx hb d_la_39 (Or.inr (by decide)) (by decide) ?_
    refine W.widen (k := cells + 1) (n := slots + 6) (by omega) (by omega) ?_
    exact kk n0 v0 n1 v1 b pb B th U Z bm g _ _ _ hI hP hD hS hl
  · refine lv_tableOut (tgt := 554) hx hb d_la_39 (Or.inr (by decide)) (by decide) ?_
    refine W.widen (k := cells + 1) (n := slots + 6) (by omega) (by omega) ?_
    exact kk n0 v0 n1 v1 b pb B th U Z bm g _ _ _ hI hP hD hS hl
set_option maxHeartbeats 2000000 in
set_option maxRecDepth 100000 in
/-- the loop -/
theorem law_loop {p : Program} {l : Launch} {e : Env} {s : State} {m : MethodId} {below : List Frame} {meth : Method} {c : Code} {dC : Nat → ClassId} {dI : Nat → Nat → Nat} {cI cL : ClassId} {sa L : Nat} {xs : Nat → Int32} {ad am : Nat → Nat} {o : Nat} (hH : lH p l s m c dC dI cI cL sa L xs) (hr : meth.sig.returnType = ret) (hlocks : meth.locks = false) (hL : L ≤ 2048) : ∀ (n k : Nat), L ≤ 4 * k + n → 4 * k ≤ 3000 → ∀ {n0 : Nat} {v0 : Nat → Nat} {n1 : Nat} {v1 b pb B : Nat → Nat} {th : Int32} {U Z bm : Nat → Nat} {g : Nat → Int64} {H : Heap} {locs : List Loc} {ls : Array Slot}, lwI n0 v0 n1 v1 b pb B U Z bm → va_P (dC, dI) vwCl (wL cI ad n0 v0 n1 v1 b pb B ++ (wM cI am th U Z B bm ++ wO cL o g)) H → va_D (lA s) (wL cI ad n0 v0 n1 v1 b pb B ++ (wM cI am th U Z B bm ++ wO cL o g)) → va_S (lA s) s.heap H locs → lv_has ls 7 [(0, .ref sa), (1, .ref (ad 0)), (2, .ref (am 0)), (3, .ref o), (4, .int (nI (4 * k)))] → W p l e room_1 s m #[Value.ref sa] below meth c H locs (17 + k) (3142 + 6 * k) (lw_Z below #[Value.ref sa] s) (F0 m 23 ls []) := by
  intro n
  induction n with
  | zero =>
    intro k h1 h2 n0 v0 n1 v1 b pb B th U Z bm g H locs ls hI hP hD hS hl
    exact law_head (ad := ad) (am := am) (o := o) (i := 4 * k) hH hr hlocks hL h2 (by omega) (by omega) hS hl (fun h9 => absurd h9 (by omega))
  | succ n ih =>
    intro k h1 h2 n0 v0 n1 v1 b pb B th U Z bm g H locs ls hI hP hD hS hl
    refine law_head (ad := ad) (am := am) (o := o) (i := 4 * k) hH hr hlocks hL h2 (by omega) (by omega) hS hl (fun h9 => ?_)
    refine law_turn (i := 4 * k) hH h9 hL (by omega) (by omega) hI hP hD hS hl ?_
    intro n0' v0' n1' v1' b' pb' B' th' U' Z' bm' g' H locs ls hI hP hD hS hl
    obtain ⟨S, -⟩ := hH
    obtain ⟨hx, hb, -⟩ := S
    refine lv_iinc (v := nI (4 * (k + 1))) (lv' := [(4, .int (nI (4 * (k + 1)))), (0, .ref sa), (1, .ref (ad 0)), (2, .ref (am 0)), (3, .ref o)]) hx hb d_la_554 hl (k := 4) rfl (nI_add (4 * k) 4) (by decide) rfl (fun ls hl => ?_)
    refine lv_goto (tgt := 23) hx hb d_la_557 (by decide) ?_
    refine W.widen (k := 17 + (k + 1)) (n := 3142 + 6 * (k + 1)) (by omega) (by omega) ?_
    exact ih (k + 1) (by omega) (by omega) hI hP hD hS (lv_sub hl [1, 2, 3, 4, 0] rfl)
