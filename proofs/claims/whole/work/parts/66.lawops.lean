/-! THE CLAIM OUT OF ONE WALK OF THE LAW'S BODY. Your part is whole_start (and what it stands on); all else here is the same for every law, but numbers. -/
def R_law : String := "LongNamesLaw"
def lw_P (b : Addr) (xs : List Int32) (args : Array Value) (s : State) : Prop := args = #[.ref b] ∧ s.IntsAt b xs ∧ xs.length ≤ 2048 ∧ (Jvm.Cond.and given_1 narrow_1).before args s = true
def lw_Q (_ : Array Value) (s : State) (o : Outcome) (t : State) : Prop := o = .returned (some (.int 1)) ∧ Framed s o t [] 1050 11388
def lw_Z (below : List Frame) (a : Array Value) (s : State) : State → Prop := fun t => ∃ o, t.status = .running ∧ Ended t below o ∧ lw_Q a s o t
/-- the law's own end, with 1 on the stack, nothing written that was there before, its room as the claim has it -/
theorem lw_ret {p : Program} {l : Launch} {e : Env} {s : State} {m : MethodId} {below : List Frame} {meth : Method} {c : Code} {b : Nat} (hx : p.tables.exec = Jvm.exec) (hb : c.code = code) (hr : meth.sig.returnType = ret) (hlocks : meth.locks = false) {pc : Nat} {H : Heap} {ls : Array Slot} (hdg : decode code pc = .ok (.ireturn, 1)) : W p l e room_1 s m #[Value.ref b] below meth c H [] 1050 11388 (lw_Z below #[Value.ref b] s) (F0 m pc ls [.int 1]) := by
  intro T hT X
  obtain ⟨fs, hret, hrun, hended, hW, hframe⟩ := X.leave (v := some (.int 1)) (hlocks := hlocks) (fun h => by rw [hr] at h; cases h)
  have hmeth' : T.vm.method? m = some meth := X.method'
  refine ⟨T.setFrames fs, ?_, .returned (some (.int 1)), hrun, hended, rfl, ⟨_, rfl⟩, hW, hframe⟩
  jvm_step X.here [X.here.top, hx, hb, hdg, hmeth', hr, ret, narrow_b1]
  (try refine ⟨rfl, ?_⟩); (try refine ⟨rfl, ?_⟩)
  first | (intro acts; rw [hret _ acts rfl rfl rfl]) | rw [hret _ _ rfl rfl rfl]
  exact Steps.refl _
/-- what holds at the law's entry: the machine, the code, the tables' words (any of lw_tbl by 'hts w (by decide +kernel)'), the script of L ints xs at the cell b, what the Statement gives of the start (any of its parts by flat_of_before) -/
def lw_At (p : Program) (s : State) (m : MethodId) (meth : Method) (c : Code) (b L : Nat) (xs : Nat → Int32) : Prop :=
  p.tables.exec = Jvm.exec ∧ c.code = code ∧ meth.sig.returnType = ret ∧ c.maxLocals = 7 ∧ s.vm.findClass R_law = some m.cls ∧ (∀ w ∈ lw_tbl, w.before #[Value.ref b] s = true) ∧ va_X b L xs s s.heap ∧ b < s.heap.size ∧ meth.locks = false ∧ (Jvm.Cond.and given_1 narrow_1).before #[Value.ref b] s = true
abbrev zW : Cond := .initialized "LongNames"
abbrev lA (s : State) : Nat → Prop := fun q => s.heap.size ≤ q
abbrev wO (cL : ClassId) (o : Nat) (g : Nat → Int64) : va_W := [(o, .inl (cL, 1, .inr (.inl g)))]
/-- what stands at the foot of the loop, behind each call -/
def lK (p : Program) (l : Launch) (e : Env) (s : State) (m : MethodId) (below : List Frame) (meth : Method) (c : Code) (dC : Nat → ClassId) (dI : Nat → Nat → Nat) (cI cL : ClassId) (ad am : Nat → Nat) (o sa i cells slots : Nat) (Q : State → Prop) : Prop := ∀ (n0' : Nat) (v0' : Nat → Nat) (n1' : Nat) (v1' b' pb' B' : Nat → Nat) (th' : Int32) (U' Z' bm' : Nat → Nat) (g' : Nat → Int64) (H : Heap) (locs : List Loc) (ls : Array Slot), lwI n0' v0' n1' v1' b' pb' B' U' Z' bm' → va_P (dC, dI) vwCl (wL cI ad n0' v0' n1' v1' b' pb' B' ++ (wM cI am th' U' Z' B' bm' ++ wO cL o g')) H → va_D (lA s) (wL cI ad n0' v0' n1' v1' b' pb' B' ++ (wM cI am th' U' Z' B' bm' ++ wO cL o g')) → va_S (lA s) s.heap H locs → lv_has ls 7 [(0, .ref sa), (1, .ref (ad 0)), (2, .ref (am 0)), (3, .ref o), (4, .int (nI i))] → W p l e room_1 s m #[Value.ref sa] below meth c H locs (cells + 1) (slots + 6) Q (F0 m 554 ls [])
/-- .. and at the head of a call -/
def lH (p : Program) (l : Launch) (s : State) (m : MethodId) (c : Code) (dC : Nat → ClassId) (dI : Nat → Nat → Nat) (cI cL : ClassId) (sa L : Nat) (xs : Nat → Int32) : Prop := CallFix p m c code 7 s #[Value.ref sa] (zW :: BIG) "LongNamesLaw" ∧ va_X sa L xs s s.heap ∧ sa < s.heap.size ∧ va_K (dC, dI) vwCl [(cI, .int), (cL, .long)] s ∧ sT (lA s) s s.heap ∧ nc_X s ∧ l.stackTraces = false
set_option maxHeartbeats 2000000 in
set_option maxRecDepth 100000 in
theorem lc_unit {p : Program} {l : Launch} {e : Env} {s : State} {m : MethodId} {below : List Frame} {meth : Method} {c : Code} {dC : Nat → ClassId} {dI : Nat → Nat → Nat} {cI cL : ClassId} {sa L : Nat} {xs : Nat → Int32} {Q : State → Prop} {ad am : Nat → Nat} {o i cells slots : Nat} {n0 : Nat} {v0 : Nat → Nat} {n1 : Nat} {v1 b pb B : Nat → Nat} {th : Int32} {U Z bm : Nat → Nat} {g : Nat → Int64} {H : Heap} {locs : List Loc} {ls : Array Slot} (hH : lH p l s m c dC dI cI cL sa L xs) (hi : i + 4 ≤ L) (hL : L ≤ 2048) (hce : cells + 1 ≤ 1050) (hsl : slots + 6 ≤ 11388) (hI : lwI n0 v0 n1 v1 b pb B U Z bm) (hP : va_P (dC, dI) vwCl (wL cI ad n0 v0 n1 v1 b pb B ++ (wM cI am th U Z B bm ++ wO cL o g)) H) (hD : va_D (lA s) (wL cI ad n0 v0 n1 v1 b pb B ++ (wM cI am th U Z B bm ++ wO cL o g))) (hS : va_S (lA s) s.heap H locs) (hl : lv_has ls 7 [(0, .ref sa), (1, .ref (ad 0)), (2, .ref (am 0)), (3, .ref o), (4, .int (nI i))]) (kk : lK p l e s m below meth c dC dI cI cL ad am o sa i cells slots Q) : W p l e room_1 s m #[Value.ref sa] below meth c H locs cells slots Q (F0 m 96 ls []) := by
  obtain ⟨S, hX, hbl, hK, hT, hN, htr⟩ := hH
  obtain ⟨hx, hb, hml, hown, hts⟩ := id S
  have hA : ∀ q : Nat, s.heap.size ≤ q → lA s q := fun _ h => h
  have hbA : ¬ lA s sa := Nat.not_le.mpr hbl
  have hK1 := hK.sub (tys' := [(cI, .int)]) [0] rfl
  obtain ⟨r, n0', v0', n1', v1', b', pb', B', ⟨z, rfl⟩, ⟨rm, hF, hLc, hc0, hs0, hM⟩, ⟨rm2, hF2, hLc2, hc2, hs2, hM2⟩⟩ := o_unit l dC dI cI ad am th hI (xs (i + 1)) (xs (i + 2))
  refine lv_aload_n hx hb d_la_96 rfl (lv_at hl 1 rfl) ?_
  refine lv_aload_n hx hb d_la_97 rfl (lv_at hl 0 rfl) ?_
  refine lv_iload hx hb d_la_98 (lv_at hl 4 rfl) ?_
  refine lv_iconst (v := nI 1) hx hb d_la_100 (by decide) ?_
  refine lv_iadd hx hb d_la_101 ?_
  refine mk_ti (y := nI (i + 1)) (nI_add i 1) ?_
  refine va_sld hx hb hX hbl hbA hS (vp_in_nI (by omega) (by omega)) d_la_102 ?_
  refine mk_ti (y := xs (i + 1)) (by rw [nI_clamp (by omega)]) ?_
  refine lv_aload_n hx hb d_la_103 rfl (lv_at hl 0 rfl) ?_
  refine lv_iload hx hb d_la_104 (lv_at hl 4 rfl) ?_
  refine lv_iconst (v := nI 2) hx hb d_la_106 (by decide) ?_
  refine lv_iadd hx hb d_la_107 ?_
  refine mk_ti (y := nI (i + 2)) (nI_add i 2) ?_
  refine va_sld hx hb hX hbl hbA hS (vp_in_nI (by omega) (by omega)) d_la_108 ?_
  refine mk_ti (y := xs (i + 2)) (by rw [nI_clamp (by omega)]) ?_
  refine mk_g1 (wr := wM cI am th U Z B bm ++ wO cL o g) (W.runV (As := [.int (xs (i + 1)), .int (xs (i + 2))]) (rest := []) S (hM _) (gV 2 hts k_107 k_108 k_109 k_24 k_110 (by decide +kernel) ⟨by show rm.frames + 1 ≤ 10; omega, by show 8 + (4 + 11) + rm.locals ≤ 372; omega⟩ hc0 hs0) (mk_vM hP hD hK1 hT hS hA [0, 1, 2, 3, 4, 5, 6, 7, 8, 9, 10] rfl rfl (by decide) (q0 := 0) (ci := 0) rfl rfl) rfl rfl hl.1 rfl (lv_room (Nat.le_of_ble_eq_true rfl)) d_la_109 ⟨by show _ ≤ 1050; omega, by show _ ≤ 11388; omega⟩) hP hD hS hA [0, 1, 2, 3, 4, 5, 6, 7, 8, 9, 10] [11, 12, 13, 14, 15, 16] rfl rfl (by decide) (by decide) (fun v w1 H locs hΦ hP hD hS => ?_)
  obtain ⟨rfl, rfl⟩ := hΦ
  refine lv_aload_n hx hb d_la_112 rfl (lv_at hl 2 rfl) ?_
  refine lv_aload_n hx hb d_la_113 rfl (lv_at hl 0 rfl) ?_
  refine lv_iload hx hb d_la_114 (lv_at hl 4 rfl) ?_
  refine lv_iconst (v := nI 1) hx hb d_la_116 (by decide) ?_
  refine lv_iadd hx hb d_la_117 ?_
  refine mk_ti (y := nI (i + 1)) (nI_add i 1) ?_
  refine va_sld hx hb hX hbl hbA hS (vp_in_nI (by omega) (by omega)) d_la_118 ?_
  refine mk_ti (y := xs (i + 1)) (by rw [nI_clamp (by omega)]) ?_
  refine lv_aload_n hx hb d_la_119 rfl (lv_at hl 0 rfl) ?_
  refine lv_iload hx hb d_la_120 (lv_at hl 4 rfl) ?_
  refine lv_iconst (v := nI 2) hx hb d_la_122 (by decide) ?_
  refine lv_iadd hx hb d_la_123 ?_
  refine mk_ti (y := nI (i + 2)) (nI_add i 2) ?_
  refine va_sld hx hb hX hbl hbA hS (vp_in_nI (by omega) (by omega)) d_la_124 ?_
  refine mk_ti (y := xs (i + 2)) (by rw [nI_clamp (by omega)]) ?_
  refine mk_g1 (wr := wO cL o g ++ wL cI ad n0' v0' n1' v1' b' pb' B') (W.runV (As := [.int (xs (i + 1)), .int (xs (i + 2))]) (rest := [.int z]) S (hM2 _) (gV 2 hts k_542 k_543 k_544 k_29 k_545 (by decide +kernel) ⟨by show rm2.frames + 1 ≤ 10; omega, by show 8 + (3 + 11) + rm2.locals ≤ 372; omega⟩ hc2 hs2) (mk_vM hP hD hK1 hT hS hA [0, 1, 2, 3, 4] rfl rfl (by decide) (q0 := 0) (ci := 5) rfl rfl) rfl rfl hl.1 rfl (lv_room (Nat.le_of_ble_eq_true rfl)) d_la_125 ⟨by show _ ≤ 1050; omega, by show _ ≤ 11388; omega⟩) hP hD hS hA [0, 1, 2, 3, 4] [5, 6, 7, 8, 9, 10, 11, 12, 13, 14, 15, 16] rfl rfl (by decide) (by decide) (fun v w1 H locs hΦ hP hD hS => ?_)
  obtain ⟨rfl, th', U', Z', bm', rfl, hI'⟩ := hΦ
  refine lv_icmp_eq (tgt := 554) hx hb d_la_128 (by decide) (fun _ => ?_) (fun h9 => absurd rfl h9)
  refine W.widen (k := cells + 1) (n := slots + 6) (by omega) (by omega) ?_
  exact kk n0' v0' n1' v1' b' pb' B' th' U' Z' bm' g _ _ _ hI' (hP.sub [1, 2, 3, 4, 5, 6, 7, 8, 9, 10, 11, 12, 13, 14, 15, 16, 0] rfl) (hD.sub [1, 2, 3, 4, 5, 6, 7, 8, 9, 10, 11, 12, 13, 14, 15, 16, 0] (by decide) rfl) hS hl
set_option maxHeartbeats 2000000 in
set_option maxRecDepth 100000 in
theorem lc_clear {p : Program} {l : Launch} {e : Env} {s : State} {m : MethodId} {below : List Frame} {meth : Method} {c : Code} {dC : Nat → ClassId} {dI : Nat → Nat → Nat} {cI cL : ClassId} {sa L : Nat} {xs : Nat → Int32} {Q : State → Prop} {ad am : Nat → Nat} {o i cells slots : Nat} {n0 : Nat} {v0 : Nat → Nat} {n1 : Nat} {v1 b pb B : Nat → Nat} {th : Int32} {U Z bm : Nat → Nat} {g : Nat → Int64} {H : Heap} {locs : List Loc} {ls : Array Slot} (hH : lH p l s m c dC dI cI cL sa L xs) (hi : i + 4 ≤ L) (hL : L ≤ 2048) (hce : cells + 1 ≤ 1050) (hsl : slots + 6 ≤ 11388) (hI : lwI n0 v0 n1 v1 b pb B U Z bm) (hP : va_P (dC, dI) vwCl (wL cI ad n0 v0 n1 v1 b pb B ++ (wM cI am th U Z B bm ++ wO cL o g)) H) (hD : va_D (lA s) (wL cI ad n0 v0 n1 v1 b pb B ++ (wM cI am th U Z B bm ++ wO cL o g))) (hS : va_S (lA s) s.heap H locs) (hl : lv_has ls 7 [(0, .ref sa), (1, .ref (ad 0)), (2, .ref (am 0)), (3, .ref o), (4, .int (nI i))]) (kk : lK p l e s m below meth c dC dI cI cL ad am o sa i cells slots Q) : W p l e room_1 s m #[Value.ref sa] below meth c H locs cells slots Q (F0 m 133 ls []) := by
  obtain ⟨S, hX, hbl, hK, hT, hN, htr⟩ := hH
  obtain ⟨hx, hb, hml, hown, hts⟩ := id S
  have hA : ∀ q : Nat, s.heap.size ≤ q → lA s q := fun _ h => h
  have hbA : ¬ lA s sa := Nat.not_le.mpr hbl
  have hK1 := hK.sub (tys' := [(cI, .int)]) [0] rfl
  obtain ⟨r, n0', v0', n1', v1', b', pb', B', ⟨z, rfl⟩, ⟨rm, hF, hLc, hc0, hs0, hM⟩, ⟨rm2, hF2, hLc2, hc2, hs2, hM2⟩⟩ := o_clear l dC dI cI ad am th hI (xs (i + 1))
  refine lv_aload_n hx hb d_la_133 rfl (lv_at hl 1 rfl) ?_
  refine lv_aload_n hx hb d_la_134 rfl (lv_at hl 0 rfl) ?_
  refine lv_iload hx hb d_la_135 (lv_at hl 4 rfl) ?_
  refine lv_iconst (v := nI 1) hx hb d_la_137 (by decide) ?_
  refine lv_iadd hx hb d_la_138 ?_
  refine mk_ti (y := nI (i + 1)) (nI_add i 1) ?_
  refine va_sld hx hb hX hbl hbA hS (vp_in_nI (by omega) (by omega)) d_la_139 ?_
  refine mk_ti (y := xs (i + 1)) (by rw [nI_clamp (by omega)]) ?_
  refine mk_g1 (wr := wM cI am th U Z B bm ++ wO cL o g) (W.runV (As := [.int (xs (i + 1))]) (rest := []) S (hM _) (gV 1 hts k_120 k_121 k_122 k_24 k_123 (by decide +kernel) ⟨by show rm.frames + 1 ≤ 10; omega, by show 8 + (4 + 11) + rm.locals ≤ 372; omega⟩ hc0 hs0) (mk_vM hP hD hK1 hT hS hA [0, 1, 2, 3, 4, 5, 6, 7, 8, 9, 10] rfl rfl (by decide) (q0 := 0) (ci := 0) rfl rfl) rfl rfl hl.1 rfl (lv_room (Nat.le_of_ble_eq_true rfl)) d_la_140 ⟨by show _ ≤ 1050; omega, by show _ ≤ 11388; omega⟩) hP hD hS hA [0, 1, 2, 3, 4, 5, 6, 7, 8, 9, 10] [11, 12, 13, 14, 15, 16] rfl rfl (by decide) (by decide) (fun v w1 H locs hΦ hP hD hS => ?_)
  obtain ⟨rfl, rfl⟩ := hΦ
  refine lv_aload_n hx hb d_la_143 rfl (lv_at hl 2 rfl) ?_
  refine lv_aload_n hx hb d_la_144 rfl (lv_at hl 0 rfl) ?_
  refine lv_iload hx hb d_la_145 (lv_at hl 4 rfl) ?_
  refine lv_iconst (v := nI 1) hx hb d_la_147 (by decide) ?_
  refine lv_iadd hx hb d_la_148 ?_
  refine mk_ti (y := nI (i + 1)) (nI_add i 1) ?_
  refine va_sld hx hb hX hbl hbA hS (vp_in_nI (by omega) (by omega)) d_la_149 ?_
  refine mk_ti (y := xs (i + 1)) (by rw [nI_clamp (by omega)]) ?_
  refine mk_g1 (wr := wO cL o g ++ wL cI ad n0' v0' n1' v1' b' pb' B') (W.runV (As := [.int (xs (i + 1))]) (rest := [.int z]) S (hM2 _) (gV 1 hts k_550 k_551 k_552 k_29 k_553 (by decide +kernel) ⟨by show rm2.frames + 1 ≤ 10; omega, by show 8 + (3 + 11) + rm2.locals ≤ 372; omega⟩ hc2 hs2) (mk_vM hP hD hK1 hT hS hA [0, 1, 2, 3, 4] rfl rfl (by decide) (q0 := 0) (ci := 5) rfl rfl) rfl rfl hl.1 rfl (lv_room (Nat.le_of_ble_eq_true rfl)) d_la_150 ⟨by show _ ≤ 1050; omega, by show _ ≤ 11388; omega⟩) hP hD hS hA [0, 1, 2, 3, 4] [5, 6, 7, 8, 9, 10, 11, 12, 13, 14, 15, 16] rfl rfl (by decide) (by decide) (fun v w1 H locs hΦ hP hD hS => ?_)
  obtain ⟨rfl, th', U', Z', bm', rfl, hI'⟩ := hΦ
  refine lv_icmp_eq (tgt := 554) hx hb d_la_153 (by decide) (fun _ => ?_) (fun h9 => absurd rfl h9)
  refine W.widen (k := cells + 1) (n := slots + 6) (by omega) (by omega) ?_
  exact kk n0' v0' n1' v1' b' pb' B' th' U' Z' bm' g _ _ _ hI' (hP.sub [1, 2, 3, 4, 5, 6, 7, 8, 9, 10, 11, 12, 13, 14, 15, 16, 0] rfl) (hD.sub [1, 2, 3, 4, 5, 6, 7, 8, 9, 10, 11, 12, 13, 14, 15, 16, 0] (by decide) rfl) hS hl
set_option maxHeartbeats 2000000 in
set_option maxRecDepth 100000 in
theorem lc_about {p : Program} {l : Launch} {e : Env} {s : State} {m : MethodId} {below : List Frame} {meth : Method} {c : Code} {dC : Nat → ClassId} {dI : Nat → Nat → Nat} {cI cL : ClassId} {sa L : Nat} {xs : Nat → Int32} {Q : State → Prop} {ad am : Nat → Nat} {o i cells slots : Nat} {n0 : Nat} {v0 : Nat → Nat} {n1 : Nat} {v1 b pb B : Nat → Nat} {th : Int32} {U Z bm : Nat → Nat} {g : Nat → Int64} {H : Heap} {locs : List Loc} {ls : Array Slot} (hH : lH p l s m c dC dI cI cL sa L xs) (hi : i + 4 ≤ L) (hL : L ≤ 2048) (hce : cells + 1 ≤ 1050) (hsl : slots + 6 ≤ 11388) (hI : lwI n0 v0 n1 v1 b pb B U Z bm) (hP : va_P (dC, dI) vwCl (wL cI ad n0 v0 n1 v1 b pb B ++ (wM cI am th U Z B bm ++ wO cL o g)) H) (hD : va_D (lA s) (wL cI ad n0 v0 n1 v1 b pb B ++ (wM cI am th U Z B bm ++ wO cL o g))) (hS : va_S (lA s) s.heap H locs) (hl : lv_has ls 7 [(0, .ref sa), (1, .ref (ad 0)), (2, .ref (am 0)), (3, .ref o), (4, .int (nI i))]) (kk : lK p l e s m below meth c dC dI cI cL ad am o sa i cells slots Q) : W p l e room_1 s m #[Value.ref sa] below meth c H locs cells slots Q (F0 m 158 ls []) := by
  obtain ⟨S, hX, hbl, hK, hT, hN, htr⟩ := hH
  obtain ⟨hx, hb, hml, hown, hts⟩ := id S
  have hA : ∀ q : Nat, s.heap.size ≤ q → lA s q := fun _ h => h
  have hbA : ¬ lA s sa := Nat.not_le.mpr hbl
  have hK1 := hK.sub (tys' := [(cI, .int)]) [0] rfl
  obtain ⟨r, n0', v0', n1', v1', b', pb', B', ⟨z, rfl⟩, ⟨rm, hF, hLc, hc0, hs0, hM⟩, ⟨rm2, hF2, hLc2, hc2, hs2, hM2⟩⟩ := o_about l dC dI cI ad am th hI (xs (i + 1)) (xs (i + 2))
  refine lv_aload_n hx hb d_la_158 rfl (lv_at hl 1 rfl) ?_
  refine lv_aload_n hx hb d_la_159 rfl (lv_at hl 0 rfl) ?_
  refine lv_iload hx hb d_la_160 (lv_at hl 4 rfl) ?_
  refine lv_iconst (v := nI 1) hx hb d_la_162 (by decide) ?_
  refine lv_iadd hx hb d_la_163 ?_
  refine mk_ti (y := nI (i + 1)) (nI_add i 1) ?_
  refine va_sld hx hb hX hbl hbA hS (vp_in_nI (by omega) (by omega)) d_la_164 ?_
  refine mk_ti (y := xs (i + 1)) (by rw [nI_clamp (by omega)]) ?_
  refine lv_aload_n hx hb d_la_165 rfl (lv_at hl 0 rfl) ?_
  refine lv_iload hx hb d_la_166 (lv_at hl 4 rfl) ?_
  refine lv_iconst (v := nI 2) hx hb d_la_168 (by decide) ?_
  refine lv_iadd hx hb d_la_169 ?_
  refine mk_ti (y := nI (i + 2)) (nI_add i 2) ?_
  refine va_sld hx hb hX hbl hbA hS (vp_in_nI (by omega) (by omega)) d_la_170 ?_
  refine mk_ti (y := xs (i + 2)) (by rw [nI_clamp (by omega)]) ?_
  refine mk_g1 (wr := wM cI am th U Z B bm ++ wO cL o g) (W.runV (As := [.int (xs (i + 1)), .int (xs (i + 2))]) (rest := []) S (hM _) (gV 2 hts k_132 k_133 k_134 k_24 k_135 (by decide +kernel) ⟨by show rm.frames + 1 ≤ 10; omega, by show 8 + (4 + 11) + rm.locals ≤ 372; omega⟩ hc0 hs0) (mk_vM hP hD hK1 hT hS hA [0, 1, 2, 3, 4, 5, 6, 7, 8, 9, 10] rfl rfl (by decide) (q0 := 0) (ci := 0) rfl rfl) rfl rfl hl.1 rfl (lv_room (Nat.le_of_ble_eq_true rfl)) d_la_171 ⟨by show _ ≤ 1050; omega, by show _ ≤ 11388; omega⟩) hP hD hS hA [0, 1, 2, 3, 4, 5, 6, 7, 8, 9, 10] [11, 12, 13, 14, 15, 16] rfl rfl (by decide) (by decide) (fun v w1 H locs hΦ hP hD hS => ?_)
  obtain ⟨rfl, rfl⟩ := hΦ
  refine lv_aload_n hx hb d_la_174 rfl (lv_at hl 2 rfl) ?_
  refine lv_aload_n hx hb d_la_175 rfl (lv_at hl 0 rfl) ?_
  refine lv_iload hx hb d_la_176 (lv_at hl 4 rfl) ?_
  refine lv_iconst (v := nI 1) hx hb d_la_178 (by decide) ?_
  refine lv_iadd hx hb d_la_179 ?_
  refine mk_ti (y := nI (i + 1)) (nI_add i 1) ?_
  refine va_sld hx hb hX hbl hbA hS (vp_in_nI (by omega) (by omega)) d_la_180 ?_
  refine mk_ti (y := xs (i + 1)) (by rw [nI_clamp (by omega)]) ?_
  refine lv_aload_n hx hb d_la_181 rfl (lv_at hl 0 rfl) ?_
  refine lv_iload hx hb d_la_182 (lv_at hl 4 rfl) ?_
  refine lv_iconst (v := nI 2) hx hb d_la_184 (by decide) ?_
  refine lv_iadd hx hb d_la_185 ?_
  refine mk_ti (y := nI (i + 2)) (nI_add i 2) ?_
  refine va_sld hx hb hX hbl hbA hS (vp_in_nI (by omega) (by omega)) d_la_186 ?_
  refine mk_ti (y := xs (i + 2)) (by rw [nI_clamp (by omega)]) ?_
  refine mk_g1 (wr := wO cL o g ++ wL cI ad n0' v0' n1' v1' b' pb' B') (W.runV (As := [.int (xs (i + 1)), .int (xs (i + 2))]) (rest := [.int z]) S (hM2 _) (gV 2 hts k_554 k_555 k_556 k_29 k_557 (by decide +kernel) ⟨by show rm2.frames + 1 ≤ 10; omega, by show 8 + (6 + 11) + rm2.locals ≤ 372; omega⟩ hc2 hs2) (mk_vM hP hD hK1 hT hS hA [0, 1, 2, 3, 4] rfl rfl (by decide) (q0 := 0) (ci := 5) rfl rfl) rfl rfl hl.1 rfl (lv_room (Nat.le_of_ble_eq_true rfl)) d_la_187 ⟨by show _ ≤ 1050; omega, by show _ ≤ 11388; omega⟩) hP hD hS hA [0, 1, 2, 3, 4] [5, 6, 7, 8, 9, 10, 11, 12, 13, 14, 15, 16] rfl rfl (by decide) (by decide) (fun v w1 H locs hΦ hP hD hS => ?_)
  obtain ⟨rfl, th', U', Z', bm', rfl, hI'⟩ := hΦ
  refine lv_icmp_eq (tgt := 554) hx hb d_la_190 (by decide) (fun _ => ?_) (fun h9 => absurd rfl h9)
  refine W.widen (k := cells + 1) (n := slots + 6) (by omega) (by omega) ?_
  exact kk n0' v0' n1' v1' b' pb' B' th' U' Z' bm' g _ _ _ hI' (hP.sub [1, 2, 3, 4, 5, 6, 7, 8, 9, 10, 11, 12, 13, 14, 15, 16, 0] rfl) (hD.sub [1, 2, 3, 4, 5, 6, 7, 8, 9, 10, 11, 12, 13, 14, 15, 16, 0] (by decide) rfl) hS hl
set_option maxHeartbeats 2000000 in
set_option maxRecDepth 100000 in
theorem lc_letter {p : Program} {l : Launch} {e : Env} {s : State} {m : MethodId} {below : List Frame} {meth : Method} {c : Code} {dC : Nat → ClassId} {dI : Nat → Nat → Nat} {cI cL : ClassId} {sa L : Nat} {xs : Nat → Int32} {Q : State → Prop} {ad am : Nat → Nat} {o i cells slots : Nat} {n0 : Nat} {v0 : Nat → Nat} {n1 : Nat} {v1 b pb B : Nat → Nat} {th : Int32} {U Z bm : Nat → Nat} {g : Nat → Int64} {H : Heap} {locs : List Loc} {ls : Array Slot} (hH : lH p l s m c dC dI cI cL sa L xs) (hi : i + 4 ≤ L) (hL : L ≤ 2048) (hce : cells + 1 ≤ 1050) (hsl : slots + 6 ≤ 11388) (hI : lwI n0 v0 n1 v1 b pb B U Z bm) (hP : va_P (dC, dI) vwCl (wL cI ad n0 v0 n1 v1 b pb B ++ (wM cI am th U Z B bm ++ wO cL o g)) H) (hD : va_D (lA s) (wL cI ad n0 v0 n1 v1 b pb B ++ (wM cI am th U Z B bm ++ wO cL o g))) (hS : va_S (lA s) s.heap H locs) (hl : lv_has ls 7 [(0, .ref sa), (1, .ref (ad 0)), (2, .ref (am 0)), (3, .ref o), (4, .int (nI i))]) (kk : lK p l e s m below meth c dC dI cI cL ad am o sa i cells slots Q) : W p l e room_1 s m #[Value.ref sa] below meth c H locs cells slots Q (F0 m 195 ls []) := by
  obtain ⟨S, hX, hbl, hK, hT, hN, htr⟩ := hH
  obtain ⟨hx, hb, hml, hown, hts⟩ := id S
  have hA : ∀ q : Nat, s.heap.size ≤ q → lA s q := fun _ h => h
  have hbA : ¬ lA s sa := Nat.not_le.mpr hbl
  have hK1 := hK.sub (tys' := [(cI, .int)]) [0] rfl
  obtain ⟨r, n0', v0', n1', v1', b', pb', B', ⟨z, rfl⟩, ⟨rm, hF, hLc, hc0, hs0, hM⟩, ⟨rm2, hF2, hLc2, hc2, hs2, hM2⟩⟩ := o_letter l dC dI cI ad am th hI (xs (i + 1)) (xs (i + 2))
  refine lv_aload_n hx hb d_la_195 rfl (lv_at hl 1 rfl) ?_
  refine lv_aload_n hx hb d_la_196 rfl (lv_at hl 0 rfl) ?_
  refine lv_iload hx hb d_la_197 (lv_at hl 4 rfl) ?_
  refine lv_iconst (v := nI 1) hx hb d_la_199 (by decide) ?_
  refine lv_iadd hx hb d_la_200 ?_
  refine mk_ti (y := nI (i + 1)) (nI_add i 1) ?_
  refine va_sld hx hb hX hbl hbA hS (vp_in_nI (by omega) (by omega)) d_la_201 ?_
  refine mk_ti (y := xs (i + 1)) (by rw [nI_clamp (by omega)]) ?_
  refine lv_aload_n hx hb d_la_202 rfl (lv_at hl 0 rfl) ?_
  refine lv_iload hx hb d_la_203 (lv_at hl 4 rfl) ?_
  refine lv_iconst (v := nI 2) hx hb d_la_205 (by decide) ?_
  refine lv_iadd hx hb d_la_206 ?_
  refine mk_ti (y := nI (i + 2)) (nI_add i 2) ?_
  refine va_sld hx hb hX hbl hbA hS (vp_in_nI (by omega) (by omega)) d_la_207 ?_
  refine mk_ti (y := xs (i + 2)) (by rw [nI_clamp (by omega)]) ?_
  refine mk_g1 (wr := wM cI am th U Z B bm ++ wO cL o g) (W.runV (As := [.int (xs (i + 1)), .int (xs (i + 2))]) (rest := []) S (hM _) (gV 2 hts k_172 k_173 k_174 k_24 k_175 (by decide +kernel) ⟨by show rm.frames + 1 ≤ 10; omega, by show 8 + (4 + 11) + rm.locals ≤ 372; omega⟩ hc0 hs0) (mk_vM hP hD hK1 hT hS hA [0, 1, 2, 3, 4, 5, 6, 7, 8, 9, 10] rfl rfl (by decide) (q0 := 0) (ci := 0) rfl rfl) rfl rfl hl.1 rfl (lv_room (Nat.le_of_ble_eq_true rfl)) d_la_208 ⟨by show _ ≤ 1050; omega, by show _ ≤ 11388; omega⟩) hP hD hS hA [0, 1, 2, 3, 4, 5, 6, 7, 8, 9, 10] [11, 12, 13, 14, 15, 16] rfl rfl (by decide) (by decide) (fun v w1 H locs hΦ hP hD hS => ?_)
  obtain ⟨rfl, rfl⟩ := hΦ
  refine lv_aload_n hx hb d_la_211 rfl (lv_at hl 2 rfl) ?_
  refine lv_aload_n hx hb d_la_212 rfl (lv_at hl 0 rfl) ?_
  refine lv_iload hx hb d_la_213 (lv_at hl 4 rfl) ?_
  refine lv_iconst (v := nI 1) hx hb d_la_215 (by decide) ?_
  refine lv_iadd hx hb d_la_216 ?_
  refine mk_ti (y := nI (i + 1)) (nI_add i 1) ?_
  refine va_sld hx hb hX hbl hbA hS (vp_in_nI (by omega) (by omega)) d_la_217 ?_
  refine mk_ti (y := xs (i + 1)) (by rw [nI_clamp (by omega)]) ?_
  refine lv_aload_n hx hb d_la_218 rfl (lv_at hl 0 rfl) ?_
  refine lv_iload hx hb d_la_219 (lv_at hl 4 rfl) ?_
  refine lv_iconst (v := nI 2) hx hb d_la_221 (by decide) ?_
  refine lv_iadd hx hb d_la_222 ?_
  refine mk_ti (y := nI (i + 2)) (nI_add i 2) ?_
  refine va_sld hx hb hX hbl hbA hS (vp_in_nI (by omega) (by omega)) d_la_223 ?_
  refine mk_ti (y := xs (i + 2)) (by rw [nI_clamp (by omega)]) ?_
  refine mk_g1 (wr := wO cL o g ++ wL cI ad n0' v0' n1' v1' b' pb' B') (W.runV (As := [.int (xs (i + 1)), .int (xs (i + 2))]) (rest := [.int z]) S (hM2 _) (gV 2 hts k_589 k_590 k_591 k_29 k_592 (by decide +kernel) ⟨by show rm2.frames + 1 ≤ 10; omega, by show 8 + (9 + 11) + rm2.locals ≤ 372; omega⟩ hc2 hs2) (mk_vM hP hD hK1 hT hS hA [0, 1, 2, 3, 4] rfl rfl (by decide) (q0 := 0) (ci := 5) rfl rfl) rfl rfl hl.1 rfl (lv_room (Nat.le_of_ble_eq_true rfl)) d_la_224 ⟨by show _ ≤ 1050; omega, by show _ ≤ 11388; omega⟩) hP hD hS hA [0, 1, 2, 3, 4] [5, 6, 7, 8, 9, 10, 11, 12, 13, 14, 15, 16] rfl rfl (by decide) (by decide) (fun v w1 H locs hΦ hP hD hS => ?_)
  obtain ⟨rfl, th', U', Z', bm', rfl, hI'⟩ := hΦ
  refine lv_icmp_eq (tgt := 554) hx hb d_la_227 (by decide) (fun _ => ?_) (fun h9 => absurd rfl h9)
  refine W.widen (k := cells + 1) (n := slots + 6) (by omega) (by omega) ?_
  exact kk n0' v0' n1' v1' b' pb' B' th' U' Z' bm' g _ _ _ hI' (hP.sub [1, 2, 3, 4, 5, 6, 7, 8, 9, 10, 11, 12, 13, 14, 15, 16, 0] rfl) (hD.sub [1, 2, 3, 4, 5, 6, 7, 8, 9, 10, 11, 12, 13, 14, 15, 16, 0] (by decide) rfl) hS hl
set_option maxHeartbeats 2000000 in
set_option maxRecDepth 100000 in
theorem lc_alike {p : Program} {l : Launch} {e : Env} {s : State} {m : MethodId} {below : List Frame} {meth : Method} {c : Code} {dC : Nat → ClassId} {dI : Nat → Nat → Nat} {cI cL : ClassId} {sa L : Nat} {xs : Nat → Int32} {Q : State → Prop} {ad am : Nat → Nat} {o i cells slots : Nat} {n0 : Nat} {v0 : Nat → Nat} {n1 : Nat} {v1 b pb B : Nat → Nat} {th : Int32} {U Z bm : Nat → Nat} {g : Nat → Int64} {H : Heap} {locs : List Loc} {ls : Array Slot} (hH : lH p l s m c dC dI cI cL sa L xs) (hi : i + 4 ≤ L) (hL : L ≤ 2048) (hce : cells + 1 ≤ 1050) (hsl : slots + 6 ≤ 11388) (hI : lwI n0 v0 n1 v1 b pb B U Z bm) (hP : va_P (dC, dI) vwCl (wL cI ad n0 v0 n1 v1 b pb B ++ (wM cI am th U Z B bm ++ wO cL o g)) H) (hD : va_D (lA s) (wL cI ad n0 v0 n1 v1 b pb B ++ (wM cI am th U Z B bm ++ wO cL o g))) (hS : va_S (lA s) s.heap H locs) (hl : lv_has ls 7 [(0, .ref sa), (1, .ref (ad 0)), (2, .ref (am 0)), (3, .ref o), (4, .int (nI i))]) (kk : lK p l e s m below meth c dC dI cI cL ad am o sa i cells slots Q) : W p l e room_1 s m #[Value.ref sa] below meth c H locs cells slots Q (F0 m 232 ls []) := by
  obtain ⟨S, hX, hbl, hK, hT, hN, htr⟩ := hH
  obtain ⟨hx, hb, hml, hown, hts⟩ := id S
  have hA : ∀ q : Nat, s.heap.size ≤ q → lA s q := fun _ h => h
  have hbA : ¬ lA s sa := Nat.not_le.mpr hbl
  have hK1 := hK.sub (tys' := [(cI, .int)]) [0] rfl
  obtain ⟨r, n0', v0', n1', v1', b', pb', B', ⟨z, rfl⟩, ⟨rm, hF, hLc, hc0, hs0, hM⟩, ⟨rm2, hF2, hLc2, hc2, hs2, hM2⟩⟩ := o_alike l dC dI cI ad am th hI 
  refine lv_aload_n hx hb d_la_232 rfl (lv_at hl 1 rfl) ?_
  refine mk_g1 (wr := wM cI am th U Z B bm ++ wO cL o g) (W.runV (As := []) (rest := []) S (hM _) (gV 0 hts k_184 k_185 k_186 k_24 k_187 (by decide +kernel) ⟨by show rm.frames + 1 ≤ 10; omega, by show 8 + (1 + 11) + rm.locals ≤ 372; omega⟩ hc0 hs0) (mk_vM hP hD hK1 hT hS hA [0, 1, 2, 3, 4, 5, 6, 7, 8, 9, 10] rfl rfl (by decide) (q0 := 0) (ci := 0) rfl rfl) rfl rfl hl.1 rfl (lv_room (Nat.le_of_ble_eq_true rfl)) d_la_233 ⟨by show _ ≤ 1050; omega, by show _ ≤ 11388; omega⟩) hP hD hS hA [0, 1, 2, 3, 4, 5, 6, 7, 8, 9, 10] [11, 12, 13, 14, 15, 16] rfl rfl (by decide) (by decide) (fun v w1 H locs hΦ hP hD hS => ?_)
  obtain ⟨rfl, rfl⟩ := hΦ
  refine lv_aload_n hx hb d_la_236 rfl (lv_at hl 2 rfl) ?_
  refine mk_g1 (wr := wO cL o g ++ wL cI ad n0' v0' n1' v1' b' pb' B') (W.runV (As := []) (rest := [.int z]) S (hM2 _) (gV 0 hts k_593 k_594 k_595 k_29 k_596 (by decide +kernel) ⟨by show rm2.frames + 1 ≤ 10; omega, by show 8 + (3 + 11) + rm2.locals ≤ 372; omega⟩ hc2 hs2) (mk_vM hP hD hK1 hT hS hA [0, 1, 2, 3, 4] rfl rfl (by decide) (q0 := 0) (ci := 5) rfl rfl) rfl rfl hl.1 rfl (lv_room (Nat.le_of_ble_eq_true rfl)) d_la_237 ⟨by show _ ≤ 1050; omega, by show _ ≤ 11388; omega⟩) hP hD hS hA [0, 1, 2, 3, 4] [5, 6, 7, 8, 9, 10, 11, 12, 13, 14, 15, 16] rfl rfl (by decide) (by decide) (fun v w1 H locs hΦ hP hD hS => ?_)
  obtain ⟨rfl, th', U', Z', bm', rfl, hI'⟩ := hΦ
  refine lv_icmp_eq (tgt := 554) hx hb d_la_240 (by decide) (fun _ => ?_) (fun h9 => absurd rfl h9)
  refine W.widen (k := cells + 1) (n := slots + 6) (by omega) (by omega) ?_
  exact kk n0' v0' n1' v1' b' pb' B' th' U' Z' bm' g _ _ _ hI' (hP.sub [1, 2, 3, 4, 5, 6, 7, 8, 9, 10, 11, 12, 13, 14, 15, 16, 0] rfl) (hD.sub [1, 2, 3, 4, 5, 6, 7, 8, 9, 10, 11, 12, 13, 14, 15, 16, 0] (by decide) rfl) hS hl
set_option maxHeartbeats 2000000 in
set_option maxRecDepth 100000 in
theorem lc_poke {p : Program} {l : Launch} {e : Env} {s : State} {m : MethodId} {below : List Frame} {meth : Method} {c : Code} {dC : Nat → ClassId} {dI : Nat → Nat → Nat} {cI cL : ClassId} {sa L : Nat} {xs : Nat → Int32} {Q : State → Prop} {ad am : Nat → Nat} {o i cells slots : Nat} {n0 : Nat} {v0 : Nat → Nat} {n1 : Nat} {v1 b pb B : Nat → Nat} {th : Int32} {U Z bm : Nat → Nat} {g : Nat → Int64} {H : Heap} {locs : List Loc} {ls : Array Slot} (hH : lH p l s m c dC dI cI cL sa L xs) (hi : i + 4 ≤ L) (hL : L ≤ 2048) (hce : cells + 1 ≤ 1050) (hsl : slots + 6 ≤ 11388) (hI : lwI n0 v0 n1 v1 b pb B U Z bm) (hP : va_P (dC, dI) vwCl (wL cI ad n0 v0 n1 v1 b pb B ++ (wM cI am th U Z B bm ++ wO cL o g)) H) (hD : va_D (lA s) (wL cI ad n0 v0 n1 v1 b pb B ++ (wM cI am th U Z B bm ++ wO cL o g))) (hS : va_S (lA s) s.heap H locs) (hl : lv_has ls 7 [(0, .ref sa), (1, .ref (ad 0)), (2, .ref (am 0)), (3, .ref o), (4, .int (nI i))]) (kk : lK p l e s m below meth c dC dI cI cL ad am o sa i cells slots Q) : W p l e room_1 s m #[Value.ref sa] below meth c H locs cells slots Q (F0 m 405 ls []) := by
  obtain ⟨S, hX, hbl, hK, hT, hN, htr⟩ := hH
  obtain ⟨hx, hb, hml, hown, hts⟩ := id S
  have hA : ∀ q : Nat, s.heap.size ≤ q → lA s q := fun _ h => h
  have hbA : ¬ lA s sa := Nat.not_le.mpr hbl
  have hK1 := hK.sub (tys' := [(cI, .int)]) [0] rfl
  obtain ⟨r, n0', v0', n1', v1', b', pb', B', ⟨z, rfl⟩, ⟨rm, hF, hLc, hc0, hs0, hM⟩, ⟨rm2, hF2, hLc2, hc2, hs2, hM2⟩⟩ := o_poke l dC dI cI ad am th hI (xs (i + 1)) (xs (i + 2)) (xs (i + 3))
  refine lv_aload_n hx hb d_la_405 rfl (lv_at hl 1 rfl) ?_
  refine lv_aload_n hx hb d_la_406 rfl (lv_at hl 0 rfl) ?_
  refine lv_iload hx hb d_la_407 (lv_at hl 4 rfl) ?_
  refine lv_iconst (v := nI 1) hx hb d_la_409 (by decide) ?_
  refine lv_iadd hx hb d_la_410 ?_
  refine mk_ti (y := nI (i + 1)) (nI_add i 1) ?_
  refine va_sld hx hb hX hbl hbA hS (vp_in_nI (by omega) (by omega)) d_la_411 ?_
  refine mk_ti (y := xs (i + 1)) (by rw [nI_clamp (by omega)]) ?_
  refine lv_aload_n hx hb d_la_412 rfl (lv_at hl 0 rfl) ?_
  refine lv_iload hx hb d_la_413 (lv_at hl 4 rfl) ?_
  refine lv_iconst (v := nI 2) hx hb d_la_415 (by decide) ?_
  refine lv_iadd hx hb d_la_416 ?_
  refine mk_ti (y := nI (i + 2)) (nI_add i 2) ?_
  refine va_sld hx hb hX hbl hbA hS (vp_in_nI (by omega) (by omega)) d_la_417 ?_
  refine mk_ti (y := xs (i + 2)) (by rw [nI_clamp (by omega)]) ?_
  refine lv_aload_n hx hb d_la_418 rfl (lv_at hl 0 rfl) ?_
  refine lv_iload hx hb d_la_419 (lv_at hl 4 rfl) ?_
  refine lv_iconst (v := nI 3) hx hb d_la_421 (by decide) ?_
  refine lv_iadd hx hb d_la_422 ?_
  refine mk_ti (y := nI (i + 3)) (nI_add i 3) ?_
  refine va_sld hx hb hX hbl hbA hS (vp_in_nI (by omega) (by omega)) d_la_423 ?_
  refine mk_ti (y := xs (i + 3)) (by rw [nI_clamp (by omega)]) ?_
  refine mk_g1 (wr := wM cI am th U Z B bm ++ wO cL o g) (W.runV (As := [.int (xs (i + 1)), .int (xs (i + 2)), .int (xs (i + 3))]) (rest := []) S (hM _) (gV 3 hts k_195 k_196 k_197 k_24 k_198 (by decide +kernel) ⟨by show rm.frames + 1 ≤ 10; omega, by show 8 + (4 + 11) + rm.locals ≤ 372; omega⟩ hc0 hs0) (mk_vM hP hD hK1 hT hS hA [0, 1, 2, 3, 4, 5, 6, 7, 8, 9, 10] rfl rfl (by decide) (q0 := 0) (ci := 0) rfl rfl) rfl rfl hl.1 rfl (lv_room (Nat.le_of_ble_eq_true rfl)) d_la_424 ⟨by show _ ≤ 1050; omega, by show _ ≤ 11388; omega⟩) hP hD hS hA [0, 1, 2, 3, 4, 5, 6, 7, 8, 9, 10] [11, 12, 13, 14, 15, 16] rfl rfl (by decide) (by decide) (fun v w1 H locs hΦ hP hD hS => ?_)
  obtain ⟨rfl, rfl⟩ := hΦ
  refine lv_aload_n hx hb d_la_427 rfl (lv_at hl 2 rfl) ?_
  refine lv_aload_n hx hb d_la_428 rfl (lv_at hl 0 rfl) ?_
  refine lv_iload hx hb d_la_429 (lv_at hl 4 rfl) ?_
  refine lv_iconst (v := nI 1) hx hb d_la_431 (by decide) ?_
  refine lv_iadd hx hb d_la_432 ?_
  refine mk_ti (y := nI (i + 1)) (nI_add i 1) ?_
  refine va_sld hx hb hX hbl hbA hS (vp_in_nI (by omega) (by omega)) d_la_433 ?_
  refine mk_ti (y := xs (i + 1)) (by rw [nI_clamp (by omega)]) ?_
  refine lv_aload_n hx hb d_la_434 rfl (lv_at hl 0 rfl) ?_
  refine lv_iload hx hb d_la_435 (lv_at hl 4 rfl) ?_
  refine lv_iconst (v := nI 2) hx hb d_la_437 (by decide) ?_
  refine lv_iadd hx hb d_la_438 ?_
  refine mk_ti (y := nI (i + 2)) (nI_add i 2) ?_
  refine va_sld hx hb hX hbl hbA hS (vp_in_nI (by omega) (by omega)) d_la_439 ?_
  refine mk_ti (y := xs (i + 2)) (by rw [nI_clamp (by omega)]) ?_
  refine lv_aload_n hx hb d_la_440 rfl (lv_at hl 0 rfl) ?_
  refine lv_iload hx hb d_la_441 (lv_at hl 4 rfl) ?_
  refine lv_iconst (v := nI 3) hx hb d_la_443 (by decide) ?_
  refine lv_iadd hx hb d_la_444 ?_
  refine mk_ti (y := nI (i + 3)) (nI_add i 3) ?_
  refine va_sld hx hb hX hbl hbA hS (vp_in_nI (by omega) (by omega)) d_la_445 ?_
  refine mk_ti (y := xs (i + 3)) (by rw [nI_clamp (by omega)]) ?_
  refine mk_g1 (wr := wO cL o g ++ wL cI ad n0' v0' n1' v1' b' pb' B') (W.runV (As := [.int (xs (i + 1)), .int (xs (i + 2)), .int (xs (i + 3))]) (rest := [.int z]) S (hM2 _) (gV 3 hts k_641 k_642 k_643 k_29 k_644 (by decide +kernel) ⟨by show rm2.frames + 1 ≤ 10; omega, by show 8 + (4 + 11) + rm2.locals ≤ 372; omega⟩ hc2 hs2) (mk_vM hP hD hK1 hT hS hA [0, 1, 2, 3, 4] rfl rfl (by decide) (q0 := 0) (ci := 5) rfl rfl) rfl rfl hl.1 rfl (lv_room (Nat.le_of_ble_eq_true rfl)) d_la_446 ⟨by show _ ≤ 1050; omega, by show _ ≤ 11388; omega⟩) hP hD hS hA [0, 1, 2, 3, 4] [5, 6, 7, 8, 9, 10, 11, 12, 13, 14, 15, 16] rfl rfl (by decide) (by decide) (fun v w1 H locs hΦ hP hD hS => ?_)
  obtain ⟨rfl, th', U', Z', bm', rfl, hI'⟩ := hΦ
  refine lv_icmp_eq (tgt := 554) hx hb d_la_449 (by decide) (fun _ => ?_) (fun h9 => absurd rfl h9)
  refine W.widen (k := cells + 1) (n := slots + 6) (by omega) (by omega) ?_
  exact kk n0' v0' n1' v1' b' pb' B' th' U' Z' bm' g _ _ _ hI' (hP.sub [1, 2, 3, 4, 5, 6, 7, 8, 9, 10, 11, 12, 13, 14, 15, 16, 0] rfl) (hD.sub [1, 2, 3, 4, 5, 6, 7, 8, 9, 10, 11, 12, 13, 14, 15, 16, 0] (by decide) rfl) hS hl
set_option maxHeartbeats 2000000 in
set_option maxRecDepth 100000 in
theorem lc_byteAt {p : Program} {l : Launch} {e : Env} {s : State} {m : MethodId} {below : List Frame} {meth : Method} {c : Code} {dC : Nat → ClassId} {dI : Nat → Nat → Nat} {cI cL : ClassId} {sa L : Nat} {xs : Nat → Int32} {Q : State → Prop} {ad am : Nat → Nat} {o i cells slots : Nat} {n0 : Nat} {v0 : Nat → Nat} {n1 : Nat} {v1 b pb B : Nat → Nat} {th : Int32} {U Z bm : Nat → Nat} {g : Nat → Int64} {H : Heap} {locs : List Loc} {ls : Array Slot} (hH : lH p l s m c dC dI cI cL sa L xs) (hi : i + 4 ≤ L) (hL : L ≤ 2048) (hce : cells + 1 ≤ 1050) (hsl : slots + 6 ≤ 11388) (hI : lwI n0 v0 n1 v1 b pb B U Z bm) (hP : va_P (dC, dI) vwCl (wL cI ad n0 v0 n1 v1 b pb B ++ (wM cI am th U Z B bm ++ wO cL o g)) H) (hD : va_D (lA s) (wL cI ad n0 v0 n1 v1 b pb B ++ (wM cI am th U Z B bm ++ wO cL o g))) (hS : va_S (lA s) s.heap H locs) (hl : lv_has ls 7 [(0, .ref sa), (1, .ref (ad 0)), (2, .ref (am 0)), (3, .ref o), (4, .int (nI i))]) (kk : lK p l e s m below meth c dC dI cI cL ad am o sa i cells slots Q) : W p l e room_1 s m #[Value.ref sa] below meth c H locs cells slots Q (F0 m 454 ls []) := by
  obtain ⟨S, hX, hbl, hK, hT, hN, htr⟩ := hH
  obtain ⟨hx, hb, hml, hown, hts⟩ := id S
  have hA : ∀ q : Nat, s.heap.size ≤ q → lA s q := fun _ h => h
  have hbA : ¬ lA s sa := Nat.not_le.mpr hbl
  have hK1 := hK.sub (tys' := [(cI, .int)]) [0] rfl
  obtain ⟨r, n0', v0', n1', v1', b', pb', B', ⟨z, rfl⟩, ⟨rm, hF, hLc, hc0, hs0, hM⟩, ⟨rm2, hF2, hLc2, hc2, hs2, hM2⟩⟩ := o_byteAt l dC dI cI ad am th hI (xs (i + 1)) (xs (i + 2))
  refine lv_aload_n hx hb d_la_454 rfl (lv_at hl 1 rfl) ?_
  refine lv_aload_n hx hb d_la_455 rfl (lv_at hl 0 rfl) ?_
  refine lv_iload hx hb d_la_456 (lv_at hl 4 rfl) ?_
  refine lv_iconst (v := nI 1) hx hb d_la_458 (by decide) ?_
  refine lv_iadd hx hb d_la_459 ?_
  refine mk_ti (y := nI (i + 1)) (nI_add i 1) ?_
  refine va_sld hx hb hX hbl hbA hS (vp_in_nI (by omega) (by omega)) d_la_460 ?_
  refine mk_ti (y := xs (i + 1)) (by rw [nI_clamp (by omega)]) ?_
  refine lv_aload_n hx hb d_la_461 rfl (lv_at hl 0 rfl) ?_
  refine lv_iload hx hb d_la_462 (lv_at hl 4 rfl) ?_
  refine lv_iconst (v := nI 2) hx hb d_la_464 (by decide) ?_
  refine lv_iadd hx hb d_la_465 ?_
  refine mk_ti (y := nI (i + 2)) (nI_add i 2) ?_
  refine va_sld hx hb hX hbl hbA hS (vp_in_nI (by omega) (by omega)) d_la_466 ?_
  refine mk_ti (y := xs (i + 2)) (by rw [nI_clamp (by omega)]) ?_
  refine mk_g1 (wr := wM cI am th U Z B bm ++ wO cL o g) (W.runV (As := [.int (xs (i + 1)), .int (xs (i + 2))]) (rest := []) S (hM _) (gV 2 hts k_209 k_210 k_211 k_24 k_212 (by decide +kernel) ⟨by show rm.frames + 1 ≤ 10; omega, by show 8 + (3 + 11) + rm.locals ≤ 372; omega⟩ hc0 hs0) (mk_vM hP hD hK1 hT hS hA [0, 1, 2, 3, 4, 5, 6, 7, 8, 9, 10] rfl rfl (by decide) (q0 := 0) (ci := 0) rfl rfl) rfl rfl hl.1 rfl (lv_room (Nat.le_of_ble_eq_true rfl)) d_la_467 ⟨by show _ ≤ 1050; omega, by show _ ≤ 11388; omega⟩) hP hD hS hA [0, 1, 2, 3, 4, 5, 6, 7, 8, 9, 10] [11, 12, 13, 14, 15, 16] rfl rfl (by decide) (by decide) (fun v w1 H locs hΦ hP hD hS => ?_)
  obtain ⟨rfl, rfl⟩ := hΦ
  refine lv_aload_n hx hb d_la_470 rfl (lv_at hl 2 rfl) ?_
  refine lv_aload_n hx hb d_la_471 rfl (lv_at hl 0 rfl) ?_
  refine lv_iload hx hb d_la_472 (lv_at hl 4 rfl) ?_
  refine lv_iconst (v := nI 1) hx hb d_la_474 (by decide) ?_
  refine lv_iadd hx hb d_la_475 ?_
  refine mk_ti (y := nI (i + 1)) (nI_add i 1) ?_
  refine va_sld hx hb hX hbl hbA hS (vp_in_nI (by omega) (by omega)) d_la_476 ?_
  refine mk_ti (y := xs (i + 1)) (by rw [nI_clamp (by omega)]) ?_
  refine lv_aload_n hx hb d_la_477 rfl (lv_at hl 0 rfl) ?_
  refine lv_iload hx hb d_la_478 (lv_at hl 4 rfl) ?_
  refine lv_iconst (v := nI 2) hx hb d_la_480 (by decide) ?_
  refine lv_iadd hx hb d_la_481 ?_
  refine mk_ti (y := nI (i + 2)) (nI_add i 2) ?_
  refine va_sld hx hb hX hbl hbA hS (vp_in_nI (by omega) (by omega)) d_la_482 ?_
  refine mk_ti (y := xs (i + 2)) (by rw [nI_clamp (by omega)]) ?_
  refine mk_g1 (wr := wO cL o g ++ wL cI ad n0' v0' n1' v1' b' pb' B') (W.runV (As := [.int (xs (i + 1)), .int (xs (i + 2))]) (rest := [.int z]) S (hM2 _) (gV 2 hts k_648 k_649 k_650 k_29 k_651 (by decide +kernel) ⟨by show rm2.frames + 1 ≤ 10; omega, by show 8 + (3 + 11) + rm2.locals ≤ 372; omega⟩ hc2 hs2) (mk_vM hP hD hK1 hT hS hA [0, 1, 2, 3, 4] rfl rfl (by decide) (q0 := 0) (ci := 5) rfl rfl) rfl rfl hl.1 rfl (lv_room (Nat.le_of_ble_eq_true rfl)) d_la_483 ⟨by show _ ≤ 1050; omega, by show _ ≤ 11388; omega⟩) hP hD hS hA [0, 1, 2, 3, 4] [5, 6, 7, 8, 9, 10, 11, 12, 13, 14, 15, 16] rfl rfl (by decide) (by decide) (fun v w1 H locs hΦ hP hD hS => ?_)
  obtain ⟨rfl, th', U', Z', bm', rfl, hI'⟩ := hΦ
  refine lv_icmp_eq (tgt := 554) hx hb d_la_486 (by decide) (fun _ => ?_) (fun h9 => absurd rfl h9)
  refine W.widen (k := cells + 1) (n := slots + 6) (by omega) (by omega) ?_
  exact kk n0' v0' n1' v1' b' pb' B' th' U' Z' bm' g _ _ _ hI' (hP.sub [1, 2, 3, 4, 5, 6, 7, 8, 9, 10, 11, 12, 13, 14, 15, 16, 0] rfl) (hD.sub [1, 2, 3, 4, 5, 6, 7, 8, 9, 10, 11, 12, 13, 14, 15, 16, 0] (by decide) rfl) hS hl
set_option maxHeartbeats 2000000 in
set_option maxRecDepth 100000 in
theorem lc_sum {p : Program} {l : Launch} {e : Env} {s : State} {m : MethodId} {below : List Frame} {meth : Method} {c : Code} {dC : Nat → ClassId} {dI : Nat → Nat → Nat} {cI cL : ClassId} {sa L : Nat} {xs : Nat → Int32} {Q : State → Prop} {ad am : Nat → Nat} {o i cells slots : Nat} {n0 : Nat} {v0 : Nat → Nat} {n1 : Nat} {v1 b pb B : Nat → Nat} {th : Int32} {U Z bm : Nat → Nat} {g : Nat → Int64} {H : Heap} {locs : List Loc} {ls : Array Slot} (hH : lH p l s m c dC dI cI cL sa L xs) (hi : i + 4 ≤ L) (hL : L ≤ 2048) (hce : cells + 1 ≤ 1050) (hsl : slots + 6 ≤ 11388) (hI : lwI n0 v0 n1 v1 b pb B U Z bm) (hP : va_P (dC, dI) vwCl (wL cI ad n0 v0 n1 v1 b pb B ++ (wM cI am th U Z B bm ++ wO cL o g)) H) (hD : va_D (lA s) (wL cI ad n0 v0 n1 v1 b pb B ++ (wM cI am th U Z B bm ++ wO cL o g))) (hS : va_S (lA s) s.heap H locs) (hl : lv_has ls 7 [(0, .ref sa), (1, .ref (ad 0)), (2, .ref (am 0)), (3, .ref o), (4, .int (nI i))]) (kk : lK p l e s m below meth c dC dI cI cL ad am o sa i cells slots Q) : W p l e room_1 s m #[Value.ref sa] below meth c H locs cells slots Q (F0 m 491 ls []) := by
  obtain ⟨S, hX, hbl, hK, hT, hN, htr⟩ := hH
  obtain ⟨hx, hb, hml, hown, hts⟩ := id S
  have hA : ∀ q : Nat, s.heap.size ≤ q → lA s q := fun _ h => h
  have hbA : ¬ lA s sa := Nat.not_le.mpr hbl
  have hK1 := hK.sub (tys' := [(cI, .int)]) [0] rfl
  obtain ⟨r, n0', v0', n1', v1', b', pb', B', ⟨z, rfl⟩, ⟨rm, hF, hLc, hc0, hs0, hM⟩, ⟨rm2, hF2, hLc2, hc2, hs2, hM2⟩⟩ := o_sum l dC dI cI ad am th hI (xs (i + 1))
  refine lv_aload_n hx hb d_la_491 rfl (lv_at hl 1 rfl) ?_
  refine lv_aload_n hx hb d_la_492 rfl (lv_at hl 0 rfl) ?_
  refine lv_iload hx hb d_la_493 (lv_at hl 4 rfl) ?_
  refine lv_iconst (v := nI 1) hx hb d_la_495 (by decide) ?_
  refine lv_iadd hx hb d_la_496 ?_
  refine mk_ti (y := nI (i + 1)) (nI_add i 1) ?_
  refine va_sld hx hb hX hbl hbA hS (vp_in_nI (by omega) (by omega)) d_la_497 ?_
  refine mk_ti (y := xs (i + 1)) (by rw [nI_clamp (by omega)]) ?_
  refine mk_g1 (wr := wM cI am th U Z B bm ++ wO cL o g) (W.runV (As := [.int (xs (i + 1))]) (rest := []) S (hM _) (gV 1 hts k_217 k_218 k_219 k_24 k_220 (by decide +kernel) ⟨by show rm.frames + 1 ≤ 10; omega, by show 8 + (2 + 11) + rm.locals ≤ 372; omega⟩ hc0 hs0) (mk_vM hP hD hK1 hT hS hA [0, 1, 2, 3, 4, 5, 6, 7, 8, 9, 10] rfl rfl (by decide) (q0 := 0) (ci := 0) rfl rfl) rfl rfl hl.1 rfl (lv_room (Nat.le_of_ble_eq_true rfl)) d_la_498 ⟨by show _ ≤ 1050; omega, by show _ ≤ 11388; omega⟩) hP hD hS hA [0, 1, 2, 3, 4, 5, 6, 7, 8, 9, 10] [11, 12, 13, 14, 15, 16] rfl rfl (by decide) (by decide) (fun v w1 H locs hΦ hP hD hS => ?_)
  obtain ⟨rfl, rfl⟩ := hΦ
  refine lv_aload_n hx hb d_la_501 rfl (lv_at hl 2 rfl) ?_
  refine lv_aload_n hx hb d_la_502 rfl (lv_at hl 0 rfl) ?_
  refine lv_iload hx hb d_la_503 (lv_at hl 4 rfl) ?_
  refine lv_iconst (v := nI 1) hx hb d_la_505 (by decide) ?_
  refine lv_iadd hx hb d_la_506 ?_
  refine mk_ti (y := nI (i + 1)) (nI_add i 1) ?_
  refine va_sld hx hb hX hbl hbA hS (vp_in_nI (by omega) (by omega)) d_la_507 ?_
  refine mk_ti (y := xs (i + 1)) (by rw [nI_clamp (by omega)]) ?_
  refine mk_g1 (wr := wO cL o g ++ wL cI ad n0' v0' n1' v1' b' pb' B') (W.runV (As := [.int (xs (i + 1))]) (rest := [.int z]) S (hM2 _) (gV 1 hts k_652 k_653 k_654 k_29 k_655 (by decide +kernel) ⟨by show rm2.frames + 1 ≤ 10; omega, by show 8 + (2 + 11) + rm2.locals ≤ 372; omega⟩ hc2 hs2) (mk_vM hP hD hK1 hT hS hA [0, 1, 2, 3, 4] rfl rfl (by decide) (q0 := 0) (ci := 5) rfl rfl) rfl rfl hl.1 rfl (lv_room (Nat.le_of_ble_eq_true rfl)) d_la_508 ⟨by show _ ≤ 1050; omega, by show _ ≤ 11388; omega⟩) hP hD hS hA [0, 1, 2, 3, 4] [5, 6, 7, 8, 9, 10, 11, 12, 13, 14, 15, 16] rfl rfl (by decide) (by decide) (fun v w1 H locs hΦ hP hD hS => ?_)
  obtain ⟨rfl, th', U', Z', bm', rfl, hI'⟩ := hΦ
  refine lv_icmp_eq (tgt := 554) hx hb d_la_511 (by decide) (fun _ => ?_) (fun h9 => absurd rfl h9)
  refine W.widen (k := cells + 1) (n := slots + 6) (by omega) (by omega) ?_
  exact kk n0' v0' n1' v1' b' pb' B' th' U' Z' bm' g _ _ _ hI' (hP.sub [1, 2, 3, 4, 5, 6, 7, 8, 9, 10, 11, 12, 13, 14, 15, 16, 0] rfl) (hD.sub [1, 2, 3, 4, 5, 6, 7, 8, 9, 10, 11, 12, 13, 14, 15, 16, 0] (by decide) rfl) hS hl
set_option maxHeartbeats 2000000 in
set_option maxRecDepth 100000 in
theorem lc_seconds {p : Program} {l : Launch} {e : Env} {s : State} {m : MethodId} {below : List Frame} {meth : Method} {c : Code} {dC : Nat → ClassId} {dI : Nat → Nat → Nat} {cI cL : ClassId} {sa L : Nat} {xs : Nat → Int32} {Q : State → Prop} {ad am : Nat → Nat} {o i cells slots : Nat} {n0 : Nat} {v0 : Nat → Nat} {n1 : Nat} {v1 b pb B : Nat → Nat} {th : Int32} {U Z bm : Nat → Nat} {g : Nat → Int64} {H : Heap} {locs : List Loc} {ls : Array Slot} (hH : lH p l s m c dC dI cI cL sa L xs) (hi : i + 4 ≤ L) (hL : L ≤ 2048) (hce : cells + 1 ≤ 1050) (hsl : slots + 6 ≤ 11388) (hI : lwI n0 v0 n1 v1 b pb B U Z bm) (hP : va_P (dC, dI) vwCl (wL cI ad n0 v0 n1 v1 b pb B ++ (wM cI am th U Z B bm ++ wO cL o g)) H) (hD : va_D (lA s) (wL cI ad n0 v0 n1 v1 b pb B ++ (wM cI am th U Z B bm ++ wO cL o g))) (hS : va_S (lA s) s.heap H locs) (hl : lv_has ls 7 [(0, .ref sa), (1, .ref (ad 0)), (2, .ref (am 0)), (3, .ref o), (4, .int (nI i))]) (kk : lK p l e s m below meth c dC dI cI cL ad am o sa i cells slots Q) : W p l e room_1 s m #[Value.ref sa] below meth c H locs cells slots Q (F0 m 516 ls []) := by
  obtain ⟨S, hX, hbl, hK, hT, hN, htr⟩ := hH
  obtain ⟨hx, hb, hml, hown, hts⟩ := id S
  have hA : ∀ q : Nat, s.heap.size ≤ q → lA s q := fun _ h => h
  have hbA : ¬ lA s sa := Nat.not_le.mpr hbl
  have hK1 := hK.sub (tys' := [(cI, .int)]) [0] rfl
  obtain ⟨r, n0', v0', n1', v1', b', pb', B', ⟨z, rfl⟩, ⟨rm, hF, hLc, hc0, hs0, hM⟩, ⟨rm2, hF2, hLc2, hc2, hs2, hM2⟩⟩ := o_seconds l dC dI cI ad am th hI (xs (i + 1)) (xs (i + 2))
  refine lv_aload_n hx hb d_la_516 rfl (lv_at hl 1 rfl) ?_
  refine lv_aload_n hx hb d_la_517 rfl (lv_at hl 0 rfl) ?_
  refine lv_iload hx hb d_la_518 (lv_at hl 4 rfl) ?_
  refine lv_iconst (v := nI 1) hx hb d_la_520 (by decide) ?_
  refine lv_iadd hx hb d_la_521 ?_
  refine mk_ti (y := nI (i + 1)) (nI_add i 1) ?_
  refine va_sld hx hb hX hbl hbA hS (vp_in_nI (by omega) (by omega)) d_la_522 ?_
  refine mk_ti (y := xs (i + 1)) (by rw [nI_clamp (by omega)]) ?_
  refine lv_aload_n hx hb d_la_523 rfl (lv_at hl 0 rfl) ?_
  refine lv_iload hx hb d_la_524 (lv_at hl 4 rfl) ?_
  refine lv_iconst (v := nI 2) hx hb d_la_526 (by decide) ?_
  refine lv_iadd hx hb d_la_527 ?_
  refine mk_ti (y := nI (i + 2)) (nI_add i 2) ?_
  refine va_sld hx hb hX hbl hbA hS (vp_in_nI (by omega) (by omega)) d_la_528 ?_
  refine mk_ti (y := xs (i + 2)) (by rw [nI_clamp (by omega)]) ?_
  refine mk_g1 (wr := wM cI am th U Z B bm ++ wO cL o g) (W.runV (As := [.int (xs (i + 1)), .int (xs (i + 2))]) (rest := []) S (hM _) (gV 2 hts k_227 k_228 k_229 k_24 k_230 (by decide +kernel) ⟨by show rm.frames + 1 ≤ 10; omega, by show 8 + (3 + 11) + rm.locals ≤ 372; omega⟩ hc0 hs0) (mk_vM hP hD hK1 hT hS hA [0, 1, 2, 3, 4, 5, 6, 7, 8, 9, 10] rfl rfl (by decide) (q0 := 0) (ci := 0) rfl rfl) rfl rfl hl.1 rfl (lv_room (Nat.le_of_ble_eq_true rfl)) d_la_529 ⟨by show _ ≤ 1050; omega, by show _ ≤ 11388; omega⟩) hP hD hS hA [0, 1, 2, 3, 4, 5, 6, 7, 8, 9, 10] [11, 12, 13, 14, 15, 16] rfl rfl (by decide) (by decide) (fun v w1 H locs hΦ hP hD hS => ?_)
  obtain ⟨rfl, rfl⟩ := hΦ
  refine lv_aload_n hx hb d_la_532 rfl (lv_at hl 2 rfl) ?_
  refine lv_aload_n hx hb d_la_533 rfl (lv_at hl 0 rfl) ?_
  refine lv_iload hx hb d_la_534 (lv_at hl 4 rfl) ?_
  refine lv_iconst (v := nI 1) hx hb d_la_536 (by decide) ?_
  refine lv_iadd hx hb d_la_537 ?_
  refine mk_ti (y := nI (i + 1)) (nI_add i 1) ?_
  refine va_sld hx hb hX hbl hbA hS (vp_in_nI (by omega) (by omega)) d_la_538 ?_
  refine mk_ti (y := xs (i + 1)) (by rw [nI_clamp (by omega)]) ?_
  refine lv_aload_n hx hb d_la_539 rfl (lv_at hl 0 rfl) ?_
  refine lv_iload hx hb d_la_540 (lv_at hl 4 rfl) ?_
  refine lv_iconst (v := nI 2) hx hb d_la_542 (by decide) ?_
  refine lv_iadd hx hb d_la_543 ?_
  refine mk_ti (y := nI (i + 2)) (nI_add i 2) ?_
  refine va_sld hx hb hX hbl hbA hS (vp_in_nI (by omega) (by omega)) d_la_544 ?_
  refine mk_ti (y := xs (i + 2)) (by rw [nI_clamp (by omega)]) ?_
  refine mk_g1 (wr := wO cL o g ++ wL cI ad n0' v0' n1' v1' b' pb' B') (W.runV (As := [.int (xs (i + 1)), .int (xs (i + 2))]) (rest := [.long z]) S (hM2 _) (gV 2 hts k_656 k_657 k_658 k_29 k_659 (by decide +kernel) ⟨by show rm2.frames + 1 ≤ 10; omega, by show 8 + (11 + 11) + rm2.locals ≤ 372; omega⟩ hc2 hs2) (mk_vM hP hD hK1 hT hS hA [0, 1, 2, 3, 4] rfl rfl (by decide) (q0 := 0) (ci := 5) rfl rfl) rfl rfl hl.1 rfl (lv_room (Nat.le_of_ble_eq_true rfl)) d_la_545 ⟨by show _ ≤ 1050; omega, by show _ ≤ 11388; omega⟩) hP hD hS hA [0, 1, 2, 3, 4] [5, 6, 7, 8, 9, 10, 11, 12, 13, 14, 15, 16] rfl rfl (by decide) (by decide) (fun v w1 H locs hΦ hP hD hS => ?_)
  obtain ⟨rfl, th', U', Z', bm', rfl, hI'⟩ := hΦ
  refine W.lcmp hx hb d_la_548 ?_
  refine lv_if_eq (tgt := 554) hx hb d_la_549 (by decide) (fun _ => ?_) (fun h9 => absurd (by simp [lg_cmp]) h9)
  refine W.widen (k := cells + 1) (n := slots + 6) (by omega) (by omega) ?_
  exact kk n0' v0' n1' v1' b' pb' B' th' U' Z' bm' g _ _ _ hI' (hP.sub [1, 2, 3, 4, 5, 6, 7, 8, 9, 10, 11, 12, 13, 14, 15, 16, 0] rfl) (hD.sub [1, 2, 3, 4, 5, 6, 7, 8, 9, 10, 11, 12, 13, 14, 15, 16, 0] (by decide) rfl) hS hl
