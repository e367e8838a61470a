/-! throws: a new object of a class X with a text; the world w1 stays behind -/
section TH
variable {p : Program} {l : Launch} {e : Env} {R : Room} {s : State} {m : MethodId} {args : Array Value} {below : List Frame} {meth : Method} {c : Code} {T : State} {locs : List Loc}
theorem th_sz (X : Stand p l e R s m args below meth c T locs 0 0) : T.heap.size = s.heap.size ∧ T.slotsUsed = s.slotsUsed := by
  obtain ⟨q1, q2, q3, q4, q5, q6⟩ := X.same
  have hsz : T.heap.size = s.heap.size := Nat.le_antisymm q3 q2
  refine ⟨hsz, ?_⟩
  have h : T.slotsUsed = s.slotsUsed + ((T.heap.toList.drop s.heap.size).map (·.slots.size)).sum := q4
  rw [List.drop_eq_nil_of_le (by rw [Array.length_toList, hsz]; exact Nat.le_refl _)] at h
  simpa using h
/-- the same walk, counted from where it stands -/
theorem th_reb (X : Stand p l e R s m args below meth c T locs 0 0) : Stand p l e R ({ s with heap := T.heap, slotsUsed := T.slotsUsed, vm := T.vm } : State) m args below meth c T [] 0 0 := by
  obtain ⟨hsz, hsl⟩ := th_sz X
  have q1 := X.same.1
  have hm : ∀ z : MethodId, T.vm.method? z = s.vm.method? z := fun z => X.warmed.alike.method? z
  have hlu : ({ s with heap := T.heap, slotsUsed := T.slotsUsed, vm := T.vm } : State).localsInUse = s.localsInUse := by
    have hf : ({ s with heap := T.heap, slotsUsed := T.slotsUsed, vm := T.vm } : State).frames = s.frames := rfl
    simp only [State.localsInUse, hf, X.frames, hm]
  have hd : T.heap.toList.drop T.heap.size = [] := List.drop_eq_nil_of_le (by simp)
  refine ⟨X.admits, X.cas, X.clock, X.frames, ?_, ?_, X.method', X.code, X.here, X.tail, State.WarmedH.refl _, X.limits, X.bytes, ?_⟩
  · have h := X.room
    have hbk := X.book
    simp only [State.hasRoom, Bool.and_eq_true, decide_eq_true_eq] at h ⊢
    obtain ⟨⟨⟨⟨h1, h2⟩, h3⟩, h4⟩, h5⟩ := h
    rw [hlu]
    refine ⟨⟨⟨⟨h1, h2⟩, ?_⟩, ?_⟩, hbk⟩
    · show T.heap.size + R.cells ≤ _
      rw [hsz]; exact h3
    · show T.slotsUsed + R.slots ≤ _
      rw [hsl]; exact h4
  · have h := X.hears
    revert h
    cases below with
    | nil => simp [State.hears, hm]
    | cons f r => cases f <;> simp [State.hears, State.code?_eq, hm]
  · refine ⟨?_, Nat.le_refl _, Nat.le_refl _, ?_, ?_, fun a c h => ⟨c, h, rfl, rfl, fun _ _ => rfl⟩⟩
    · have h1 : T.setVm s.vm = { s.setFrames T.frames with heap := T.heap, slotsUsed := T.slotsUsed } := q1
      have h2 : T = (T.setVm s.vm).setVm T.vm := rfl
      rw [h1] at h2
      exact h2
    · show T.slotsUsed = T.slotsUsed + ((T.heap.toList.drop T.heap.size).map (·.slots.size)).sum
      rw [hd]; rfl
    · show ((T.heap.toList.drop T.heap.size).map (·.slots.size)).sum ≤ 0
      rw [hd]; exact Nat.le_refl _
end TH
theorem th_zq {C n d : String} {A : Nat → Prop} {U : State} {args : Array Value} (h : va_Zq C n d A U U.heap) : (Cond.isRef (.static C n d)).before args U = true := by
  rcases h with h | ⟨t, h⟩ <;> obtain ⟨cf, kf, fi, f, a, cell, h1, h2, h3, h4, h5, h6, h7, -⟩ := h <;> simp [Cond.before, Cond.holds, Cond.value, Term.eval, State.fieldNamed?, h1, h2, h3, h4, h5, h6, h7]
def mk_tq (X : String) (D : va_G) (cl : List vw_C) (w1 : va_W) (A : Nat → Prop) : Array Value → State → Outcome → State → Prop := fun _ st o t => ∃ (x : Addr) (ce : Cell), o = .threw x ∧ t.heap[x]? = some ce ∧ ce.vm.isStatics = false ∧ st.vm.findClass X = some ce.cls ∧ va_P D cl w1 t.heap ∧ va_D A w1 ∧ va_F A st t ∧ st.WarmedH t.vm ∧ ∃ L, st.sameButNew ({ t with vm := st.vm } : State) L 1 6 ∧ ∀ q ∈ L, A q.base
def mT (l : Launch) (y : MethodName) (ws : List Cond) (rm : Room) (av : List Value) (D : va_G) (cl : List vw_C) (tys : List (ClassId × FieldType)) (w : va_W) (X : String) (w1 : va_W) : Prop := ∀ sz : Nat, MetFree l y (headSpec ws rm) (va_Pc av (mk_pM D cl tys w sz)) (fun _ _ _ _ _ => True) (mk_tq X D cl w1 (va_A w sz))
def th_names : List String := ["java/lang/RuntimeException", "java/lang/Exception"]
/-- the atoms of a throw that lie in the tables -/
def th_at (own : String) (ic : Nat) (X : String) : List Cond := (Bundle.ownAtoms own ic X th_names).filter goodWord
section THI
variable {l : Launch} {y : MethodName} {ws ws' : List Cond} {rm : Room} {cc : ByteArray} {maxL : Nat} {av : List Value} {D : va_G} {cl : List vw_C} {tys : List (ClassId × FieldType)} {w : va_W}
theorem th_cast {X : String} {N : Nat} {args : Array Value} {U : State} (h : (Cond.instantiable X N).before args U = true) : (Cond.castable X X).before args U = true := by
  obtain ⟨c1, kX', hc1, -⟩ := Cond.instantiable_spec h
  have h9 : U.vm.assignable c1 c1 = true := by
    unfold Vm.assignable Vm.assignableAux
    simp
  simp [Cond.before, Cond.holds, Cond.value, hc1, h9]
theorem th_decl {y : MethodName} {bytes : ByteArray} {n : Nat} {ret : Option FieldType} {args : Array Value} {U : State} (h1 : (Cond.instanceMethod y).before args U = true) (h2 : (Cond.code y bytes n ret).before args U = true) : (Cond.declares y).before args U = true := by
  obtain ⟨obj, methO, hnO, hmO, hstO, habO⟩ := Cond.instanceMethod_spec h1
  obtain ⟨methO', cO, hmO', hcO, hbO, hlO, -, hlockO, -, hsigO⟩ := Cond.code_spec hnO h2
  cases hmO.symm.trans hmO'
  simp [Cond.before, Cond.holds, Cond.value, hnO, hmO, hstO, hsigO]
def th_rest (X : String) : List Cond := [.declares (Bundle.initS "java/lang/RuntimeException"), .declares (Bundle.initS "java/lang/Exception"), .declares (Bundle.initS Bundle.tN), .isRef (.static Bundle.tN "UNASSIGNED_STACK" Bundle.steD), .isRef (.static Bundle.tN "SUPPRESSED_SENTINEL" Bundle.listD), .laysStatic Bundle.tN "UNASSIGNED_STACK" Bundle.steD, .laysStatic Bundle.tN "SUPPRESSED_SENTINEL" Bundle.listD, .castable X X]
def th_ok (own : String) (ic : Nat) (X : String) : Bool := ((Bundle.ownAtoms own ic X th_names).filter (fun w => !goodWord w)).all (fun w => decide (w ∈ th_rest X))
theorem th_all {own X : String} {ic : Nat} {args : Array Value} {U : State} {A : Nat → Prop} (h1 : ∀ a ∈ th_at own ic X, a.before args U = true) (hT : sT A U U.heap) (hi : (Cond.instantiable X 6).before args U = true)
    (hrest : th_ok own ic X = true) : ∀ a ∈ Bundle.ownAtoms own ic X th_names, a.before args U = true := by
  intro a ha
  by_cases hg : goodWord a = true
  · exact h1 a (List.mem_filter.mpr ⟨ha, hg⟩)
  · have h2 := List.all_eq_true.mp hrest a (List.mem_filter.mpr ⟨ha, by simpa using hg⟩)
    simp only [th_rest, List.mem_cons, List.not_mem_nil, or_false, decide_eq_true_eq] at h2
    rcases h2 with rfl | rfl | rfl | rfl | rfl | rfl | rfl | rfl
    · exact th_decl (h1 (.instanceMethod (Bundle.initS "java/lang/RuntimeException")) (List.mem_filter.mpr ⟨by simp [Bundle.ownAtoms, Bundle.chainSAtoms, Bundle.passSAtoms, th_names], rfl⟩)) (h1 (.code (Bundle.initS "java/lang/RuntimeException") Bundle.six 2 none) (List.mem_filter.mpr ⟨by simp [Bundle.ownAtoms, Bundle.chainSAtoms, Bundle.passSAtoms, th_names], rfl⟩))
    · exact th_decl (h1 (.instanceMethod (Bundle.initS "java/lang/Exception")) (List.mem_filter.mpr ⟨by simp [Bundle.ownAtoms, Bundle.chainSAtoms, Bundle.passSAtoms, th_names], rfl⟩)) (h1 (.code (Bundle.initS "java/lang/Exception") Bundle.six 2 none) (List.mem_filter.mpr ⟨by simp [Bundle.ownAtoms, Bundle.chainSAtoms, Bundle.passSAtoms, th_names], rfl⟩))
    · exact th_decl (h1 (.instanceMethod (Bundle.initS Bundle.tN)) (List.mem_filter.mpr ⟨by simp [Bundle.ownAtoms, Bundle.throwableSAtoms], rfl⟩)) (h1 (.code (Bundle.initS Bundle.tN) LibCode.Throwable.InitS.code 2 none) (List.mem_filter.mpr ⟨by simp [Bundle.ownAtoms, Bundle.throwableSAtoms], rfl⟩))
    · exact th_zq hT.un
    · exact th_zq hT.se
    · exact hT.lu.use
    · exact hT.ls.use
    · exact th_cast hi
theorem mk_Th {X : String} {w1 : va_W} {ret : Option FieldType} (hy : plainName y.cls = true) (hw : ws = Cond.code y cc maxL ret :: ws') (hlen : (lg_sl av).length ≤ maxL) (hgood : ∀ z ∈ ws, goodWord z = true) (htr : l.stackTraces = false) (hfit : Bundle.fit X = true) (hRf : 5 < rm.frames) (hRl : 82 ≤ rm.locals) (hRc : rm.cells = 1) (hRs : rm.slots = 6)
    (body : ∀ (p : Program) (e : Env) (s : State) (m : MethodId) (below : List Frame) (meth : Method) (c : Code) (Q : State → Prop) (A : Nat → Prop) (ls : Array Slot), CallFix p m c cc maxL s av.toArray ws y.cls → va_P D cl w s.heap → va_K D cl tys s → sT A s s.heap → va_S A s.heap s.heap [] → lv_has ls maxL (lv_args 0 av) → va_D A w → (∀ q : Nat, s.heap.size ≤ q → A q) →
      (∀ (pc : Nat) (ls : Array Slot) (H : Heap) (locs : List Loc) (ia ib ic : Nat) (tx : String) (q9 : Nat), ls.size = maxL → decode cc pc = .ok (.new ia, 3) → decode cc (pc + 3) = .ok (.dup, 1) → decode cc (pc + 4) = .ok (.ldc ib, 2) → decode cc (pc + 6) = .ok (.invokespecial ic, 3) → decode cc (pc + 9) = .ok (.athrow, 1) →
        Cond.classLink y.cls ia X ∈ ws → Cond.instantiable X 6 ∈ ws → Cond.initialized X ∈ ws → (∀ z ∈ th_at y.cls ic X, z ∈ ws) → th_ok y.cls ic X = true → vk_R y.cls ib tx q9 s →
        va_P D cl w1 H → va_D A w1 → va_S A s.heap H locs → W p l e rm s m av.toArray below meth c H locs 0 0 Q (F0 m pc ls [])) → W p l e rm s m av.toArray below meth c s.heap [] 0 0 Q (F0 m 0 ls [])) : mT l y ws rm av D cl tys w X w1 := by
  intro sz
  refine MetFree.of_bodyS (code := cc) (maxLocals := maxL) (ret := ret) hy ?_ ?_
  · intro args s m h hn
    obtain ⟨meth, c, h1, h2, h3, h4, h5, h6, -, -⟩ := Cond.code_spec hn (atoms_spec (ws := ws) h _ (by rw [hw]; exact List.mem_cons_self))
    exact ⟨meth, c, h1, h2, h3, h4, h5, h6⟩
  · intro p e s m args below meth c s₁ B hml hv _
    obtain ⟨rfl, hsz, hP, hK, hD0, hT⟩ := hv
    subst hsz
    have hD := hD0.self (sz := s.heap.size)
    have hA : ∀ q : Nat, s.heap.size ≤ q → va_A w s.heap.size q := fun q h => Or.inr h
    have hl := lv_entry av (n := maxL) hlen
    have hlocks := B.notSynchronized
    have hts := atoms_spec (ws := ws) B.pre
    have hh0 : s₁.heap = s.heap := by rw [B.state]; rfl
    have hown : s.vm.findClass y.cls = some m.cls := findClass_of_methodNamed B.named
    have hno : c.exceptionTable.isEmpty = true := BodyLoose.noHandlers B (hts _ (by rw [hw]; exact List.mem_cons_self))
    have key : W p l e rm s m av.toArray below meth c s.heap [] 0 0 (fun t => ∃ o, t.status = .running ∧ Ended t below o ∧ mk_tq X D cl w1 (va_A w s.heap.size) av.toArray s o t) (entryFrame m av.toArray maxL) := by
      rw [lg_entry_eq]
      generalize (lg_sl av ++ List.replicate (maxL - (lg_sl av).length) Slot.unset).toArray = ls at hl ⊢
      generalize va_A w s.heap.size = A at hD hA hT ⊢
      refine body p e s m below meth c _ A ls ⟨B.exec, B.bytes, hml, hown, hts⟩ hP hK hT va_S.rf hl hD hA ?_
      intro pc ls H locs ia ib ic tx q9 hls d0 d3 d4 d6 d9 k1 k2 k3 k4 k5 hZ hP1 hD1 hS1 T hT1 X0
      have X1 := th_reb X0
      have hW0 : s.WarmedH T.vm := X0.warmed
      have hT0 : sT A T T.heap := by rw [hT1]; exact sT.warm hW0 (hT.kept (fun q h1 h2 => hS1.2.1 q h1 h2))
      obtain ⟨s', hs'⟩ : ∃ s' : State, s' = ({ s with heap := T.heap, slotsUsed := T.slotsUsed, vm := T.vm } : State) := ⟨_, rfl⟩
      rw [← hs'] at X1
      have e1 : s'.vm = T.vm := by rw [hs']
      have e2 : s'.heap = H := by rw [hs']; exact hT1
      have w8 : ∀ z ∈ ws, z.before av.toArray s' = true := fun z hz => word_at (s := s) (U := s') (by rw [e1]; exact hW0) (good_of_word (hgood z hz)) (hts z hz)
      have hown' : s'.vm.findClass y.cls = some m.cls := by rw [e1, hW0.alike.findClass]; exact hown
      have hT2 : sT A s' s'.heap := by rw [e2, ← hT1]; exact sT.same (u := T) e1.symm hT0
      have hat := th_all (own := y.cls) (X := X) (ic := ic) (args := av.toArray) (U := s') (A := A) (fun z hz => w8 z (k4 z hz)) hT2 (w8 _ k2) k5
      have hZ' : vk_R y.cls ib tx q9 s' := vk_R.warm (s := s) (U := s') (by rw [e1]; exact hW0) hZ
      have K : W p l e rm s' m av.toArray below meth c H [] 0 0 (fun t => ∃ o, t.status = .running ∧ Ended t below o ∧ mk_tq X D cl w1 A av.toArray s o t) (F0 m pc ls []) := by
        refine W.newc (own := y.cls) (C := X) (n := 6) B.exec B.bytes hown' (w8 _ k1) (w8 _ k2) (w8 _ k3) rfl d0 (by rw [hRc]; decide) (by rw [hRs]; decide) (fun cC kC f1 f2 f3 f4 => ?_)
        refine lv_dup B.exec B.bytes (pc := pc + 3) d3 rfl ?_
        refine va_ldcS B.exec B.bytes (pc := pc + 4) hown' hZ' d4 ?_
        intro T2 hT2 X2
        have hcell : T2.heap[H.size]? = some (freshCell cC kC) := by
          rw [hT2]
          simp [freshCell]
        obtain ⟨U, st, hrun, hend, hWU, hsame, ce, hce, hoc⟩ := X2.ctorThrowS B.exec (by rw [X2.admits.platform]; exact htr) (own := y.cls) (cls := X) (names := th_names) (ic := ic) hown' hfit (by decide) hat (fun x hx => by cases hx) f1 f2 hcell (by rw [e2]; exact Nat.le_refl _)
          (msg := .ref q9) rfl (g := F0 m (pc + 4 + 2) ls (.ref q9 :: .ref H.size :: .ref H.size :: [])) rfl (by rw [hml]; exact hls) rfl rfl (rest := []) rfl (by rw [B.bytes]; exact d6) (by rw [B.bytes]; exact d9)
          (fun x hx => by rw [Array.isEmpty_iff.mp hno] at hx; cases hx) hRf (by show 2 * 0 + 1 + (13 * (2 + 1) + 42) ≤ rm.locals; omega)
        have hkeep : ∀ q : Nat, q < H.size → U.heap[q]? = H[q]? := by
          intro q hq
          obtain ⟨-, -, -, -, -, h6⟩ := hsame
          have hx : s'.heap[q]? = some H[q] := by rw [e2]; exact Array.getElem?_eq_getElem hq
          obtain ⟨c', r1, r2, r3, r4⟩ := h6 q _ hx
          have r5 : U.heap[q]? = some c' := r1
          have r6 : c'.slots = H[q].slots := by
            apply Array.ext_getElem?
            intro i
            exact r4 i (by simp)
          rw [r5, Array.getElem?_eq_getElem hq, r2, r6]
        have hHs : H.size ≤ U.heap.size := by
          have := hsame.2.1
          rw [e2] at this
          exact this
        refine ⟨U, st, .threw H.size, hrun, hend, H.size, ce, rfl, hce, by rw [hoc.vm]; rfl, ?_, hP1.kept (fun k q hq => hkeep q.1 (hP1 k q hq).lt), hD1, ⟨Nat.le_trans hS1.1 hHs, fun q g1 g2 => ?_⟩, State.WarmedH.trans hW0 (by have h9 := hWU; rw [hs'] at h9; exact h9), locs, ?_, hS1.2.2⟩
        · have := hoc.cls
          rw [e1, hW0.alike.findClass] at this
          exact this
        · rw [hkeep q (Nat.lt_of_lt_of_le g1 hS1.1)]
          exact hS1.2.1 q g1 g2
        · obtain ⟨z1, z2⟩ := th_sz X0
          obtain ⟨r1, r2, r3, r4, r5, r6⟩ := hsame
          rw [hs'] at r1 r3 r4 r5
          have r3' : U.heap.size ≤ T.heap.size + 1 := r3
          have r4' : U.slotsUsed = T.slotsUsed + ((U.heap.toList.drop T.heap.size).map (·.slots.size)).sum := r4
          have r5' : ((U.heap.toList.drop T.heap.size).map (·.slots.size)).sum ≤ 6 := r5
          rw [z1] at r3' r4' r5'
          rw [z2] at r4'
          refine ⟨?_, Nat.le_trans hS1.1 hHs, r3', r4', r5', fun a c h => ?_⟩
          · exact congrArg (fun q : State => ({ q with vm := s.vm } : State)) r1
          · obtain ⟨c', g1, g2⟩ := X0.same.2.2.2.2.2 a c h
            have g3 : T.heap[a]? = some c' := g1
            refine ⟨c', ?_, g2⟩
            show U.heap[a]? = some c'
            rw [hkeep a (by rw [← hT1, z1]; exact (Array.getElem?_eq_some_iff.mp h).1), ← hT1]
            exact g3
      exact K T hT1 X1
    obtain ⟨t, a1, o, b1, b2, b3⟩ := key s₁ hh0 (Stand.of_body B)
    exact ⟨t, o, a1, b1, b2, b3⟩
end THI
