/-! pairs of classes, the first not castable to the second -/
def nc_W (a b : String) (U : State) : Prop := ∃ ca cb, U.vm.findClass a = some ca ∧ U.vm.findClass b = some cb ∧ U.vm.assignable ca cb = false
abbrev xA : String := "java/lang/IllegalArgumentException"
abbrev xI : String := "java/lang/IndexOutOfBoundsException"
abbrev xS : String := "java/lang/IllegalStateException"
def nc_X (U : State) : Prop := nc_W xI xA U ∧ nc_W xS xA U ∧ nc_W xS xI U
section NC
variable {a b : String} {u U s : State} {args : Array Value}
theorem nc_of (h : (Cond.not (.castable a b)).before args s = true) : nc_W a b s := by
  have hv := Cond.holds_not_iff.mp h
  simp only [Cond.value] at hv
  cases h1 : s.vm.findClass a with
  | none => simp [h1] at hv
  | some ca =>
    cases h2 : s.vm.findClass b with
    | none => simp [h1, h2] at hv
    | some cb => exact ⟨ca, cb, h1, h2, by simpa [h1, h2] using hv⟩
theorem nc_W.moved (hvm : u.vm.Alike U.vm) (h : nc_W a b u) : nc_W a b U := by
  obtain ⟨ca, cb, h1, h2, h3⟩ := h
  exact ⟨ca, cb, by rw [hvm.findClass]; exact h1, by rw [hvm.findClass]; exact h2, by rw [hvm.assignable]; exact h3⟩
theorem nc_X.moved (hvm : u.vm.Alike U.vm) (h : nc_X u) : nc_X U := ⟨h.1.moved hvm, h.2.1.moved hvm, h.2.2.moved hvm⟩
theorem nc_pass {pl : Platform} (hpl : pl.magicAccessors = ({} : Platform).magicAccessors) {d : ClassId} {pc : Nat} {thrown : ClassId} {y : ExceptionTableEntry} {own X N : String} (hown : s.vm.findClass own = some d) (h0 : y.catchType ≠ 0) (hlink : (Cond.classLink own y.catchType N).before args s = true) (ht : s.vm.findClass X = some thrown) (hno : nc_W X N s) : RowPassed pl s d pc thrown y := by
  obtain ⟨c', hc', hcl⟩ := Cond.classLink_spec hown hlink pl hpl
  obtain ⟨ca, cb, h1, h2, h3⟩ := hno
  cases h1.symm.trans ht
  cases h2.symm.trans hc'
  exact Or.inr ⟨h0, _, hcl, h3⟩
end NC
/-! any contract that returns: its answer and its world by a relation -/
def mk_gq (Φ : Value → va_W → Prop) (D : va_G) (cl : List vw_C) (A : Nat → Prop) : Array Value → State → Outcome → State → Prop := fun _ st o t => ∃ (v : Value) (w1 : va_W), o = .returned (some v) ∧ Φ v w1 ∧ va_P D cl w1 t.heap ∧ va_D A w1 ∧ va_F A st t
def mG (l : Launch) (y : MethodName) (ws : List Cond) (F Lc : Nat) (av : List Value) (D : va_G) (cl : List vw_C) (tys : List (ClassId × FieldType)) (w : va_W) (Φ : Value → va_W → Prop) : Prop := ∃ rm : Room, rm.frames ≤ F ∧ rm.locals ≤ Lc ∧ rm.cells = 0 ∧ rm.slots = 0 ∧ ∀ sz : Nat, Met l y ws rm (va_Pc av (mk_pM D cl tys w sz)) (mk_gq Φ D cl (va_A w sz)) 0 0 (va_A w sz)
/-- one that throws X -/
def mX (l : Launch) (y : MethodName) (ws : List Cond) (F Lc : Nat) (av : List Value) (D : va_G) (cl : List vw_C) (tys : List (ClassId × FieldType)) (w : va_W) (X : String) (w1 : va_W) : Prop := ∃ rm : Room, rm.frames ≤ F ∧ rm.locals ≤ Lc ∧ rm.cells = 1 ∧ rm.slots = 6 ∧ mT l y ws rm av D cl tys w X w1
section MG
variable {l : Launch} {y : MethodName} {ws : List Cond} {rm : Room} {F Lc : Nat} {av : List Value} {D : va_G} {cl : List vw_C} {tys : List (ClassId × FieldType)} {w w1 : va_W} {v : Value} {Φ Ψ : Value → va_W → Prop}
theorem mG.ofM (h : mM l y ws rm av D cl tys w (some v) w1) (hF : rm.frames ≤ F) (hL : rm.locals ≤ Lc) (hc : rm.cells = 0) (hs : rm.slots = 0) (hΦ : Φ v w1) : mG l y ws F Lc av D cl tys w Φ := by
  refine ⟨rm, hF, hL, hc, hs, fun sz p e ha hc hk s m args below hf happ hP hK => ?_⟩
  obtain ⟨n, o, h1, h2, h3, ⟨q1, q2, q3, q4⟩, q5⟩ := h sz p e ha hc hk s m args below hf happ hP hK
  exact ⟨n, o, h1, h2, h3, ⟨v, w1, q1, hΦ, q2, q3, q4⟩, q5⟩
theorem mG.ofR (h : mR l y ws rm av D cl tys w (some v)) (hF : rm.frames ≤ F) (hL : rm.locals ≤ Lc) (hc : rm.cells = 0) (hs : rm.slots = 0) (hΦ : Φ v w) : mG l y ws F Lc av D cl tys w Φ := by
  refine ⟨rm, hF, hL, hc, hs, fun sz p e ha hc hk s m args below hf happ hP hK => ?_⟩
  obtain ⟨h0, hsz, hPw, hKw, hD, hT⟩ := hP
  obtain ⟨n, o, h1, h2, h3, ⟨q1, q2⟩, L, q5, q6⟩ := h p e ha hc hk s m args below hf happ ⟨h0, hPw, hKw, hT.narrow (fun _ z => z.elim)⟩ hK
  exact ⟨n, o, h1, h2, h3, ⟨v, w, q1, hΦ, by rw [q2]; exact hPw, hD.self (sz := sz), by rw [q2]; exact Nat.le_refl _, fun q _ _ => by rw [q2]⟩, L, q5, fun q hq => (q6 q hq).elim⟩
theorem mG.ofE {w2 : (Nat → Nat) → Nat → va_W} (h : mE l y ws rm av D cl tys w (some v) w2) (hF : rm.frames ≤ F) (hL : rm.locals ≤ Lc) (hc : rm.cells = 0) (hs : rm.slots = 0) (hΦ : ∀ (q : Nat → Nat) (n : Nat), (∀ j, q j < 65536) → n ≤ 255 → Φ v (w2 q n)) : mG l y ws F Lc av D cl tys w Φ := by
  refine ⟨rm, hF, hL, hc, hs, fun sz p e ha hc hk s m args below hf happ hP hK => ?_⟩
  obtain ⟨n, o, h1, h2, h3, ⟨q1, q, n9, g1, g2, q2, q3, q4⟩, q5⟩ := h sz p e ha hc hk s m args below hf happ hP hK
  exact ⟨n, o, h1, h2, h3, ⟨v, w2 q n9, q1, hΦ q n9 g1 g2, q2, q3, q4⟩, q5⟩
theorem mX.of {X : String} (h : mT l y ws rm av D cl tys w X w1) (hF : rm.frames ≤ F) (hL : rm.locals ≤ Lc) (hc : rm.cells = 1) (hs : rm.slots = 6) : mX l y ws F Lc av D cl tys w X w1 := ⟨rm, hF, hL, hc, hs, h⟩
end MG
section MGC
variable {p : Program} {l : Launch} {e : Env} {R : Room} {s : State} {m : MethodId} {args : Array Value} {below : List Frame} {meth : Method} {c : Code} {H : Heap} {locs : List Loc} {cells slots : Nat} {Q : State → Prop}
variable {pc : Nat} {ls : Array Slot} {rest st0 : List Value} {a : Array Value} {D : va_G} {cl : List vw_C} {tys : List (ClassId × FieldType)} {A : Nat → Prop} {H0 : Heap}
/-- behind the call of such a contract -/
theorem mk_g1 {mc ms : Nat} {Φ : Value → va_W → Prop} {ws wc wr : va_W} (hr : CallRun p l e R s m args below meth c H locs cells slots mc ms (F0 m pc ls st0) rest (mk_gq Φ D cl (va_A wc H.size) a) (va_A wc H.size))
    (hP : va_P D cl ws H) (hD : va_D A ws) (hS : va_S A H0 H locs) (hA : ∀ q, H0.size ≤ q → A q) (isC isR : List Nat) (hC : isC.map (fun i => ws[i]?) = wc.map some) (hR : isR.map (fun i => ws[i]?) = wr.map some) (hn : va_nd isR = true) (hdis : ∀ i ∈ isR, i ∉ isC)
    (kk : ∀ (v : Value) (w1 : va_W) (H1 : Heap) (locs1 : List Loc), Φ v w1 → va_P D cl (wr ++ w1) H1 → va_D A (wr ++ w1) → va_S A H0 H1 locs1 → W p l e R s m args below meth c H1 locs1 (cells + mc) (slots + ms) Q (F0 m (pc + 3) ls (v :: rest))) : W p l e R s m args below meth c H locs cells slots Q (F0 m pc ls st0) := by
  have hF := va_free hD hS hA isC hC
  intro T hT X
  obtain ⟨v2, st₀, t, T', L, h0, X', hL, e1, ⟨v, w1, hv, hΦ, hP1, hD1, hFr⟩, st⟩ := hr T hT X
  cases hv
  obtain ⟨hP', hD'⟩ := va_join hP hD isC isR hC hR hn hdis (fun q h1 h2 => by rw [hFr.2 q (by rw [h0]; exact h1) h2, h0]) hF hP1 hD1
  obtain ⟨t2, a1, b1⟩ := kk v w1 t.heap (locs ++ L) hΦ hP' hD' (mk_sJ (w1 := w1) h0 hS hF hFr hL) T' e1 X'
  exact ⟨t2, st t2 a1, b1⟩
/-- a call that throws X, caught at tgt -/
theorem mk_x1 {X : String} {wsC : List Cond} {rm : Room} {As : List Value} {ws wc wr w1 : va_W} {y : MethodName} {bytes cc : ByteArray} {maxL nL n index tgt b : Nat} {ret : Option FieldType} {Ts : List Cond} {own C : String}
    (S : CallFix p m c cc nL s args Ts own) (hM : mT l y wsC rm (.ref b :: As) D cl tys wc X w1) (cw : CallW R s args own C index y bytes maxL ret wsC rm 1 6 n) (hp : PreV s H C b (va_Pc (.ref b :: As) (mk_pM D cl tys wc H.size)) As)
    (hn : As.length = n) (hls : ls.size = nL) (hstack : st0 = As.reverse ++ .ref b :: rest) (hW : 2 * (F0 m pc ls st0).monitorRoom + (rest.map fun v => v.category).sum ≤ 8) (hdg : decode cc pc = .ok (.invokevirtual index, 3)) (hf : cells + 1 ≤ R.cells ∧ slots + 6 ≤ R.slots)
    (hP : va_P D cl ws H) (hD : va_D A ws) (hS : va_S A H0 H locs) (hA : ∀ q, H0.size ≤ q → A q) (isC isR : List Nat) (hC : isC.map (fun i => ws[i]?) = wc.map some) (hR : isR.map (fun i => ws[i]?) = wr.map some) (hnd : va_nd isR = true) (hdis : ∀ i ∈ isR, i ∉ isC)
    (pre : List ExceptionTableEntry) (x : ExceptionTableEntry) (restT : List ExceptionTableEntry) (hsplit : c.exceptionTable.toList = pre ++ x :: restT)
    (hpass : e.platform.magicAccessors = ({} : Platform).magicAccessors → ∀ cX, s.vm.findClass X = some cX → ∀ z ∈ pre, RowPassed e.platform s m.cls pc cX z) (hx : covers x pc = true) (h0 : x.catchType ≠ 0) (hlink : (Cond.classLink own x.catchType X).before args s = true) (hcast : (Cond.castable X X).before args s = true) (hpc : x.handlerPc = tgt)
    (kk : ∀ (q : Nat) (H1 : Heap) (locs1 : List Loc), va_P D cl (wr ++ w1) H1 → va_D A (wr ++ w1) → va_S A H0 H1 locs1 → W p l e R s m args below meth c H1 locs1 (cells + 1) (slots + 6) Q (F0 m tgt ls [.ref q])) : W p l e R s m args below meth c H locs cells slots Q (F0 m pc ls st0) := by
  have hF := va_free hD hS hA isC hC
  obtain ⟨⟨hrc, hrs, hfr, hlo, hws, hcw, hcode, hini, hy, hlen, hl⟩, hin, hse⟩ := cw
  have hK := th_back (l := l) (R := R) (p := p) (e := e) (below := below) (s := s) (sargs := args) (Wd := 8) (bytes := bytes) (maxL := maxL) (ret := ret) (hM H.size) hrc hrs hfr hlo hws hcw (fun a' U hW => word_at hW (Or.inl (by first | rfl | simp [Cond.onTables, Cond.keeps, Cond.steady])) hini)
  obtain ⟨hex, hb, hml, ho, -⟩ := S
  obtain ⟨-, ⟨cellB, hcB, hoB, hclB⟩, hPc⟩ := hp
  subst hpc
  intro T hT X0
  obtain ⟨v, vm₁, ⟨U', l2, c2, s2⟩, hW₁, X', ⟨g', mk, t, L, e1, e2, hq, h1, hL, h2, h3⟩, st⟩ := X0.virtualThrows hex (C := C) (y := y) (z := y) ho hl (th_decl hin hcode) (notFace_of_selects hse) hse hin hy hK hclB ⟨cellB, by rw [hT]; exact hcB, rfl, hoB⟩ (g := F0 m pc ls st0) rfl (hls.trans hml.symm) (Steps.refl _) (argsL := As) (rest := rest) (fun sig h => hn.trans (hlen sig h)) hstack hW (by rw [hb]; exact hdg) (fun vm₁ hW₁ => ⟨hf.1, hf.2, hPc (T.setVm vm₁) hT hW₁⟩)
  dsimp only [Pt.U, Pt.locs, Pt.cells, Pt.slots] at X' e1 e2 h1 h2 h3 st
  subst h1; subst h2; subst h3
  obtain ⟨x9, ce, ho9, hce, hst, hfc, hP1, hD1, hFr, -⟩ := hq
  cases ho9
  have hfc' : s.vm.findClass X = some ce.cls := by
    have h9 : vm₁.findClass X = some ce.cls := hfc
    rw [hW₁.alike.findClass] at h9
    exact h9
  obtain ⟨c3, cT, hc3, hcT, hasg⟩ := Cond.castable_spec hcast
  cases hfc'.symm.trans hc3
  obtain ⟨hend, hk0⟩ := X'.catches_of_link ho h0 hlink hcT hasg
  obtain ⟨vm', X'', st2⟩ := X'.thenCaughtThrough v (g := { F0 m pc ls st0 with stack := rest }) rfl st (cell := ce) (by rw [e1]; exact hce) hst hk0 pre x restT hsplit (hpass (by rw [X0.admits.platform]) _ hfc') hx hend
  have hh : ((T.setVm vm₁).calling g' mk (Value.ref b :: As).toArray).heap = H := hT
  obtain ⟨hP', hD'⟩ := va_join hP hD isC isR hC hR hnd hdis (fun q h1 h2 => by rw [hFr.2 q (by rw [hh]; exact h1) h2, hh]) hF hP1 hD1
  obtain ⟨t2, a1, b1⟩ := kk v t.heap (locs ++ L) hP' hD' (mk_sJ (w1 := w1) hh hS hF hFr hL) (U'.setVm vm') e1 X''
  exact ⟨t2, st2.trans a1, b1⟩
/-- the call of a static method that has handlers -/
theorem mk_sW {y : MethodName} {bytes cc : ByteArray} {maxL nL mc ms n index : Nat} {ret : Option FieldType} {hh : List (Nat × Nat × Nat × Nat)} {ws : List Cond} {rm : Room} {Pc : Array Value → State → Prop} {Qc : Array Value → State → Outcome → State → Prop} {free : Addr → Prop} {Ts : List Cond} {own : String} {As : List Value} {g : JFrame}
    (S : CallFix p m c cc nL s args Ts own) (hM : Met l y ws rm Pc Qc mc ms free) (hrc : rm.cells = mc) (hrs : rm.slots = ms) (hfr : rm.frames + 1 ≤ R.frames) (hlo : 8 + (maxL + 11) + rm.locals ≤ R.locals) (hws : ∀ w ∈ ws, ∀ a' U, s.WarmedH U.vm → w.before a' U = true) (hcw : Cond.codeWith y bytes maxL ret hh ∈ ws) (hcode : (Cond.codeWith y bytes maxL ret hh).before args s = true)
    (hini : (Cond.initialized y.cls).before args s = true) (hl : (Cond.methodLink own index y).before args s = true) (hstt : (Cond.static y).before args s = true) (hd : y.cls ≠ "java/lang/invoke/MethodHandle" ∧ y.cls ≠ "java/lang/invoke/VarHandle" ∧ (parseMethodDescriptor y.desc).map (fun d => d.parameters.length) = some n) (hp : PreS s H Pc As)
    (hg : g.method = m) (hn : As.length = n) (hsize : g.locals.size = nL) (hstack : g.stack = As.reverse ++ rest) (hW : 2 * g.monitorRoom + (rest.map fun v => v.category).sum ≤ 8) (hdg : decode cc g.pc = .ok (.invokestatic index, 3)) (hf : cells + mc ≤ R.cells ∧ slots + ms ≤ R.slots) :
    CallRun p l e R s m args below meth c H locs cells slots mc ms g rest (Qc As.toArray) (free) := by
  have hK : Free.Back l R p e below s args y 3 8 (PreOf R mc ms Pc) (PostOf Qc mc ms free) := va_backW (hh := hh) (bytes := bytes) (maxL := maxL) (ret := ret) hM hp.1 hrc hrs hfr hlo hws hcw (fun a' U hW => word_at hW (Or.inl (by first | rfl | simp [Cond.onTables, Cond.keeps, Cond.steady])) hini)
  obtain ⟨hx, hb, hml, ho, -⟩ := S
  have hlen : ∀ sig, parseMethodDescriptor y.desc = some sig → n = sig.parameters.length := by
    intro sig h
    have h2 := hd.2.2
    rw [h] at h2
    exact (Option.some.inj h2).symm
  intro T hT X
  obtain ⟨mk, methM, cM, hnamed, hmethM, -, -, -, -, -, -, hsigM⟩ := Cond.codeWith_spec hcode
  have hstatic : methM.isStatic = true := Cond.static_spec hnamed hmethM hstt
  obtain ⟨kP, hkP, -⟩ := className_of_methodNamed hnamed
  have hinitP : kP.init = .initialized := Cond.initialized_spec (findClass_of_methodNamed hnamed) hkP hini
  obtain ⟨vm₁, X₁, hstep₁⟩ := X.invokestatic hx ho hl hnamed hmethM hstatic hkP hinitP ⟨hd.1, hd.2.1⟩ (g := g) hg (argsL := As) (rest := rest) (hn.trans (hlen _ hsigM)) hstack (by rw [hb]; exact hdg)
  obtain ⟨v, ⟨U', l2, c2, s2⟩, X', ⟨g', mk', t, L, e1, e2, hq, h1, hL, h2, h3⟩, hsteps⟩ := hK m meth c ⟨T.setVm vm₁, locs, cells, slots⟩ { g with stack := rest } (.invokestatic index) mk As.toArray X₁ hg (hsize.trans hml.symm) (by rw [hb]; exact hdg) hW (X₁.named hnamed) ⟨hf.1, hf.2, hp.2 (T.setVm vm₁) hT X₁.warmed⟩
  dsimp only [Pt.U, Pt.locs, Pt.cells, Pt.slots] at X' e1 e2 h1 h2 h3 hsteps
  subst h1; subst h2; subst h3
  exact ⟨v, (T.setVm vm₁).calling g' mk' As.toArray, t, U', L, hT, X', hL, e1, hq, fun target h => hstep₁ _ fun acts => by rw [doInvoke_state]; exact hsteps.trans h⟩
end MGC
/-! the law's own methods: a contract with handlers -/
def mW (l : Launch) (y : MethodName) (ws : List Cond) (rm : Room) (av : List Value) (D : va_G) (cl : List vw_C) (tys : List (ClassId × FieldType)) (w : va_W) (Φ : Value → va_W → Prop) : Prop := ∀ sz : Nat, Met l y ws rm (va_Pc av (fun U => mk_pM D cl tys w sz U ∧ nc_X U)) (mk_gq Φ D cl (va_A w sz)) 1 6 (va_A w sz)
section MWI
variable {l : Launch} {y : MethodName} {ws ws' : List Cond} {rm : Room} {cc : ByteArray} {maxL : Nat} {av : List Value} {D : va_G} {cl : List vw_C} {tys : List (ClassId × FieldType)} {w : va_W} {Φ : Value → va_W → Prop} {hh : List (Nat × Nat × Nat × Nat)}
theorem mk_bW {sz : Nat} : FrameBlind (va_Pc av (fun U => mk_pM D cl tys w sz U ∧ nc_X U)) := by
  intro a U g mk h
  obtain ⟨h1, h2, h3⟩ := h
  exact ⟨h1, (mk_bM a U g mk ⟨h1, h2⟩).2, nc_X.moved (u := U) (U := U.calling g mk a) (Vm.Alike.refl U.vm) h3⟩
theorem mk_Wi (hy : plainName y.cls = true) (hw : ws = Cond.codeWith y cc maxL (some .int) hh :: ws') (hlen : (lg_sl av).length ≤ maxL)
    (body : ∀ (p : Program) (e : Env) (s : State) (m : MethodId) (below : List Frame) (meth : Method) (c : Code) (Q : State → Prop) (A : Nat → Prop) (ls : Array Slot), CallFix p m c cc maxL s av.toArray ws y.cls → c.exceptionTable.toList.map (fun h => (h.startPc, h.endPc, h.handlerPc, h.catchType)) = hh → nc_X s → va_P D cl w s.heap → va_K D cl tys s → sT A s s.heap → va_S A s.heap s.heap [] → lv_has ls maxL (lv_args 0 av) → va_D A w → (∀ q : Nat, s.heap.size ≤ q → A q) →
      (∀ (pc : Nat) (ls : Array Slot) (H : Heap) (locs : List Loc) (r : Int32) (w1 : va_W), decode cc pc = .ok (.ireturn, 1) → Φ (.int r) w1 → va_P D cl w1 H → va_D A w1 → va_S A s.heap H locs → W p l e rm s m av.toArray below meth c H locs 1 6 Q (F0 m pc ls [.int r])) → W p l e rm s m av.toArray below meth c s.heap [] 0 0 Q (F0 m 0 ls [])) : mW l y ws rm av D cl tys w Φ := by
  intro sz
  refine va_MetW (cc := cc) (maxL := maxL) (ret := some .int) (hh := hh) hy hw ?_
  intro p e s m args below meth c s₁ B hml hv
  obtain ⟨rfl, ⟨hsz, hP, hK, hD0, hT⟩, hN⟩ := hv
  subst hsz
  have hD := hD0.self (sz := s.heap.size)
  have hA : ∀ q : Nat, s.heap.size ≤ q → va_A w s.heap.size q := fun q h => Or.inr h
  have hl := lv_entry av (n := maxL) hlen
  have hlocks := B.notSynchronized
  have hts := atoms_spec (ws := ws) B.pre
  have hex : c.exceptionTable.toList.map (fun h => (h.startPc, h.endPc, h.handlerPc, h.catchType)) = hh := by
    obtain ⟨m9, meth9, c9, hn9, h1, h2, -, -, h5, -⟩ := Cond.codeWith_spec (hts _ (by rw [hw]; exact List.mem_cons_self))
    cases B.named.symm.trans hn9
    cases B.method.symm.trans h1
    cases (Stand.of_body B).code.symm.trans h2
    exact h5
  rw [lg_entry_eq]
  generalize (lg_sl av ++ List.replicate (maxL - (lg_sl av).length) Slot.unset).toArray = ls at hl ⊢
  generalize va_A w s.heap.size = A at hD hA hT ⊢
  exact body p e s m below meth c _ A ls ⟨B.exec, B.bytes, hml, findClass_of_methodNamed B.named, hts⟩ hex hN hP hK hT va_S.rf hl hD hA
    (fun pc ls H locs r w1 hd hΦ hP1 hD1 hS1 => W.iret B.exec B.bytes B.returns (fun t ht hW => ⟨.int r, w1, rfl, hΦ, by rw [ht]; exact hP1, hD1, hS1.F ht⟩) hS1.2.2 hd)
end MWI
/-! tables of handlers -/
theorem tb_2 {t : List ExceptionTableEntry} {a b : Nat × Nat × Nat × Nat} (h : t.map (fun h => (h.startPc, h.endPc, h.handlerPc, h.catchType)) = [a, b]) : ∃ x1 x2, t = [x1, x2] ∧ (x1.startPc, x1.endPc, x1.handlerPc, x1.catchType) = a ∧ (x2.startPc, x2.endPc, x2.handlerPc, x2.catchType) = b := by
  match t, h with
  | [x1, x2], h =>
    simp only [List.map_cons, List.map_nil, List.cons.injEq, and_true] at h
    exact ⟨x1, x2, rfl, h.1, h.2⟩
theorem tb_3 {t : List ExceptionTableEntry} {a b d : Nat × Nat × Nat × Nat} (h : t.map (fun h => (h.startPc, h.endPc, h.handlerPc, h.catchType)) = [a, b, d]) : ∃ x1 x2 x3, t = [x1, x2, x3] ∧ (x1.startPc, x1.endPc, x1.handlerPc, x1.catchType) = a ∧ (x2.startPc, x2.endPc, x2.handlerPc, x2.catchType) = b ∧ (x3.startPc, x3.endPc, x3.handlerPc, x3.catchType) = d := by
  match t, h with
  | [x1, x2, x3], h =>
    simp only [List.map_cons, List.map_nil, List.cons.injEq, and_true] at h
    exact ⟨x1, x2, x3, rfl, h.1, h.2.1, h.2.2⟩
