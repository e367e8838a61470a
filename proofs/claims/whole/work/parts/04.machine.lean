/-! calls: the words of a callee are BIG's -/
section GW
variable {R : Room} {s : State} {args : Array Value} {own C : String} {idx maxL mc ms : Nat} {y : MethodName} {bytes : ByteArray} {ret : Option FieldType} {rm : Room} {z : Cond}
theorem g_in {w : List Cond} (h : ∀ x ∈ w, x ∈ BIG) : GoodIn (z :: BIG) w := fun x hx => ⟨List.mem_cons_of_mem _ (h x hx), good_of_word (big_good x (h x hx))⟩
theorem gV (n : Nat) (ht : ∀ w ∈ z :: BIG, w.before args s = true) (h1 : Cond.methodLink own idx y ∈ BIG) (h2 : Cond.instanceMethod y ∈ BIG) (h3 : Cond.selects C y y ∈ BIG) (h4 : Cond.initialized C ∈ BIG) (h5 : Cond.code y bytes maxL ret ∈ BIG)
    (hd : y.cls = C ∧ y.cls ≠ "java/lang/invoke/MethodHandle" ∧ y.cls ≠ "java/lang/invoke/VarHandle" ∧ (parseMethodDescriptor y.desc).map (fun d => d.parameters.length) = some n) (hR : rm.frames + 1 ≤ R.frames ∧ 8 + (maxL + 11) + rm.locals ≤ R.locals) (hrc : rm.cells = mc := by rfl) (hrs : rm.slots = ms := by rfl) :
    CallW R s args own C idx y bytes maxL ret (Cond.code y bytes maxL ret :: BIG) rm mc ms n := by
  refine cwV n ht (g_in (fun x hx => ?_)) rfl hrc hrs hd hR
  simp only [wsV, List.cons_append, List.nil_append, List.mem_cons] at hx
  rcases hx with rfl | rfl | rfl | rfl | rfl | hx
  · exact h1
  · exact h2
  · exact h3
  · exact h4
  · exact h5
  · exact hx
theorem gS (n : Nat) (ht : ∀ w ∈ z :: BIG, w.before args s = true) (h1 : Cond.methodLink own idx y ∈ BIG) (h2 : Cond.static y ∈ BIG) (h4 : Cond.initialized y.cls ∈ BIG) (h5 : Cond.code y bytes maxL ret ∈ BIG)
    (hd : y.cls ≠ "java/lang/invoke/MethodHandle" ∧ y.cls ≠ "java/lang/invoke/VarHandle" ∧ (parseMethodDescriptor y.desc).map (fun d => d.parameters.length) = some n) (hR : rm.frames + 1 ≤ R.frames ∧ 8 + (maxL + 11) + rm.locals ≤ R.locals) (hrc : rm.cells = mc := by rfl) (hrs : rm.slots = ms := by rfl) :
    CallB R s args own idx y bytes maxL ret (Cond.code y bytes maxL ret :: BIG) rm mc ms n ∧ (Cond.static y).before args s = true := by
  refine va_cwS n ht (g_in (fun x hx => ?_)) rfl hrc hrs hd hR
  simp only [va_wsS, List.cons_append, List.nil_append, List.mem_cons] at hx
  rcases hx with rfl | rfl | rfl | rfl | hx
  · exact h1
  · exact h2
  · exact h4
  · exact h5
  · exact hx
end GW
/-! what the static tables hold, the nest's words, the texts -/
def plN (j : Nat) : Nat := if j < 5 then 2 * j + 1 else if j < 11 then 2 * j + 4 else 2 * j + 6
def mlN (j : Nat) : Nat := if j = 1 then 28 else if j = 3 ∨ j = 5 ∨ j = 8 ∨ j = 10 then 30 else 31
def nestW : List Cond := [.methodLinkNest "LongNames" 9 ⟨"LongNames$Row", "<init>", "()V"⟩ "LongNames", .methodLinkNest "LongNames" 21 ⟨"LongNames$ShortName", "<init>", "()V"⟩ "LongNames", .methodLinkNest "LongNames" 28 ⟨"LongNames$Part", "<init>", "()V"⟩ "LongNames", .methodLinkNest "LongNames" 35 ⟨"LongNames$Slots", "<init>", "()V"⟩ "LongNames"]
def strW : List (Nat × String) := [(79, "the row is no name"), (84, "the tail is not 0 to 9999"), (86, "a name that is not short needs a tail"), (93, "there are too few slots"), (108, "there is no such row"), (110, "the parts are not 0 to 20"), (112, "there is no such slot, or too few before it"), (123, "the entry has no short name"), (133, "the parts are not those of the entry")]
def sTt (A : Nat → Prop) (U : State) (H : Heap) : Prop := ∃ t1 t2 : Nat, va_Z "LongNames$Part" "PLACES" "[I" (.ref t1) A U H ∧ va_T .int t1 13 (fun j => .int (nI (plN j))) A U H ∧ va_Z "LongNames$Days" "MONTHS" "[I" (.ref t2) A U H ∧ va_T .int t2 12 (fun j => .int (nI (mlN j))) A U H
/-- a static field that is laid, in a cell that nobody writes -/
def vz_L (C n d : String) (A : Nat → Prop) (U : State) (H : Heap) : Prop := ∃ (c : ClassId) (k : Class) (i : Nat) (f : Field) (a : Nat) (cell : Cell), U.vm.findClass C = some c ∧ U.fieldFound? C n d = some (c, k, i, f) ∧ f.isStatic = true ∧ k.statics = some a ∧ H[a]? = some cell ∧ cell.vm.isStatics = true ∧ cell.cls = c ∧ f.slot < cell.slots.size ∧ k.staticTypes[f.slot]? = some f.type ∧ ¬ A a
section VZ
variable {C n d : String} {A B : Nat → Prop} {u U : State} {H H1 : Heap} {args : Array Value}
theorem vz_L.of {s : State} (h : (Cond.laysStatic C n d).before args s = true) (hA : ∀ a : Nat, a < s.heap.size → ¬ A a) : vz_L C n d A s s.heap := by
  obtain ⟨c, k, i, fd, a, cell, hc, hf, hst, hsta, hcell, hiss, hcls, hlt, hty⟩ := Cond.laysStatic_spec h
  exact ⟨c, k, i, fd, a, cell, hc, hf, hst, hsta, hcell, hiss, hcls, hlt, hty, hA a (Array.getElem?_eq_some_iff.mp hcell).1⟩
theorem vz_L.use (h : vz_L C n d A U U.heap) : (Cond.laysStatic C n d).before args U = true := by
  obtain ⟨c, k, i, fd, a, cell, hc, hf, hst, hsta, hcell, hiss, hcls, hlt, hty, -⟩ := h
  simp [Cond.before, Cond.holds, Cond.value, hc, hf, hst, hsta, hcell, hiss, hcls, hlt, hty]
theorem vz_L.kept (h : vz_L C n d A U H) (hq : ∀ a : Nat, a < H.size → ¬ A a → H1[a]? = H[a]?) : vz_L C n d A U H1 := by
  obtain ⟨c, k, i, fd, a, cell, hc, hf, hst, hsta, hcell, hiss, hcls, hlt, hty, hn⟩ := h
  exact ⟨c, k, i, fd, a, cell, hc, hf, hst, hsta, by rw [hq a (Array.getElem?_eq_some_iff.mp hcell).1 hn]; exact hcell, hiss, hcls, hlt, hty, hn⟩
theorem vz_L.narrow (h : vz_L C n d A U H) (hAB : ∀ q, B q → A q) : vz_L C n d B U H := by
  obtain ⟨c, k, i, fd, a, cell, hc, hf, hst, hsta, hcell, hiss, hcls, hlt, hty, hn⟩ := h
  exact ⟨c, k, i, fd, a, cell, hc, hf, hst, hsta, hcell, hiss, hcls, hlt, hty, fun z => hn (hAB a z)⟩
theorem vz_L.moved (hvm : u.vm.Alike U.vm) (h : vz_L C n d A u H) : vz_L C n d A U H := by
  obtain ⟨c, k, i, fd, a, cell, hc, hf, hst, hsta, hcell, hiss, hcls, hlt, hty, hn⟩ := h
  obtain ⟨k', hi', he⟩ := State.fieldFound?_setVm hvm hf
  refine ⟨c, k', i, fd, a, cell, by rw [hvm.findClass]; exact hc, hi', hst, ?_, hcell, hiss, hcls, hlt, ?_, hn⟩
  · rw [he]; exact hsta
  · rw [he]; exact hty
end VZ
def sT (A : Nat → Prop) (U : State) (H : Heap) : Prop := sTt A U H ∧ va_Zq Bundle.tN "UNASSIGNED_STACK" Bundle.steD A U H ∧ va_Zq Bundle.tN "SUPPRESSED_SENTINEL" Bundle.listD A U H ∧ (∀ w ∈ nestW, va_Nw w U) ∧ (∀ z ∈ strW, ∃ q : Nat, vk_R "LongNames" z.1 z.2 q U) ∧ vz_L Bundle.tN "UNASSIGNED_STACK" Bundle.steD A U H ∧ vz_L Bundle.tN "SUPPRESSED_SENTINEL" Bundle.listD A U H
section ST
variable {A B : Nat → Prop} {s u U : State} {H H1 : Heap}
theorem sT.tabs (h : sT A U H) : sTt A U H := h.1
theorem sT.un (h : sT A U H) : va_Zq Bundle.tN "UNASSIGNED_STACK" Bundle.steD A U H := h.2.1
theorem sT.se (h : sT A U H) : va_Zq Bundle.tN "SUPPRESSED_SENTINEL" Bundle.listD A U H := h.2.2.1
theorem sT.nest (h : sT A U H) (w : Cond) (hw : w ∈ nestW) : va_Nw w U := h.2.2.2.1 w hw
theorem sT.str (h : sT A U H) (z : Nat × String) (hz : z ∈ strW) : ∃ q : Nat, vk_R "LongNames" z.1 z.2 q U := h.2.2.2.2.1 z hz
theorem sT.lu (h : sT A U H) : vz_L Bundle.tN "UNASSIGNED_STACK" Bundle.steD A U H := h.2.2.2.2.2.1
theorem sT.ls (h : sT A U H) : vz_L Bundle.tN "SUPPRESSED_SENTINEL" Bundle.listD A U H := h.2.2.2.2.2.2
theorem sT.kept (h : sT A U H) (hq : ∀ a : Nat, a < H.size → ¬ A a → H1[a]? = H[a]?) : sT A U H1 := by
  obtain ⟨⟨t1, t2, a1, a2, a3, a4⟩, b1, b2, b3, b4, b5, b6⟩ := h
  exact ⟨⟨t1, t2, a1.kept hq, a2.kept hq, a3.kept hq, a4.kept hq⟩, b1.kept hq, b2.kept hq, b3, b4, b5.kept hq, b6.kept hq⟩
theorem sT.narrow (h : sT A U H) (hAB : ∀ q, B q → A q) : sT B U H := by
  obtain ⟨⟨t1, t2, a1, a2, a3, a4⟩, b1, b2, b3, b4, b5, b6⟩ := h
  exact ⟨⟨t1, t2, a1.narrow hAB, a2.narrow hAB, a3.narrow hAB, a4.narrow hAB⟩, b1.narrow hAB, b2.narrow hAB, b3, b4, b5.narrow hAB, b6.narrow hAB⟩
theorem sT.warm (hW : s.WarmedH U.vm) (h : sT A s H) : sT A U H := by
  obtain ⟨⟨t1, t2, a1, a2, a3, a4⟩, b1, b2, b3, b4, b5, b6⟩ := h
  refine ⟨⟨t1, t2, va_Z.moved hW.alike a1, va_T.moved hW.alike a2, va_Z.moved hW.alike a3, va_T.moved hW.alike a4⟩, va_Zq.moved hW.alike b1, va_Zq.moved hW.alike b2, fun w hw => ?_, fun z hz => ?_, vz_L.moved hW.alike b5, vz_L.moved hW.alike b6⟩
  · have h9 := b3 w hw
    simp only [nestW, List.mem_cons, List.not_mem_nil, or_false] at hw
    rcases hw with rfl | rfl | rfl | rfl <;> exact va_Nw.warmM hW h9
  · obtain ⟨q, h9⟩ := b4 z hz
    exact ⟨q, vk_R.warm hW h9⟩
theorem sT.same (e : u.vm = U.vm) (h : sT A u H) : sT A U H := by
  obtain ⟨⟨t1, t2, a1, a2, a3, a4⟩, b1, b2, b3, b4, b5, b6⟩ := h
  have ha : u.vm.Alike U.vm := e ▸ Vm.Alike.refl u.vm
  refine ⟨⟨t1, t2, va_Z.moved ha a1, va_T.moved ha a2, va_Z.moved ha a3, va_T.moved ha a4⟩, va_Zq.moved ha b1, va_Zq.moved ha b2, fun w hw => ?_, fun z hz => ?_, vz_L.moved ha b5, vz_L.moved ha b6⟩
  · have h9 := b3 w hw
    simp only [nestW, List.mem_cons, List.not_mem_nil, or_false] at hw
    rcases hw with rfl | rfl | rfl | rfl <;> exact va_Nw.same rfl e h9
  · obtain ⟨q, h9⟩ := b4 z hz
    exact ⟨q, vk_R.same e.symm h9⟩
end ST
/-! Contracts of two kinds, and their calls. A reader (mR): the heap stays, the answer is ro. A writer (mM): the world w becomes w1 (the same addresses), nothing else changes. sT: what the static tables hold. -/
section MK
variable {p : Program} {l : Launch} {e : Env} {R : Room} {s : State} {m : MethodId} {args : Array Value} {below : List Frame} {meth : Method} {c : Code} {H : Heap} {locs : List Loc} {cells slots : Nat} {Q : State → Prop}
variable {pc : Nat} {ls : Array Slot} {rest st0 : List Value} {a : Array Value} {D : va_G} {cl : List vw_C} {tys : List (ClassId × FieldType)} {A : Nat → Prop} {H0 : Heap}
def mk_rq (ro : Option Value) : Array Value → State → Outcome → State → Prop := fun _ st o t => o = .returned ro ∧ t.heap = st.heap
def mk_wq (ro : Option Value) (D : va_G) (cl : List vw_C) (w1 : va_W) (A : Nat → Prop) : Array Value → State → Outcome → State → Prop := fun _ st o t => o = .returned ro ∧ va_P D cl w1 t.heap ∧ va_D A w1 ∧ va_F A st t
def mk_pR (D : va_G) (cl : List vw_C) (tys : List (ClassId × FieldType)) (w : va_W) : State → Prop := fun U => va_P D cl w U.heap ∧ va_K D cl tys U ∧ sT (fun _ => False) U U.heap
def mk_pM (D : va_G) (cl : List vw_C) (tys : List (ClassId × FieldType)) (w : va_W) (sz : Nat) : State → Prop := fun U => U.heap.size = sz ∧ va_P D cl w U.heap ∧ va_K D cl tys U ∧ va_D (fun _ => True) w ∧ sT (va_A w sz) U U.heap
def mR (l : Launch) (y : MethodName) (ws : List Cond) (rm : Room) (av : List Value) (D : va_G) (cl : List vw_C) (tys : List (ClassId × FieldType)) (w : va_W) (ro : Option Value) : Prop := Met l y ws rm (va_Pc av (mk_pR D cl tys w)) (mk_rq ro) 0 0 (fun _ => False)
def mM (l : Launch) (y : MethodName) (ws : List Cond) (rm : Room) (av : List Value) (D : va_G) (cl : List vw_C) (tys : List (ClassId × FieldType)) (w : va_W) (ro : Option Value) (w1 : va_W) : Prop := ∀ sz : Nat, Met l y ws rm (va_Pc av (mk_pM D cl tys w sz)) (mk_wq ro D cl w1 (va_A w sz)) 0 0 (va_A w sz)
/-- behind a reader's call -/
theorem mk_r1 {v : Value} (hr : CallRun p l e R s m args below meth c H locs cells slots 0 0 (F0 m pc ls st0) rest (mk_rq (some v) a) (fun _ => False))
    (kk : W p l e R s m args below meth c H locs cells slots Q (F0 m (pc + 3) ls (v :: rest))) : W p l e R s m args below meth c H locs cells slots Q (F0 m pc ls st0) := by
  intro T hT X
  obtain ⟨v2, st₀, t, T', L, h0, X', hL, e1, ⟨hv, hh⟩, st⟩ := hr T hT X
  cases hv
  obtain ⟨t2, a1, b1⟩ := kk T' (by rw [e1, hh, h0]) (Stand.forget X' (fun q h => (hL q h).elim))
  exact ⟨t2, st t2 a1, b1⟩
theorem mk_sJ {wc w1 : va_W} {L : List Loc} {st₀ t : State} (h0 : st₀.heap = H) (hS : va_S A H0 H locs) (hF : ∀ q, va_A wc H.size q → A q) (hFr : va_F (va_A wc H.size) st₀ t) (hL : ∀ q ∈ L, va_A wc H.size q.base) : va_S A H0 t.heap (locs ++ L) := by
  obtain ⟨f1, f2⟩ := hFr
  rw [h0] at f1 f2
  refine ⟨Nat.le_trans hS.1 f1, fun q h1 h2 => ?_, fun q hq => ?_⟩
  · rw [f2 q (Nat.lt_of_lt_of_le h1 hS.1) (fun z => h2 (hF q z))]
    exact hS.2.1 q h1 h2
  · rcases List.mem_append.mp hq with h | h
    · exact hS.2.2 q h
    · exact hF _ (hL q h)
/-- behind a writer's call: the rest, and the callee's world -/
theorem mk_w1 {v : Value} {ws wc wr w1 : va_W} (hr : CallRun p l e R s m args below meth c H locs cells slots 0 0 (F0 m pc ls st0) rest (mk_wq (some v) D cl w1 (va_A wc H.size) a) (va_A wc H.size))
    (hP : va_P D cl ws H) (hD : va_D A ws) (hS : va_S A H0 H locs) (hA : ∀ q, H0.size ≤ q → A q) (isC isR : List Nat) (hC : isC.map (fun i => ws[i]?) = wc.map some) (hR : isR.map (fun i => ws[i]?) = wr.map some) (hn : va_nd isR = true) (hdis : ∀ i ∈ isR, i ∉ isC)
    (kk : ∀ (H1 : Heap) (locs1 : List Loc), va_P D cl (wr ++ w1) H1 → va_D A (wr ++ w1) → va_S A H0 H1 locs1 → W p l e R s m args below meth c H1 locs1 cells slots Q (F0 m (pc + 3) ls (v :: rest))) : W p l e R s m args below meth c H locs cells slots Q (F0 m pc ls st0) := by
  have hF := va_free hD hS hA isC hC
  intro T hT X
  obtain ⟨v2, st₀, t, T', L, h0, X', hL, e1, ⟨hv, hP1, hD1, hFr⟩, st⟩ := hr T hT X
  cases hv
  obtain ⟨hP', hD'⟩ := va_join hP hD isC isR hC hR hn hdis (fun q h1 h2 => by rw [hFr.2 q (by rw [h0]; exact h1) h2, h0]) hF hP1 hD1
  obtain ⟨t2, a1, b1⟩ := kk t.heap (locs ++ L) hP' hD' (mk_sJ (w1 := w1) h0 hS hF hFr hL) T' e1 X'
  exact ⟨t2, st t2 a1, b1⟩
theorem mk_w0 {ws wc wr w1 : va_W} (hr : CallRun p l e R s m args below meth c H locs cells slots 0 0 (F0 m pc ls st0) rest (mk_wq none D cl w1 (va_A wc H.size) a) (va_A wc H.size))
    (hP : va_P D cl ws H) (hD : va_D A ws) (hS : va_S A H0 H locs) (hA : ∀ q, H0.size ≤ q → A q) (isC isR : List Nat) (hC : isC.map (fun i => ws[i]?) = wc.map some) (hR : isR.map (fun i => ws[i]?) = wr.map some) (hn : va_nd isR = true) (hdis : ∀ i ∈ isR, i ∉ isC)
    (kk : ∀ (H1 : Heap) (locs1 : List Loc), va_P D cl (wr ++ w1) H1 → va_D A (wr ++ w1) → va_S A H0 H1 locs1 → W p l e R s m args below meth c H1 locs1 cells slots Q (F0 m (pc + 3) ls rest)) : W p l e R s m args below meth c H locs cells slots Q (F0 m pc ls st0) := by
  have hF := va_free hD hS hA isC hC
  intro T hT X
  obtain ⟨v2, st₀, t, T', L, h0, X', hL, e1, ⟨hv, hP1, hD1, hFr⟩, st⟩ := hr T hT X
  cases hv
  obtain ⟨hP', hD'⟩ := va_join hP hD isC isR hC hR hn hdis (fun q h1 h2 => by rw [hFr.2 q (by rw [h0]; exact h1) h2, h0]) hF hP1 hD1
  obtain ⟨t2, a1, b1⟩ := kk t.heap (locs ++ L) hP' hD' (mk_sJ (w1 := w1) h0 hS hF hFr hL) T' e1 X'
  exact ⟨t2, st t2 a1, b1⟩
/-- what a call gives its callee -/
theorem mk_bR {av : List Value} {w : va_W} : FrameBlind (va_Pc av (mk_pR D cl tys w)) := by
  intro a U g mk h
  obtain ⟨h1, h2, h3, h4⟩ := h
  exact ⟨h1, h2, va_K.moved (u := U) (U := U.calling g mk a) (Vm.Alike.refl U.vm) h3, sT.same (u := U) (U := U.calling g mk a) rfl h4⟩
theorem mk_bM {av : List Value} {w : va_W} {sz : Nat} : FrameBlind (va_Pc av (mk_pM D cl tys w sz)) := by
  intro a U g mk h
  obtain ⟨h1, h2, h3, h4, h5, h6⟩ := h
  exact ⟨h1, h2, h3, va_K.moved (u := U) (U := U.calling g mk a) (Vm.Alike.refl U.vm) h4, h5, sT.same (u := U) (U := U.calling g mk a) rfl h6⟩
theorem mk_sR {As : List Value} {ws w : va_W} (hP : va_P D cl ws H) (hK : va_K D cl tys s) (hT : sT A s s.heap) (hS : va_S A s.heap H locs) (is : List Nat) (hs : is.filterMap (fun i => ws[i]?) = w) : PreS s H (va_Pc As (mk_pR D cl tys w)) As :=
  ⟨mk_bR, fun U hU hW => ⟨rfl, by rw [hU]; exact hP.sub is hs, va_K.moved hW.alike hK, by rw [hU]; exact sT.warm hW ((hT.kept (fun q h1 h2 => hS.2.1 q h1 h2)).narrow (fun _ h => h.elim))⟩⟩
theorem mk_sM {As : List Value} {ws w : va_W} (hP : va_P D cl ws H) (hD : va_D A ws) (hK : va_K D cl tys s) (hT : sT A s s.heap) (hS : va_S A s.heap H locs) (hA : ∀ q, s.heap.size ≤ q → A q) (is : List Nat) (hs : is.filterMap (fun i => ws[i]?) = w) (hs2 : is.map (fun i => ws[i]?) = w.map some) (hn : va_nd is = true) : PreS s H (va_Pc As (mk_pM D cl tys w H.size)) As :=
  ⟨mk_bM, fun U hU hW => ⟨rfl, by rw [hU], by rw [hU]; exact hP.sub is hs, va_K.moved hW.alike hK, (hD.sub is hn hs2).weaken (fun _ _ _ _ => trivial), by rw [hU]; exact sT.warm hW ((hT.kept (fun q h1 h2 => hS.2.1 q h1 h2)).narrow (va_free hD hS hA is hs2))⟩⟩
theorem mk_vR {As : List Value} {ws w : va_W} {C : String} {b : Nat} (hP : va_P D cl ws H) (hK : va_K D cl tys s) (hT : sT A s s.heap) (hS : va_S A s.heap H locs) (is : List Nat) (hs : is.filterMap (fun i => ws[i]?) = w) {q0 ci : Nat} {T : u_T} {N : Nat} {fs : List Value} (hc : cl[ci]? = some (C, T, N)) (he : ws[q0]? = some (b, .inr (ci, fs))) : PreV s H C b (va_Pc (.ref b :: As) (mk_pR D cl tys w)) As :=
  ⟨mk_bR, va_recv hK hP hc he, (mk_sR hP hK hT hS is hs).2⟩
theorem mk_vM {As : List Value} {ws w : va_W} {C : String} {b : Nat} (hP : va_P D cl ws H) (hD : va_D A ws) (hK : va_K D cl tys s) (hT : sT A s s.heap) (hS : va_S A s.heap H locs) (hA : ∀ q, s.heap.size ≤ q → A q) (is : List Nat) (hs : is.filterMap (fun i => ws[i]?) = w) (hs2 : is.map (fun i => ws[i]?) = w.map some) (hn : va_nd is = true) {q0 ci : Nat} {T : u_T} {N : Nat} {fs : List Value} (hc : cl[ci]? = some (C, T, N)) (he : ws[q0]? = some (b, .inr (ci, fs))) : PreV s H C b (va_Pc (.ref b :: As) (mk_pM D cl tys w H.size)) As :=
  ⟨mk_bM, va_recv hK hP hc he, (mk_sM hP hD hK hT hS hA is hs hs2 hn).2⟩
end MK
section MI
variable {l : Launch} {y : MethodName} {ws ws' : List Cond} {rm : Room} {cc : ByteArray} {maxL : Nat} {av : List Value} {D : va_G} {cl : List vw_C} {tys : List (ClassId × FieldType)} {w : va_W}
/-- a reader's body: int, boolean -/
theorem mk_Ri {ty : FieldType} {r : Int32} (hy : plainName y.cls = true) (hw : ws = Cond.code y cc maxL (some ty) :: ws') (hlen : (lg_sl av).length ≤ maxL) (hnar : narrow ty (.int r) = .int r)
    (body : ∀ (p : Program) (e : Env) (s : State) (m : MethodId) (below : List Frame) (meth : Method) (c : Code) (Q : State → Prop) (A : Nat → Prop) (ls : Array Slot), CallFix p m c cc maxL s av.toArray ws y.cls → va_P D cl w s.heap → va_K D cl tys s → sT A s s.heap → va_S A s.heap s.heap [] → lv_has ls maxL (lv_args 0 av) →
      (∀ (pc : Nat) (ls : Array Slot), decode cc pc = .ok (.ireturn, 1) → W p l e rm s m av.toArray below meth c s.heap [] 0 0 Q (F0 m pc ls [.int r])) → W p l e rm s m av.toArray below meth c s.heap [] 0 0 Q (F0 m 0 ls [])) : mR l y ws rm av D cl tys w (some (.int r)) := by
  refine Met.ofW (cc := cc) (maxL := maxL) (ret := some ty) hy hw ?_
  intro p e s m args below meth c s₁ B hml hv
  obtain ⟨rfl, hP, hK, hT⟩ := hv
  have hl := lv_entry av (n := maxL) hlen
  have hlocks := B.notSynchronized
  rw [lg_entry_eq]
  generalize (lg_sl av ++ List.replicate (maxL - (lg_sl av).length) Slot.unset).toArray = ls at hl ⊢
  exact body p e s m below meth c _ _ ls ⟨B.exec, B.bytes, hml, findClass_of_methodNamed B.named, atoms_spec (ws := ws) B.pre⟩ hP hK hT va_S.rf hl
    (fun pc ls hd => W.zret B.exec B.bytes B.returns hnar (fun t ht hW => ⟨rfl, ht⟩) (fun q h => by cases h) hd)
/-- long -/
theorem mk_Rl {r : Int64} (hy : plainName y.cls = true) (hw : ws = Cond.code y cc maxL (some .long) :: ws') (hlen : (lg_sl av).length ≤ maxL)
    (body : ∀ (p : Program) (e : Env) (s : State) (m : MethodId) (below : List Frame) (meth : Method) (c : Code) (Q : State → Prop) (A : Nat → Prop) (ls : Array Slot), CallFix p m c cc maxL s av.toArray ws y.cls → va_P D cl w s.heap → va_K D cl tys s → sT A s s.heap → va_S A s.heap s.heap [] → lv_has ls maxL (lv_args 0 av) →
      (∀ (pc : Nat) (ls : Array Slot), decode cc pc = .ok (.lreturn, 1) → W p l e rm s m av.toArray below meth c s.heap [] 0 0 Q (F0 m pc ls [.long r])) → W p l e rm s m av.toArray below meth c s.heap [] 0 0 Q (F0 m 0 ls [])) : mR l y ws rm av D cl tys w (some (.long r)) := by
  refine Met.ofW (cc := cc) (maxL := maxL) (ret := some .long) hy hw ?_
  intro p e s m args below meth c s₁ B hml hv
  obtain ⟨rfl, hP, hK, hT⟩ := hv
  have hl := lv_entry av (n := maxL) hlen
  have hlocks := B.notSynchronized
  rw [lg_entry_eq]
  generalize (lg_sl av ++ List.replicate (maxL - (lg_sl av).length) Slot.unset).toArray = ls at hl ⊢
  exact body p e s m below meth c _ _ ls ⟨B.exec, B.bytes, hml, findClass_of_methodNamed B.named, atoms_spec (ws := ws) B.pre⟩ hP hK hT va_S.rf hl
    (fun pc ls hd => W.lret B.exec B.bytes B.returns (fun t ht hW => ⟨rfl, ht⟩) (fun q h => by cases h) hd)
/-- a reference or null -/
theorem mk_Ra {rt : FieldType} {v : Value} (hy : plainName y.cls = true) (hw : ws = Cond.code y cc maxL (some rt) :: ws') (hlen : (lg_sl av).length ≤ maxL) (hrt : (∃ n, rt = .object n) ∨ ∃ t, rt = .array t) (hv : v = .null ∨ ∃ a, v = .ref a)
    (body : ∀ (p : Program) (e : Env) (s : State) (m : MethodId) (below : List Frame) (meth : Method) (c : Code) (Q : State → Prop) (A : Nat → Prop) (ls : Array Slot), CallFix p m c cc maxL s av.toArray ws y.cls → va_P D cl w s.heap → va_K D cl tys s → sT A s s.heap → va_S A s.heap s.heap [] → lv_has ls maxL (lv_args 0 av) →
      (∀ (pc : Nat) (ls : Array Slot), decode cc pc = .ok (.areturn, 1) → W p l e rm s m av.toArray below meth c s.heap [] 0 0 Q (F0 m pc ls [v])) → W p l e rm s m av.toArray below meth c s.heap [] 0 0 Q (F0 m 0 ls [])) : mR l y ws rm av D cl tys w (some v) := by
  refine Met.ofW (cc := cc) (maxL := maxL) (ret := some rt) hy hw ?_
  intro p e s m args below meth c s₁ B hml hv2
  obtain ⟨rfl, hP, hK, hT⟩ := hv2
  have hl := lv_entry av (n := maxL) hlen
  have hlocks := B.notSynchronized
  rw [lg_entry_eq]
  generalize (lg_sl av ++ List.replicate (maxL - (lg_sl av).length) Slot.unset).toArray = ls at hl ⊢
  exact body p e s m below meth c _ _ ls ⟨B.exec, B.bytes, hml, findClass_of_methodNamed B.named, atoms_spec (ws := ws) B.pre⟩ hP hK hT va_S.rf hl
    (fun pc ls hd => W.aret B.exec B.bytes B.returns hrt hv (fun t ht hW => ⟨rfl, ht⟩) (fun q h => by cases h) hd)
/-- a writer's body: int, boolean -/
theorem mk_Mi {ty : FieldType} {r : Int32} {w1 : va_W} (hy : plainName y.cls = true) (hw : ws = Cond.code y cc maxL (some ty) :: ws') (hlen : (lg_sl av).length ≤ maxL) (hnar : narrow ty (.int r) = .int r)
    (body : ∀ (p : Program) (e : Env) (s : State) (m : MethodId) (below : List Frame) (meth : Method) (c : Code) (Q : State → Prop) (A : Nat → Prop) (ls : Array Slot), CallFix p m c cc maxL s av.toArray ws y.cls → va_P D cl w s.heap → va_K D cl tys s → sT A s s.heap → va_S A s.heap s.heap [] → lv_has ls maxL (lv_args 0 av) → va_D A w → (∀ q : Nat, s.heap.size ≤ q → A q) →
      (∀ (pc : Nat) (ls : Array Slot) (H : Heap) (locs : List Loc), decode cc pc = .ok (.ireturn, 1) → va_P D cl w1 H → va_D A w1 → va_S A s.heap H locs → W p l e rm s m av.toArray below meth c H locs 0 0 Q (F0 m pc ls [.int r])) → W p l e rm s m av.toArray below meth c s.heap [] 0 0 Q (F0 m 0 ls [])) : mM l y ws rm av D cl tys w (some (.int r)) w1 := by
  intro sz
  refine Met.ofW (cc := cc) (maxL := maxL) (ret := some ty) hy hw ?_
  intro p e s m args below meth c s₁ B hml hv
  obtain ⟨rfl, hsz, hP, hK, hD0, hT⟩ := hv
  subst hsz
  have hD := hD0.self (sz := s.heap.size)
  have hA : ∀ q : Nat, s.heap.size ≤ q → va_A w s.heap.size q := fun q h => Or.inr h
  have hl := lv_entry av (n := maxL) hlen
  have hlocks := B.notSynchronized
  rw [lg_entry_eq]
  generalize (lg_sl av ++ List.replicate (maxL - (lg_sl av).length) Slot.unset).toArray = ls at hl ⊢
  generalize va_A w s.heap.size = A at hD hA hT ⊢
  exact body p e s m below meth c _ A ls ⟨B.exec, B.bytes, hml, findClass_of_methodNamed B.named, atoms_spec (ws := ws) B.pre⟩ hP hK hT va_S.rf hl hD hA
    (fun pc ls H locs hd hP1 hD1 hS1 => W.zret B.exec B.bytes B.returns hnar (fun t ht hW => ⟨rfl, by rw [ht]; exact hP1, hD1, hS1.F ht⟩) hS1.2.2 hd)
/-- a writer's body: void -/
theorem mk_Mv {w1 : va_W} (hy : plainName y.cls = true) (hw : ws = Cond.code y cc maxL none :: ws') (hlen : (lg_sl av).length ≤ maxL)
    (body : ∀ (p : Program) (e : Env) (s : State) (m : MethodId) (below : List Frame) (meth : Method) (c : Code) (Q : State → Prop) (A : Nat → Prop) (ls : Array Slot), CallFix p m c cc maxL s av.toArray ws y.cls → va_P D cl w s.heap → va_K D cl tys s → sT A s s.heap → va_S A s.heap s.heap [] → lv_has ls maxL (lv_args 0 av) → va_D A w → (∀ q : Nat, s.heap.size ≤ q → A q) →
      (∀ (pc : Nat) (ls : Array Slot) (H : Heap) (locs : List Loc), decode cc pc = .ok (.return_, 1) → va_P D cl w1 H → va_D A w1 → va_S A s.heap H locs → W p l e rm s m av.toArray below meth c H locs 0 0 Q (F0 m pc ls [])) → W p l e rm s m av.toArray below meth c s.heap [] 0 0 Q (F0 m 0 ls [])) : mM l y ws rm av D cl tys w none w1 := by
  intro sz
  refine Met.ofW (cc := cc) (maxL := maxL) (ret := none) hy hw ?_
  intro p e s m args below meth c s₁ B hml hv
  obtain ⟨rfl, hsz, hP, hK, hD0, hT⟩ := hv
  subst hsz
  have hD := hD0.self (sz := s.heap.size)
  have hA : ∀ q : Nat, s.heap.size ≤ q → va_A w s.heap.size q := fun q h => Or.inr h
  have hl := lv_entry av (n := maxL) hlen
  have hlocks := B.notSynchronized
  rw [lg_entry_eq]
  generalize (lg_sl av ++ List.replicate (maxL - (lg_sl av).length) Slot.unset).toArray = ls at hl ⊢
  generalize va_A w s.heap.size = A at hD hA hT ⊢
  exact body p e s m below meth c _ A ls ⟨B.exec, B.bytes, hml, findClass_of_methodNamed B.named, atoms_spec (ws := ws) B.pre⟩ hP hK hT va_S.rf hl hD hA
    (fun pc ls H locs hd hP1 hD1 hS1 => W.vret B.exec B.bytes B.returns (fun t ht hW => ⟨rfl, by rw [ht]; exact hP1, hD1, hS1.F ht⟩) hS1.2.2 hd)
end MI
section MT
variable {p : Program} {l : Launch} {e : Env} {R : Room} {s : State} {m : MethodId} {args : Array Value} {below : List Frame} {meth : Method} {c : Code} {H : Heap} {locs : List Loc} {cells slots : Nat} {Q : State → Prop}
variable {pc : Nat} {ls : Array Slot} {rest : List Value}
theorem mk_ti {x y : Int32} (h : x = y) (k : W p l e R s m args below meth c H locs cells slots Q (F0 m pc ls (.int y :: rest))) : W p l e R s m args below meth c H locs cells slots Q (F0 m pc ls (.int x :: rest)) := by rw [h]; exact k
theorem mk_tl {x y : Int64} (h : x = y) (k : W p l e R s m args below meth c H locs cells slots Q (F0 m pc ls (.long y :: rest))) : W p l e R s m args below meth c H locs cells slots Q (F0 m pc ls (.long x :: rest)) := by rw [h]; exact k
theorem mk_tv {x y : Value} (h : x = y) (k : W p l e R s m args below meth c H locs cells slots Q (F0 m pc ls (y :: rest))) : W p l e R s m args below meth c H locs cells slots Q (F0 m pc ls (x :: rest)) := by rw [h]; exact k
end MT
def bI (b : Bool) : Int32 := if b then 1 else 0
theorem bI_t : bI true = 1 := rfl
theorem bI_f : bI false = 0 := rfl
theorem bI_0 {b : Bool} (h : bI b = 0) : b = false := by
  cases b
  · rfl
  · exact absurd h (by decide)
theorem bI_1 {b : Bool} (h : ¬ bI b = 0) : b = true := by
  cases b
  · exact absurd rfl h
  · rfl
theorem mk_nz (b : Bool) : narrow .boolean (.int (bI b)) = .int (bI b) := by cases b <;> rfl
theorem mk_i1 (i : Nat) : nI i + Int32.ofInt 1 = nI (i + 1) := nI_1 i
theorem mk_im1 (i : Nat) : nI (i + 1) + Int32.ofInt (-1) = nI i := pk_m1 i
theorem mk_dec (x : Int32) : x + Int32.ofInt (-1) = x - 1 := by
  rw [show Int32.ofInt (-1) = -1 from rfl, Int32.sub_eq_add_neg]
theorem mk_clt {n : Nat} (h : n < 2 ^ 31) : (nI n < 0) ↔ False := ⟨fun q => nI_pos h q, fun q => q.elim⟩
theorem mk_cge {n : Nat} (h : n < 2 ^ 31) : (0 ≤ nI n) ↔ True := ⟨fun _ => trivial, fun _ => nI_pos' h⟩
theorem mk_cgt {n : Nat} (h : n < 2 ^ 31) : (0 < nI n) ↔ 0 < n := by
  rw [← nI_0]; exact nI_ltI (by decide) h
theorem mk_cle {n : Nat} (h : n < 2 ^ 31) : (nI n ≤ 0) ↔ n = 0 := by
  rw [← nI_0, nI_leI h (by decide)]; omega
theorem mk_ceq {n : Nat} (h : n < 2 ^ 31) : (nI n = 0) ↔ n = 0 := by
  rw [← nI_0]; exact nI_eq h (by decide)
theorem mk_in {x : Int32} {n : Nat} (h0 : ¬ x < 0) (h1 : ¬ nI n ≤ x) (hn : n < 2 ^ 31) : vp_in x n := by
  rcases pk_ix x hn with h | h | ⟨j, hj, rfl⟩
  · exact absurd h h0
  · exact absurd h h1
  · exact vp_in_nI hj hn
/-! constructors: the world w, and cells that come, at addresses q 0, q 1 .. -/
def mk_cq (D : va_G) (cl : List vw_C) (w1 : (Nat → Nat) → va_W) (A : Nat → Prop) : Array Value → State → Outcome → State → Prop := fun _ st o t => o = .returned none ∧ ∃ q : Nat → Nat, va_P D cl (w1 q) t.heap ∧ va_D A (w1 q) ∧ va_F A st t
def mC (l : Launch) (y : MethodName) (ws : List Cond) (rm : Room) (av : List Value) (D : va_G) (cl : List vw_C) (tys : List (ClassId × FieldType)) (w : va_W) (w1 : (Nat → Nat) → va_W) (mc ms : Nat) : Prop := ∀ sz : Nat, Met l y ws rm (va_Pc av (mk_pM D cl tys w sz)) (mk_cq D cl w1 (va_A w sz)) mc ms (va_A w sz)
section MC
variable {p : Program} {l : Launch} {e : Env} {R : Room} {s : State} {m : MethodId} {args : Array Value} {below : List Frame} {meth : Method} {c : Code} {H : Heap} {locs : List Loc} {cells slots : Nat} {Q : State → Prop}
variable {pc : Nat} {ls : Array Slot} {rest st0 : List Value} {a : Array Value} {D : va_G} {cl : List vw_C} {tys : List (ClassId × FieldType)} {A : Nat → Prop} {H0 : Heap}
theorem mk_c0 {mc ms : Nat} {ws wc wr : va_W} {w1 : (Nat → Nat) → va_W} (hr : CallRun p l e R s m args below meth c H locs cells slots mc ms (F0 m pc ls st0) rest (mk_cq D cl w1 (va_A wc H.size) a) (va_A wc H.size))
    (hP : va_P D cl ws H) (hD : va_D A ws) (hS : va_S A H0 H locs) (hA : ∀ q, H0.size ≤ q → A q) (isC isR : List Nat) (hC : isC.map (fun i => ws[i]?) = wc.map some) (hR : isR.map (fun i => ws[i]?) = wr.map some) (hn : va_nd isR = true) (hdis : ∀ i ∈ isR, i ∉ isC)
    (kk : ∀ (q : Nat → Nat) (H1 : Heap) (locs1 : List Loc), va_P D cl (wr ++ w1 q) H1 → va_D A (wr ++ w1 q) → va_S A H0 H1 locs1 → W p l e R s m args below meth c H1 locs1 (cells + mc) (slots + ms) Q (F0 m (pc + 3) ls rest)) : W p l e R s m args below meth c H locs cells slots Q (F0 m pc ls st0) := by
  have hF := va_free hD hS hA isC hC
  intro T hT X
  obtain ⟨v2, st₀, t, T', L, h0, X', hL, e1, ⟨hv, q, hP1, hD1, hFr⟩, st⟩ := hr T hT X
  cases hv
  obtain ⟨hP', hD'⟩ := va_join hP hD isC isR hC hR hn hdis (fun q h1 h2 => by rw [hFr.2 q (by rw [h0]; exact h1) h2, h0]) hF hP1 hD1
  obtain ⟨t2, a1, b1⟩ := kk q t.heap (locs ++ L) hP' hD' (mk_sJ (w1 := w1 q) h0 hS hF hFr hL) T' e1 X'
  exact ⟨t2, st t2 a1, b1⟩
theorem mk_cA {cI cA : ClassId} (h : va_K D cl ([(cI, .int)] ++ [(cA, .int)]) s) : cA = cI :=
  Option.some.inj ((va_nm_int (h.2 1 (cA, .int) rfl).2).symm.trans (va_nm_int (h.2 0 (cI, .int) rfl).2))
end MC
section MCI
variable {l : Launch} {y : MethodName} {ws ws' : List Cond} {rm : Room} {cc : ByteArray} {maxL : Nat} {av : List Value} {D : va_G} {cl : List vw_C} {tys : List (ClassId × FieldType)} {w : va_W}
theorem mk_Cv {w1 : (Nat → Nat) → va_W} {mc ms : Nat} (hy : plainName y.cls = true) (hw : ws = Cond.code y cc maxL none :: ws') (hlen : (lg_sl av).length ≤ maxL)
    (body : ∀ (p : Program) (e : Env) (s : State) (m : MethodId) (below : List Frame) (meth : Method) (c : Code) (Q : State → Prop) (A : Nat → Prop) (ls : Array Slot), CallFix p m c cc maxL s av.toArray ws y.cls → va_P D cl w s.heap → va_K D cl tys s → sT A s s.heap → va_S A s.heap s.heap [] → lv_has ls maxL (lv_args 0 av) → va_D A w → (∀ q : Nat, s.heap.size ≤ q → A q) → meth.name = y.name →
      (∀ (pc : Nat) (ls : Array Slot) (H : Heap) (locs : List Loc) (q : Nat → Nat), decode cc pc = .ok (.return_, 1) → va_P D cl (w1 q) H → va_D A (w1 q) → va_S A s.heap H locs → W p l e rm s m av.toArray below meth c H locs mc ms Q (F0 m pc ls [])) → W p l e rm s m av.toArray below meth c s.heap [] 0 0 Q (F0 m 0 ls [])) : mC l y ws rm av D cl tys w w1 mc ms := by
  intro sz
  refine Met.ofW (cc := cc) (maxL := maxL) (ret := none) hy hw ?_
  intro p e s m args below meth c s₁ B hml hv
  obtain ⟨rfl, hsz, hP, hK, hD0, hT⟩ := hv
  subst hsz
  have hD := hD0.self (sz := s.heap.size)
  have hA : ∀ q : Nat, s.heap.size ≤ q → va_A w s.heap.size q := fun q h => Or.inr h
  have hl := lv_entry av (n := maxL) hlen
  have hlocks := B.notSynchronized
  rw [lg_entry_eq]
  generalize (lg_sl av ++ List.replicate (maxL - (lg_sl av).length) Slot.unset).toArray = ls at hl ⊢
  generalize va_A w s.heap.size = A at hD hA hT ⊢
  exact body p e s m below meth c _ A ls ⟨B.exec, B.bytes, hml, findClass_of_methodNamed B.named, atoms_spec (ws := ws) B.pre⟩ hP hK hT va_S.rf hl hD hA (name_of_methodNamed B.named B.method).1
    (fun pc ls H locs q hd hP1 hD1 hS1 => W.vret B.exec B.bytes B.returns (fun t ht hW => ⟨rfl, q, by rw [ht]; exact hP1, hD1, hS1.F ht⟩) hS1.2.2 hd)
end MCI
