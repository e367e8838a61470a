/-! a callee that throws, from its caller -/
section TB
variable {l : Launch} {R : Room} {p : Program} {e : Env} {below : List Frame} {s : State} {sargs : Array Value} {y : MethodName} {Wd : Nat} {D : va_G} {cl : List vw_C} {tys : List (ClassId × FieldType)}
theorem th_back {X : String} {ws : List Cond} {rm : Room} {av : List Value} {w w1 : va_W} {sz : Nat} {bytes : ByteArray} {maxL : Nat} {ret : Option FieldType}
    (hM : MetFree l y (headSpec ws rm) (va_Pc av (mk_pM D cl tys w sz)) (fun _ _ _ _ _ => True) (mk_tq X D cl w1 (va_A w sz))) (hrc : rm.cells = 1) (hrs : rm.slots = 6)
    (hframes : rm.frames + 1 ≤ R.frames) (hlocals : Wd + (maxL + 11) + rm.locals ≤ R.locals)
    (hws : ∀ w ∈ ws, ∀ a' U, s.WarmedH U.vm → w.before a' U = true) (hcode : Cond.code y bytes maxL ret ∈ ws) (hinit : ∀ a' U, s.WarmedH U.vm → (Cond.initialized y.cls).before a' U = true) :
    Free.BackT l R p e below s sargs y 3 Wd (PreOf R 1 6 (va_Pc av (mk_pM D cl tys w sz))) (fun A a x B => ∃ (g : JFrame) (mk : MethodId) (t : State) (L : List Loc), B.U.heap = t.heap ∧ B.U.vm = t.vm ∧ mk_tq X D cl w1 (va_A w sz) a (A.U.calling g mk a) (.threw x) t ∧ B.locs = A.locs ++ L ∧ (∀ q ∈ L, va_A w sz q.base) ∧ B.cells = A.cells + 1 ∧ B.slots = A.slots + 6) := by
  refine Free.BackT.of_free (S := headSpec ws rm) (bytes := bytes) (maxL := maxL) (ret := ret) (E := fun a st o t L k n => k = 1 ∧ n = 6 ∧ ∀ q ∈ L, va_A w sz q.base) hM hframes hlocals ?_ ?_ (fun _ _ _ _ _ _ _ _ _ => trivial) ?_ ?_
  · intro m meth c A a X hp
    exact ⟨atoms_intro fun w hw => hws w hw _ _ X.warmed, hws _ hcode _ _ X.warmed, hinit _ _ X.warmed, by rw [show (headSpec ws rm).room.cells = 1 from hrc]; exact hp.1, by rw [show (headSpec ws rm).room.slots = 6 from hrs]; exact hp.2.1⟩
  · intro m meth c A a g mk X hp
    exact mk_bM _ _ _ _ hp.2.2
  · intro a st o t hq
    obtain ⟨x, ce, ho, -, -, -, -, -, -, hW, L, hs, hL⟩ := hq
    exact ⟨L, 1, 6, ⟨⟨x, ho⟩, hW, hs⟩, rfl, rfl, hL⟩
  · intro m meth c A a g mk v t L k n X hp hq hF ⟨e1, e2, hL⟩
    subst e1; subst e2
    exact ⟨g, mk, t, L, rfl, rfl, hq, rfl, hL, rfl, rfl⟩
end TB
