/-! a writer that leaves some row behind -/
def mk_eq (ro : Option Value) (D : va_G) (cl : List vw_C) (w1 : (Nat → Nat) → Nat → va_W) (A : Nat → Prop) : Array Value → State → Outcome → State → Prop := fun _ st o t => o = .returned ro ∧ ∃ (q : Nat → Nat) (n : Nat), (∀ j, q j < 65536) ∧ n ≤ 255 ∧ va_P D cl (w1 q n) t.heap ∧ va_D A (w1 q n) ∧ va_F A st t
def mE (l : Launch) (y : MethodName) (ws : List Cond) (rm : Room) (av : List Value) (D : va_G) (cl : List vw_C) (tys : List (ClassId × FieldType)) (w : va_W) (ro : Option Value) (w1 : (Nat → Nat) → Nat → va_W) : Prop := ∀ sz : Nat, Met l y ws rm (va_Pc av (mk_pM D cl tys w sz)) (mk_eq ro D cl w1 (va_A w sz)) 0 0 (va_A w sz)
section ME
variable {p : Program} {l : Launch} {e : Env} {R : Room} {s : State} {m : MethodId} {args : Array Value} {below : List Frame} {meth : Method} {c : Code} {H : Heap} {locs : List Loc} {cells slots : Nat} {Q : State → Prop}
variable {pc : Nat} {ls : Array Slot} {rest st0 : List Value} {a : Array Value} {D : va_G} {cl : List vw_C} {tys : List (ClassId × FieldType)} {A : Nat → Prop} {H0 : Heap}
theorem mk_e1 {v : Value} {ws wc wr : va_W} {w1 : (Nat → Nat) → Nat → va_W} (hr : CallRun p l e R s m args below meth c H locs cells slots 0 0 (F0 m pc ls st0) rest (mk_eq (some v) D cl w1 (va_A wc H.size) a) (va_A wc H.size))
    (hP : va_P D cl ws H) (hD : va_D A ws) (hS : va_S A H0 H locs) (hA : ∀ q, H0.size ≤ q → A q) (isC isR : List Nat) (hC : isC.map (fun i => ws[i]?) = wc.map some) (hR : isR.map (fun i => ws[i]?) = wr.map some) (hn : va_nd isR = true) (hdis : ∀ i ∈ isR, i ∉ isC)
    (kk : ∀ (q : Nat → Nat) (n : Nat) (H1 : Heap) (locs1 : List Loc), (∀ j, q j < 65536) → n ≤ 255 → va_P D cl (wr ++ w1 q n) H1 → va_D A (wr ++ w1 q n) → va_S A H0 H1 locs1 → W p l e R s m args below meth c H1 locs1 cells slots Q (F0 m (pc + 3) ls (v :: rest))) : W p l e R s m args below meth c H locs cells slots Q (F0 m pc ls st0) := by
  have hF := va_free hD hS hA isC hC
  intro T hT X
  obtain ⟨v2, st₀, t, T', L, h0, X', hL, e1, ⟨hv, q, n, hq, hn9, hP1, hD1, hFr⟩, st⟩ := hr T hT X
  cases hv
  obtain ⟨hP', hD'⟩ := va_join hP hD isC isR hC hR hn hdis (fun q h1 h2 => by rw [hFr.2 q (by rw [h0]; exact h1) h2, h0]) hF hP1 hD1
  obtain ⟨t2, a1, b1⟩ := kk q n t.heap (locs ++ L) hq hn9 hP' hD' (mk_sJ (w1 := w1 q n) h0 hS hF hFr hL) T' e1 X'
  exact ⟨t2, st t2 a1, b1⟩
end ME
section MEI
variable {l : Launch} {y : MethodName} {ws ws' : List Cond} {rm : Room} {cc : ByteArray} {maxL : Nat} {av : List Value} {D : va_G} {cl : List vw_C} {tys : List (ClassId × FieldType)} {w : va_W}
theorem mk_Ei {ty : FieldType} {r : Int32} {w1 : (Nat → Nat) → Nat → va_W} (hy : plainName y.cls = true) (hw : ws = Cond.code y cc maxL (some ty) :: ws') (hlen : (lg_sl av).length ≤ maxL) (hnar : narrow ty (.int r) = .int r)
    (body : ∀ (p : Program) (e : Env) (s : State) (m : MethodId) (below : List Frame) (meth : Method) (c : Code) (Q : State → Prop) (A : Nat → Prop) (ls : Array Slot), CallFix p m c cc maxL s av.toArray ws y.cls → va_P D cl w s.heap → va_K D cl tys s → sT A s s.heap → va_S A s.heap s.heap [] → lv_has ls maxL (lv_args 0 av) → va_D A w → (∀ q : Nat, s.heap.size ≤ q → A q) →
      (∀ (pc : Nat) (ls : Array Slot) (H : Heap) (locs : List Loc) (q : Nat → Nat) (n : Nat), decode cc pc = .ok (.ireturn, 1) → (∀ j, q j < 65536) → n ≤ 255 → va_P D cl (w1 q n) H → va_D A (w1 q n) → va_S A s.heap H locs → W p l e rm s m av.toArray below meth c H locs 0 0 Q (F0 m pc ls [.int r])) → W p l e rm s m av.toArray below meth c s.heap [] 0 0 Q (F0 m 0 ls [])) : mE l y ws rm av D cl tys w (some (.int r)) w1 := by
  intro sz
  refine Met.ofW (cc := cc) (maxL := maxL) (ret := some ty) hy hw ?_
  intro p e s m args below meth c s₁ B hml hv
  obtain ⟨rfl, hsz, hP, hK, hD0, hT⟩ := hv
  subst hsz
  have hD := hD0.self (sz := s.heap.size)
  have hA : ∀ q : Nat, s.heap.size ≤ q → va_A w s.heap.size q := fun q h => Or.inr h
  have hl := lv_entry av (n := maxL) hlen
  have hlocks := B.notSynchronized
  rw [lg_entry_eq]
  generalize (lg_sl av ++ List.replicate (maxL - (lg_sl av).length) Slot.unset).toArray = ls at hl ⊢
  generalize va_A w s.heap.size = A at hD hA hT ⊢
  exact body p e s m below meth c _ A ls ⟨B.exec, B.bytes, hml, findClass_of_methodNamed B.named, atoms_spec (ws := ws) B.pre⟩ hP hK hT va_S.rf hl hD hA
    (fun pc ls H locs q n hd hq hn hP1 hD1 hS1 => W.zret B.exec B.bytes B.returns hnar (fun t ht hW => ⟨rfl, q, n, hq, hn, by rw [ht]; exact hP1, hD1, hS1.F ht⟩) hS1.2.2 hd)
end MEI
/-! the units of the parts before f -/
def mt (B : Nat → Nat) (f t : Nat) : Nat := B (f - 32 * (t / 13 + 1) + plN (t % 13)) + 256 * B (f - 32 * (t / 13 + 1) + plN (t % 13) + 1)
theorem mt_at {B : Nat → Nat} {f io i : Nat} (hi : i < 13) : mt B f (13 * io + i) = B (f - 32 * (io + 1) + plN i) + 256 * B (f - 32 * (io + 1) + plN i + 1) := by
  unfold mt
  rw [show (13 * io + i) / 13 = io by omega, show (13 * io + i) % 13 = i by omega]
theorem mt_lt {B : Nat → Nat} {f : Nat} (h : ∀ j, B j < 256) (t : Nat) : mt B f t < 65536 := by
  have h1 := h (f - 32 * (t / 13 + 1) + plN (t % 13))
  have h2 := h (f - 32 * (t / 13 + 1) + plN (t % 13) + 1)
  unfold mt
  omega
def owB (b : Nat) : Bool := decide (b = 0 ∨ (10 < b ∧ b < 14) ∨ 25 < b)
theorem nameN_cg {v w : Nat → Nat} {n : Nat} (h : ∀ j, j < n → v j = w j) : nameN v n = nameN w n := by
  cases n with
  | zero => simp [nameN]
  | succ n =>
    unfold nameN
    rw [show n + 1 - 1 = n from rfl, h n (Nat.lt_succ_self n)]
    congr 1
    refine propext ⟨fun q => ⟨q.1, fun i hi => (by rw [← h i hi]; exact q.2.1 i hi), q.2.2⟩, fun q => ⟨q.1, fun i hi => (by rw [h i hi]; exact q.2.1 i hi), q.2.2⟩⟩
theorem rv_st {U g : Nat → Nat} {r n j : Nat} (h : j < n) : rv (stN U g (255 * r) n) r j = g j := by
  unfold rv stN
  rw [if_pos ⟨by omega, by omega⟩, Nat.add_sub_cancel_left]
theorem nm_fin {U Z g : Nat → Nat} {r n : Nat} : nameN (rv (stN U g (255 * r) n) r) ((uN Z r n) r) = nameN g n := by
  rw [show (uN Z r n) r = n from (by simp [uN])]
  exact nameN_cg (fun j hj => rv_st hj)
def rpS (B : Nat → Nat) (f io n : Nat) (ov : Bool) (T : Nat) : Prop := n ≤ 255 ∧ (∀ t, t < n → mt B f t ≠ 0) ∧ (ov = false → n = T) ∧ (ov = true → 13 * io < n ∧ n < T ∧ mt B f n = 0 ∧ ∀ t, n < t → t < T → mt B f t = 65535)
theorem rpS_o {B : Nat → Nat} {f io n T : Nat} {ov : Bool} (h : rpS B f io n ov T) (ho : ov = true) (hu : mt B f T = 65535) : rpS B f io n true (T + 1) := by
  obtain ⟨h1, h2, -, h4⟩ := h
  obtain ⟨a1, a2, a3, a4⟩ := h4 ho
  refine ⟨h1, h2, fun q => absurd q (by decide), fun _ => ⟨a1, by omega, a3, fun t q1 q2 => ?_⟩⟩
  by_cases e : t = T
  · rw [e]; exact hu
  · exact a4 t q1 (by omega)
theorem rpS_z {B : Nat → Nat} {f io n T : Nat} {ov : Bool} (h : rpS B f io n ov T) (ho : ov = false) (hu : mt B f T = 0) (hT : 13 * io < T) : rpS B f io n true (T + 1) := by
  obtain ⟨h1, h2, h3, -⟩ := h
  have e := h3 ho
  exact ⟨h1, h2, fun q => absurd q (by decide), fun _ => ⟨by omega, by omega, by rw [e]; exact hu, fun t q1 q2 => by omega⟩⟩
theorem rpS_a {B : Nat → Nat} {f io n T : Nat} {ov : Bool} (h : rpS B f io n ov T) (ho : ov = false) (hu : ¬ mt B f T = 0) (hn : ¬ n = 255) : rpS B f io (n + 1) false (T + 1) := by
  obtain ⟨h1, h2, h3, -⟩ := h
  have e := h3 ho
  refine ⟨by omega, fun t ht => ?_, fun _ => by omega, fun q => absurd q (by decide)⟩
  by_cases e2 : t = n
  · rw [e2, e]; exact hu
  · exact h2 t (by omega)
