/-! The reference's words in numbers -/
def rv (U : Nat → Nat) (r : Nat) : Nat → Nat := fun j => U (255 * r + j)
theorem rv_lt {U : Nat → Nat} {r : Nat} (h : ∀ j, U j < 65536) (j : Nat) : rv U r j < 65536 := h _
theorem mk_uat {F : Nat → Nat} {k x : Nat} : nf (uN F k x) k = nI x := by simp [nf, uN]
theorem mk_uu {F : Nat → Nat} {k x y : Nat} : uN (uN F k x) k y = uN F k y := by
  funext j
  by_cases h : j = k <;> simp [uN, h]
theorem mk_shr6 {u b : Nat} (hu : u < 65536) (hb : b ≤ 2) : nI u >>> (nI (6 * b) &&& 31) = nI (u / 2 ^ (6 * b)) := by
  rcases (show b = 0 ∨ b = 1 ∨ b = 2 by omega) with rfl | rfl | rfl
  · exact pk_shrN (by omega) _ 0 (by decide)
  · exact pk_shrN (by omega) _ 6 (by decide)
  · exact pk_shrN (by omega) _ 12 (by decide)
/-- the first point from i on, or the end -/
def fpN (v : Nat → Nat) : Nat → Nat → Nat
  | 0, i => i
  | k + 1, i => if v i = 46 then i else fpN v k (i + 1)
theorem fpN_le (v : Nat → Nat) : ∀ k i, fpN v k i ≤ i + k
  | 0, i => Nat.le_refl i
  | k + 1, i => by
    have := fpN_le v k (i + 1)
    unfold fpN
    split <;> omega
def spOk (p n : Nat) : Bool := decide (1 ≤ p ∧ p ≤ 8 ∧ (p < n → 2 ≤ n - p ∧ n - p ≤ 4))
/-- where the look at the signs ends -/
def fkN (v : Nat → Nat) (p : Nat) : Nat → Nat → Nat
  | 0, i => i
  | k + 1, i => if i ≠ p ∧ okS (v i) = false then i else fkN v p k (i + 1)
def fkR (v : Nat → Nat) (p : Nat) : Nat → Nat → Bool
  | 0, _ => true
  | k + 1, i => if i ≠ p ∧ okS (v i) = false then false else fkR v p k (i + 1)
def sbN (v : Nat → Nat) (p i : Nat) (b : Nat → Nat) : Nat → Nat := if i < p then uN b i (v i) else if p < i then uN b (7 + i - p) (v i) else b
def sbL (v : Nat → Nat) (p : Nat) (b : Nat → Nat) : Nat → Nat → Nat
  | 0 => b
  | i + 1 => sbN v p i (sbL v p b i)
theorem sbL_lt {v b : Nat → Nat} {p : Nat} (hv : ∀ j, v j < 65536) (hb : ∀ j, b j < 65536) : ∀ i j, sbL v p b i j < 65536
  | 0, j => hb j
  | i + 1, j => by
    unfold sbL sbN
    (repeat' split)
    · exact uN_lt (sbL_lt hv hb i) (hv i) j
    · exact uN_lt (sbL_lt hv hb i) (hv i) j
    · exact sbL_lt hv hb i j
def swR (v : Nat → Nat) (n : Nat) : Bool := spOk (fpN v n 0) n && fkR v (fpN v n 0) n 0
def swB (v : Nat → Nat) (n : Nat) (b : Nat → Nat) : Nat → Nat := if spOk (fpN v n 0) n = true then sbL v (fpN v n 0) (fiN b 32 11) (fkN v (fpN v n 0) n 0) else b
theorem swB_lt {v b : Nat → Nat} {n : Nat} (hv : ∀ j, v j < 65536) (hb : ∀ j, b j < 65536) (j : Nat) : swB v n b j < 65536 := by
  unfold swB
  split
  · exact sbL_lt hv (fiN_lt hb (by omega)) _ j
  · exact hb j
def foN (u : Nat) : Nat := if u = 32 ∨ u = 46 then 0 else shoN u
theorem shoN_in (u : Nat) : 33 ≤ shoN u := by
  unfold shoN
  split
  · rename_i h
    simp only [okS, decide_eq_true_eq] at h
    omega
  · omega
theorem foN_0 {u : Nat} : foN u = 0 ↔ u = 32 ∨ u = 46 := by
  have := shoN_in u
  unfold foN
  split <;> omega
theorem foN_1 {u : Nat} (h : ¬ foN u = 0) : foN u = shoN u := by
  rw [foN_0] at h
  unfold foN
  rw [if_neg h]
theorem foN_lt {u : Nat} (h : u < 65536) : foN u < 65536 := by
  have := shoN_lt h
  unfold foN
  split <;> omega
/-- the place of the last point, or 0 -/
def laN (v : Nat → Nat) : Nat → Nat
  | 0 => 0
  | l + 1 => if v (l + 1) = 46 then l + 1 else laN v l
theorem laN_le (v : Nat → Nat) : ∀ l, laN v l ≤ l
  | 0 => Nat.le_refl 0
  | l + 1 => by
    have := laN_le v l
    unfold laN
    split <;> omega
theorem shC_full (v : Nat → Nat) (mo : Nat) : ∀ k i, shC v mo k i mo = mo
  | 0, _ => rfl
  | k + 1, i => by rw [shC, if_neg (Nat.lt_irrefl mo)]
theorem shB_full (v : Nat → Nat) (p mo : Nat) : ∀ k i b, shB v p mo k i mo b = b
  | 0, _, _ => rfl
  | k + 1, i, b => by rw [shB, if_neg (Nat.lt_irrefl mo)]
/-- the end of the base -/
def eqN (v : Nat → Nat) (n : Nat) : Nat := if laN v (n - 1) = 0 then n else laN v (n - 1)
def tdN (v : Nat → Nat) (n t : Nat) (b : Nat → Nat) : Nat → Nat :=
  shB v 8 3 (n - (eqN v n + 1)) (eqN v n + 1) 0 (nuN (shC v (7 - dgN t) (eqN v n) 0 0 + 1) (dgN t) t (uN (shB v 0 (7 - dgN t) (eqN v n) 0 0 (fiN b 32 11)) (shC v (7 - dgN t) (eqN v n) 0 0) 126))
def duN (b q l su : Nat) : Nat := if b = 0 then (if l = 0 then q + 0 else q + 64) else if b = 11 then 15 else if b = 13 then su else 0
/-- a part's units, at o -/
def muL (v : Nat → Nat) (n q o : Nat) (B : Nat → Nat) : Nat → Nat → Nat
  | 0 => B
  | i + 1 => uN (uN (muL v n q o B i) (o + plN i) (ufN v n (13 * (q - 1) + i) % 256)) (o + plN i + 1) (ufN v n (13 * (q - 1) + i) / 256)
theorem muL_lt {v B : Nat → Nat} (n q o : Nat) (hv : ∀ j, v j < 65536) (hB : ∀ j, B j < 256) : ∀ i j, muL v n q o B i j < 256
  | 0, j => hB j
  | i + 1, j => by
    have := ufN_lt n (13 * (q - 1) + i) hv
    unfold muL
    exact uN_lt (uN_lt (muL_lt n q o hv hB i) (by omega)) (by omega) j
/-- after i parts -/
def mpB (v : Nat → Nat) (n su e ps : Nat) (B : Nat → Nat) : Nat → Nat → Nat
  | 0 => B
  | i + 1 => muL v n (i + 1) (e - 32 * (i + 1)) (stN (mpB v n su e ps B i) (fun b => duN b (i + 1) (if i + 1 = ps then 1 else 0) su) (e - 32 * (i + 1)) 14) 13
theorem muL_out {v B : Nat → Nat} {n q o : Nat} {a : Nat} (h : a < o ∨ o + 32 ≤ a) : ∀ i, i ≤ 13 → muL v n q o B i a = B a
  | 0, _ => rfl
  | i + 1, hi => by
    have := plN_le (j := i) (by omega)
    unfold muL
    have h1 : ¬ a = o + plN i + 1 := by omega
    have h2 : ¬ a = o + plN i := by omega
    simp only [uN, if_neg h1, if_neg h2]
    exact muL_out h i (by omega)
theorem mpB_out {v B : Nat → Nat} {n su e ps a : Nat} (h : e ≤ a) : ∀ i, 32 * i ≤ e → mpB v n su e ps B i a = B a
  | 0, _ => rfl
  | i + 1, hi => by
    unfold mpB
    rw [muL_out (by omega) 13 (by omega)]
    have : ¬ (e - 32 * (i + 1) ≤ a ∧ a < e - 32 * (i + 1) + 14) := by omega
    simp only [stN, if_neg this]
    exact mpB_out h i (by omega)
theorem suN_congr {B C : Nat → Nat} {b : Nat} : ∀ {i : Nat}, (∀ j, j < i → B (b + j) = C (b + j)) → suN B b i = suN C b i
  | 0, _ => rfl
  | i + 1, h => by
    unfold suN
    rw [suN_congr (i := i) (fun j hj => h j (by omega)), h i (by omega)]
theorem su_st {B c : Nat → Nat} {o i e su : Nat} (h : o + i ≤ e) (hs : suN B e 11 = su) : suN (stN B c o i) e 11 = su := by
  rw [← hs]
  refine suN_congr (fun j hj => ?_)
  have : ¬ (o ≤ e + j ∧ e + j < o + i) := by omega
  simp only [stN, if_neg this]
/-- the bytes of a short entry -/
def isJ (B : Nat → Nat) (f i : Nat) : Bool := decide ((B (f + i) = 32 ∨ okS (B (f + i)) = true) ∧ (B (f + i) = 32 ∨ i = 0 ∨ i = 8 ∨ B (f + i - 1) ≠ 32))
theorem isJ_of {B : Nat → Nat} {f i : Nat} (h1 : B (f + i) = 32 ∨ okS (B (f + i)) = true) (h2 : B (f + i) = 32 ∨ i = 0 ∨ i = 8 ∨ B (f + i - 1) ≠ 32) : isJ B f i = true := decide_eq_true ⟨h1, h2⟩
theorem isJ_to {B : Nat → Nat} {f i : Nat} (h : isJ B f i = true) : (B (f + i) = 32 ∨ okS (B (f + i)) = true) ∧ (B (f + i) = 32 ∨ i = 0 ∨ i = 8 ∨ B (f + i - 1) ≠ 32) := of_decide_eq_true h
def isK (B : Nat → Nat) (f n : Nat) : Bool := decide (B f ≠ 32 ∧ ∀ i, i < n → isJ B f i = true)
def isF (B : Nat → Nat) (f : Nat) : Bool := isK B f 11
/-- what readShown adds -/
def rsC (B : Nat → Nat) (f : Nat) : Nat → Nat → Nat → Nat
  | 0, _, c => c
  | k + 1, i, c => if i = 8 ∧ B (f + 8) ≠ 32 then (if B (f + i) ≠ 32 then rsC B f k (i + 1) (c + 1 + 1) else rsC B f k (i + 1) (c + 1)) else (if B (f + i) ≠ 32 then rsC B f k (i + 1) (c + 1) else rsC B f k (i + 1) c)
def rsU (B : Nat → Nat) (f r : Nat) : Nat → Nat → Nat → (Nat → Nat) → Nat → Nat
  | 0, _, _, U => U
  | k + 1, i, c, U => if i = 8 ∧ B (f + 8) ≠ 32 then (if B (f + i) ≠ 32 then rsU B f r k (i + 1) (c + 1 + 1) (uN (uN U (255 * r + c) 46) (255 * r + (c + 1)) (B (f + i))) else rsU B f r k (i + 1) (c + 1) (uN U (255 * r + c) 46)) else (if B (f + i) ≠ 32 then rsU B f r k (i + 1) (c + 1) (uN U (255 * r + c) (B (f + i))) else rsU B f r k (i + 1) c U)
def baN (u : Nat) : Bool := decide (u < 32 ∨ u = 127 ∨ 65533 < u ∨ (55296 ≤ u ∧ u ≤ 57343) ∨ u = 34 ∨ u = 42 ∨ u = 47 ∨ u = 58 ∨ u = 60 ∨ u = 62 ∨ u = 63 ∨ u = 92 ∨ u = 124)
theorem baN_t {u : Nat} (h : baN u = true) : okN u = false := by
  simp only [baN, decide_eq_true_eq] at h
  simp only [okN, decide_eq_false_iff_not]
  omega
theorem baN_f {u : Nat} (h : baN u = false) : okN u = true := by
  simp only [baN, decide_eq_false_iff_not] at h
  simp only [okN, decide_eq_true_eq]
  omega
def mlN2 (y m : Nat) : Nat := if m = 2 then (if leN y = true then 29 else 28) else if m = 4 ∨ m = 6 ∨ m = 9 ∨ m = 11 then 30 else 31
theorem mlN2_le (y m : Nat) : mlN2 y m ≤ 31 := by
  unfold mlN2
  (repeat' split) <;> omega
theorem eb_m0 {u x : Nat} (h : wdN u = 1) (hx : x = 0) : ebN u x = u := by
  revert h
  unfold wdN ebN
  (repeat' split) <;> omega
theorem eb_m1 {u x : Nat} (h0 : 0 < x) (hx : x < wdN u) : ebN u x = 128 + u / 2 ^ (6 * (wdN u - 1 - x)) % 2 ^ 6 := by
  have h6 : (128 ≤ u ∧ u < 2048 ∧ wdN u = 2) ∨ (2048 ≤ u ∧ wdN u = 3) := by
    revert hx; unfold wdN; (repeat' split) <;> omega
  rcases h6 with ⟨a, b, hw⟩ | ⟨a, hw⟩
  · rw [hw] at hx ⊢
    obtain rfl : x = 1 := by omega
    unfold ebN
    (repeat' split) <;> omega
  · rw [hw] at hx ⊢
    rcases (show x = 1 ∨ x = 2 by omega) with rfl | rfl <;> unfold ebN <;> (repeat' split) <;> omega
theorem eb_m2 {u x : Nat} (h : wdN u = 2) (hx : x = 0) : ebN u x = 192 + u / 2 ^ (6 * (wdN u - 1 - x)) := by
  have h6 : 128 ≤ u ∧ u < 2048 := by
    revert h; unfold wdN; (repeat' split) <;> omega
  rw [h, hx]
  unfold ebN
  (repeat' split) <;> omega
theorem eb_m3 {u x : Nat} (h : ¬ wdN u = 1) (h2 : ¬ wdN u = 2) (hx : x = 0) : ebN u x = 224 + u / 2 ^ (6 * (wdN u - 1 - x)) := by
  have h6 : 2048 ≤ u ∧ wdN u = 3 := by
    revert h h2; unfold wdN; (repeat' split) <;> omega
  rw [h6.2, hx]
  unfold ebN
  (repeat' split) <;> omega
theorem mk_lk {a b : Nat} {v w : Nat → Nat} {i : Nat} {sm : Bool} (hi : i ≤ a) (h1 : sm = true → a = b ∧ ∀ j, j < i → capN (v j) = capN (w j)) (h0 : sm = false → likeN v a w b = false) (h : a ≤ i ∨ sm = false) : bI sm = bI (likeN v a w b) := by
  cases hs : sm with
  | false => rw [h0 hs]
  | true =>
    rcases h with h | h
    · obtain ⟨q1, q2⟩ := h1 hs
      rw [show likeN v a w b = true from (by simp only [likeN, decide_eq_true_eq]; exact ⟨q1, fun j hj => q2 j (by omega)⟩)]
    · rw [hs] at h
      cases h
def sgN (d t : Nat) : Bool := decide (1 ≤ d / 32 % 16 ∧ d / 32 % 16 ≤ 12 ∧ 1 ≤ d % 32 ∧ d % 32 ≤ mlN2 (1980 + d / 512) (d / 32 % 16) ∧ t / 2048 ≤ 23 ∧ t / 32 % 64 ≤ 59 ∧ t % 32 ≤ 29)
def md2 (y : Nat) : Nat → Nat
  | 0 => 0
  | k + 1 => md2 y k + mlN2 y (k + 1)
def ssN (d t : Nat) : Nat := (((d % 32 - 1 + ydN (1980 + d / 512 - 1970) + md2 (1980 + d / 512) (d / 32 % 16 - 1)) * 24 + t / 2048) * 60 + t / 32 % 64) * 60 + 2 * (t % 32)
section ML
variable {l : Launch} {y : MethodName} {ws ws' : List Cond} {rm : Room} {cc : ByteArray} {maxL : Nat} {av : List Value} {D : va_G} {cl : List vw_C} {tys : List (ClassId × FieldType)} {w : va_W}
/-- a writer's body: long -/
theorem mk_Ml {r : Int64} {w1 : va_W} (hy : plainName y.cls = true) (hw : ws = Cond.code y cc maxL (some .long) :: ws') (hlen : (lg_sl av).length ≤ maxL)
    (body : ∀ (p : Program) (e : Env) (s : State) (m : MethodId) (below : List Frame) (meth : Method) (c : Code) (Q : State → Prop) (A : Nat → Prop) (ls : Array Slot), CallFix p m c cc maxL s av.toArray ws y.cls → va_P D cl w s.heap → va_K D cl tys s → sT A s s.heap → va_S A s.heap s.heap [] → lv_has ls maxL (lv_args 0 av) → va_D A w → (∀ q : Nat, s.heap.size ≤ q → A q) →
      (∀ (pc : Nat) (ls : Array Slot) (H : Heap) (locs : List Loc), decode cc pc = .ok (.lreturn, 1) → va_P D cl w1 H → va_D A w1 → va_S A s.heap H locs → W p l e rm s m av.toArray below meth c H locs 0 0 Q (F0 m pc ls [.long r])) → W p l e rm s m av.toArray below meth c s.heap [] 0 0 Q (F0 m 0 ls [])) : mM l y ws rm av D cl tys w (some (.long r)) w1 := by
  intro sz
  refine Met.ofW (cc := cc) (maxL := maxL) (ret := some .long) hy hw ?_
  intro p e s m args below meth c s₁ B hml hv
  obtain ⟨rfl, hsz, hP, hK, hD0, hT⟩ := hv
  subst hsz
  have hD := hD0.self (sz := s.heap.size)
  have hA : ∀ q : Nat, s.heap.size ≤ q → va_A w s.heap.size q := fun q h => Or.inr h
  have hl := lv_entry av (n := maxL) hlen
  have hlocks := B.notSynchronized
  rw [lg_entry_eq]
  generalize (lg_sl av ++ List.replicate (maxL - (lg_sl av).length) Slot.unset).toArray = ls at hl ⊢
  generalize va_A w s.heap.size = A at hD hA hT ⊢
  exact body p e s m below meth c _ A ls ⟨B.exec, B.bytes, hml, findClass_of_methodNamed B.named, atoms_spec (ws := ws) B.pre⟩ hP hK hT va_S.rf hl hD hA
    (fun pc ls H locs hd hP1 hD1 hS1 => W.lret B.exec B.bytes B.returns (fun t ht hW => ⟨rfl, by rw [ht]; exact hP1, hD1, hS1.F ht⟩) hS1.2.2 hd)
end ML
