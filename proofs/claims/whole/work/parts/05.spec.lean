/-! The class's words in numbers: units, rows, bytes. -/
def nf (v : Nat → Nat) : Nat → Int32 := fun j => nI (v j)
def uN (v : Nat → Nat) (k x : Nat) : Nat → Nat := fun j => if j = k then x else v j
theorem nf_up (v : Nat → Nat) (k x : Nat) : upd (nf v) k (nI x) = nf (uN v k x) := by
  funext j
  by_cases h : j = k
  · simp [upd, nf, uN, h]
  · simp [upd, nf, uN, h]
theorem uN_lt {v : Nat → Nat} {k x B : Nat} (h : ∀ j, v j < B) (hx : x < B) : ∀ j, uN v k x j < B := by
  intro j
  by_cases q : j = k
  · simp [uN, q, hx]
  · simp [uN, q, h j]
theorem mk_bt {b : Bool} (h : b = true) : nI 1 = bI b := by rw [h]; rfl
theorem mk_bf {b : Bool} (h : b = false) : nI 0 = bI b := by rw [h]; rfl
theorem mk_ne {a b : Nat} (h : ¬ a = b) (ha : a < 2 ^ 31) (hb : b < 2 ^ 31) : ¬ nI a = nI b := fun q => h ((nI_eq ha hb).mp q)
def okN (u : Nat) : Bool := decide (¬ (u < 32 ∨ 65533 < u ∨ (55296 ≤ u ∧ u ≤ 57343) ∨ u = 34 ∨ u = 42 ∨ u = 47 ∨ u = 58 ∨ u = 60 ∨ u = 62 ∨ u = 63 ∨ u = 92 ∨ u = 124 ∨ u = 127))
def okS (u : Nat) : Bool := decide ((65 ≤ u ∧ u ≤ 90) ∨ (48 ≤ u ∧ u ≤ 57) ∨ u = 33 ∨ u = 35 ∨ u = 36 ∨ u = 37 ∨ u = 38 ∨ u = 39 ∨ u = 40 ∨ u = 41 ∨ u = 45 ∨ u = 64 ∨ u = 94 ∨ u = 95 ∨ u = 96 ∨ u = 123 ∨ u = 125 ∨ u = 126)
def capN (u : Nat) : Nat := if 97 ≤ u ∧ u ≤ 122 then u - 32 else u
def shoN (u : Nat) : Nat := if okS (capN u) = true then capN u else 95
def wdN (u : Nat) : Nat := if u < 128 then 1 else if u < 2048 then 2 else 3
def ebN (u t : Nat) : Nat := if u < 128 then u else if u < 2048 then (if t = 0 then 192 + u / 64 else 128 + u % 64) else (if t = 0 then 224 + u / 4096 else if t = 1 then 128 + u / 64 % 64 else 128 + u % 64)
def nameN (v : Nat → Nat) (n : Nat) : Bool := decide (0 < n ∧ (∀ i, i < n → okN (v i) = true) ∧ v (n - 1) ≠ 32 ∧ v (n - 1) ≠ 46)
/-- one more than the place of the last point, or 0 -/
def lpN (v : Nat → Nat) : Nat → Nat
  | 0 => 0
  | n + 1 => if v n = 46 then n + 1 else lpN v n
def shortN (v : Nat → Nat) (n : Nat) : Bool := decide ((lpN v n = 0 → 1 ≤ n ∧ n ≤ 8) ∧ (0 < lpN v n → 2 ≤ lpN v n ∧ lpN v n ≤ 9 ∧ 1 ≤ n - lpN v n ∧ n - lpN v n ≤ 3) ∧ ∀ i, i < n → i + 1 = lpN v n ∨ okS (v i) = true)
def esN (v : Nat → Nat) : Nat → Nat
  | 0 => 0
  | n + 1 => esN v n + wdN (v n)
def ebL (v : Nat → Nat) : Nat → Nat → Nat → Int32
  | 0, _, _ => -1
  | k + 1, i, r => if r < wdN (v i) then nI (ebN (v i) r) else ebL v k (i + 1) (r - wdN (v i))
def likeN (v : Nat → Nat) (n : Nat) (v2 : Nat → Nat) (n2 : Nat) : Bool := decide (n = n2 ∧ ∀ i, i < n → capN (v i) = capN (v2 i))
theorem lpN_le (v : Nat → Nat) : ∀ n, lpN v n ≤ n
  | 0 => Nat.le_refl 0
  | n + 1 => by
    have := lpN_le v n
    unfold lpN
    split <;> omega
theorem wdN_in (u : Nat) : 1 ≤ wdN u ∧ wdN u ≤ 3 := by
  unfold wdN
  (repeat' split) <;> omega
theorem esN_le (v : Nat → Nat) : ∀ n, esN v n ≤ 3 * n
  | 0 => Nat.le_refl 0
  | n + 1 => by
    have := esN_le v n
    have := wdN_in (v n)
    unfold esN
    omega
theorem capN_le (u : Nat) : capN u ≤ u := by
  unfold capN
  split <;> omega
theorem shoN_lt {u : Nat} (h : u < 65536) : shoN u < 65536 := by
  have := capN_le u
  unfold shoN
  split <;> omega
/-- the sum of the bytes b, b + 1 .. -/
def suN (B : Nat → Nat) (b : Nat) : Nat → Nat
  | 0 => 0
  | i + 1 => (suN B b i % 2 ^ 1 * 128 + suN B b i / 2 ^ 1 + B (b + i)) % 2 ^ 8
theorem suN_lt (B : Nat → Nat) (b : Nat) : ∀ i, suN B b i < 256
  | 0 => by show (0 : Nat) < 256; decide
  | i + 1 => Nat.mod_lt _ (by decide)
def pnN (n : Nat) : Nat := (n + 13 - 1) / 13
theorem pnN_le {n : Nat} (h : n ≤ 255) : pnN n ≤ 20 := by
  unfold pnN
  omega
theorem mk_nm1 {n : Nat} (h : n < 2 ^ 31) : ¬ nI n = -1 := by
  intro q
  have a := nI_toInt h
  rw [q] at a
  have b : (-1 : Int32).toInt = -1 := by decide
  omega
/-- the first i places are x -/
def fiN (b : Nat → Nat) (x i : Nat) : Nat → Nat := fun j => if j < i then x else b j
theorem fiN_0 (b : Nat → Nat) (x : Nat) : fiN b x 0 = b := by
  funext j
  simp [fiN]
theorem fiN_s (b : Nat → Nat) (x i : Nat) : uN (fiN b x i) i x = fiN b x (i + 1) := by
  funext j
  by_cases h : j = i
  · simp [uN, fiN, h]
  · by_cases h2 : j < i
    · simp [uN, fiN, h, h2, Nat.lt_succ_of_lt h2]
    · have : ¬ j < i + 1 := by omega
      simp [uN, fiN, h, h2, this]
theorem fiN_lt {b : Nat → Nat} {x i M : Nat} (h : ∀ j, b j < M) (hx : x < M) : ∀ j, fiN b x i j < M := by
  intro j
  unfold fiN
  split
  · exact hx
  · exact h j
/-- the first i places are those of c from o on -/
def cpN (b c : Nat → Nat) (o i : Nat) : Nat → Nat := fun j => if j < i then c (o + j) else b j
theorem cpN_0 (b c : Nat → Nat) (o : Nat) : cpN b c o 0 = b := by
  funext j
  simp [cpN]
theorem cpN_s (b c : Nat → Nat) (o i : Nat) : uN (cpN b c o i) i (c (o + i)) = cpN b c o (i + 1) := by
  funext j
  by_cases h : j = i
  · simp [uN, cpN, h]
  · by_cases h2 : j < i
    · simp [uN, cpN, h, h2, Nat.lt_succ_of_lt h2]
    · have : ¬ j < i + 1 := by omega
      simp [uN, cpN, h, h2, this]
/-- i places from o on are c's -/
def stN (B c : Nat → Nat) (o i : Nat) : Nat → Nat := fun j => if o ≤ j ∧ j < o + i then c (j - o) else B j
theorem stN_0 (B c : Nat → Nat) (o : Nat) : stN B c o 0 = B := by
  funext j
  have : ¬ (o ≤ j ∧ j < o + 0) := by omega
  simp only [stN, if_neg this]
theorem stN_s {B c : Nat → Nat} {o i y : Nat} (hy : y = c i) : uN (stN B c o i) (o + i) y = stN B c o (i + 1) := by
  funext j
  by_cases h : j = o + i
  · subst h
    have : o ≤ o + i ∧ o + i < o + (i + 1) := by omega
    simp only [uN, stN, if_true]
    rw [if_pos this, hy, Nat.add_sub_cancel_left]
  · by_cases h2 : o ≤ j ∧ j < o + i
    · have : o ≤ j ∧ j < o + (i + 1) := by omega
      simp only [uN, stN, if_neg h, if_pos h2, if_pos this]
    · have : ¬ (o ≤ j ∧ j < o + (i + 1)) := by omega
      simp only [uN, stN, if_neg h, if_neg h2, if_neg this]
theorem stN_lt {B c : Nat → Nat} {o i M : Nat} (h : ∀ j, B j < M) (hc : ∀ j, c j < M) : ∀ j, stN B c o i j < M := by
  intro j
  unfold stN
  split
  · exact hc _
  · exact h j
def dgN (t : Nat) : Nat := if t < 100 then (if t < 10 then 1 else 2) else if t < 1000 then 3 else 4
theorem dgN_in (t : Nat) : 1 ≤ dgN t ∧ dgN t ≤ 4 := by
  unfold dgN
  (repeat' split) <;> omega
/-- k digits of r from place p on -/
def nuN (p : Nat) : Nat → Nat → (Nat → Nat) → Nat → Nat
  | 0, _, b => b
  | k + 1, r, b => nuN p k (r / 10) (uN b (p + k) (48 + r % 10))
theorem nuN_lt (p : Nat) {M : Nat} (hM : 58 ≤ M) : ∀ (k r : Nat) (b : Nat → Nat), (∀ j, b j < M) → ∀ j, nuN p k r b j < M
  | 0, _, b, h => h
  | k + 1, r, b, h => nuN_lt p hM k (r / 10) _ (uN_lt h (by omega))
/-- the units i .. i + k - 1 of v shortened into b from p on, at most mo; c have come -/
def shC (v : Nat → Nat) (mo : Nat) : Nat → Nat → Nat → Nat
  | 0, _, c => c
  | k + 1, i, c => if c < mo then (if v i = 32 ∨ v i = 46 then shC v mo k (i + 1) c else shC v mo k (i + 1) (c + 1)) else c
def shB (v : Nat → Nat) (p mo : Nat) : Nat → Nat → Nat → (Nat → Nat) → Nat → Nat
  | 0, _, _, b => b
  | k + 1, i, c, b => if c < mo then (if v i = 32 ∨ v i = 46 then shB v p mo k (i + 1) c b else shB v p mo k (i + 1) (c + 1) (uN b (p + c) (shoN (v i)))) else b
theorem shC_le (v : Nat → Nat) (mo : Nat) : ∀ (k i c : Nat), c ≤ mo → shC v mo k i c ≤ mo
  | 0, _, c, h => h
  | k + 1, i, c, h => by
    unfold shC
    split
    · split
      · exact shC_le v mo k _ _ h
      · exact shC_le v mo k _ _ (by omega)
    · exact h
theorem shB_lt (v : Nat → Nat) (p mo : Nat) (hv : ∀ j, v j < 65536) : ∀ (k i c : Nat) (b : Nat → Nat), (∀ j, b j < 65536) → ∀ j, shB v p mo k i c b j < 65536
  | 0, _, _, b, h => h
  | k + 1, i, c, b, h => by
    unfold shB
    split
    · split
      · exact shB_lt v p mo hv k _ _ b h
      · exact shB_lt v p mo hv k _ _ _ (uN_lt h (shoN_lt (hv i)))
    · exact h
/-- only blanks behind a blank; e: one has been -/
def boN (b : Nat → Nat) : Nat → Nat → Nat → Bool
  | 0, _, _ => true
  | k + 1, i, e => if b i = 32 then boN b k (i + 1) 1 else if e = 0 ∧ okS (b i) = true then boN b k (i + 1) e else false
def valN (b : Nat → Nat) : Bool := decide (b 0 ≠ 32 ∧ boN b 8 0 0 = true ∧ boN b 3 8 0 = true)
/-- how many of the k bytes from i on come before a blank -/
def cnN (b : Nat → Nat) : Nat → Nat → Nat
  | 0, _ => 0
  | k + 1, i => if b i = 32 then 0 else cnN b k (i + 1) + 1
theorem cnN_le (b : Nat → Nat) : ∀ k i, cnN b k i ≤ k
  | 0, _ => Nat.le_refl 0
  | k + 1, i => by
    have := cnN_le b k (i + 1)
    unfold cnN
    split <;> omega
/-- c's places i .. come to the end of v -/
def apN (v c : Nat → Nat) (n i k : Nat) : Nat → Nat := fun j => if n ≤ j ∧ j < n + k then c (i + (j - n)) else v j
theorem apN_0 (v c : Nat → Nat) (n i : Nat) : apN v c n i 0 = v := by
  funext j
  have : ¬ (n ≤ j ∧ j < n + 0) := by omega
  simp only [apN, if_neg this]
theorem apN_s (v c : Nat → Nat) (n i k : Nat) : uN (apN v c n i k) (n + k) (c (i + k)) = apN v c n i (k + 1) := by
  funext j
  by_cases h : j = n + k
  · subst h
    have : n ≤ n + k ∧ n + k < n + (k + 1) := by omega
    simp only [uN, apN, if_true]
    rw [if_pos this, Nat.add_sub_cancel_left]
  · by_cases h2 : n ≤ j ∧ j < n + k
    · have : n ≤ j ∧ j < n + (k + 1) := by omega
      simp only [uN, apN, if_neg h, if_pos h2, if_pos this]
    · have : ¬ (n ≤ j ∧ j < n + (k + 1)) := by omega
      simp only [uN, apN, if_neg h, if_neg h2, if_neg this]
theorem apN_lt {v c : Nat → Nat} {n i k M : Nat} (h : ∀ j, v j < M) (hc : ∀ j, c j < M) : ∀ j, apN v c n i k j < M := by
  intro j
  unfold apN
  split
  · exact hc _
  · exact h j
/-- the entry's bytes -/
def enN (b : Nat → Nat) : Nat → Nat := fun j => if j < 11 then b j % 2 ^ 8 else 0 % 2 ^ 8
theorem enN_lt (b : Nat → Nat) (j : Nat) : enN b j < 256 := by
  unfold enN
  split
  · exact Nat.mod_lt _ (by decide)
  · decide
/-- the end of the base: the last point's place, or n -/
def tsN (v : Nat → Nat) (n : Nat) (b : Nat → Nat) : Nat → Nat :=
  let q := if lpN v n = 0 then n else lpN v n - 1
  shB v 8 3 (n - (q + 1)) (q + 1) 0 (shB v 0 8 q 0 0 (fiN b 32 11))
def ttN (v : Nat → Nat) (n t : Nat) (b : Nat → Nat) : Nat → Nat :=
  let q := if lpN v n ≤ 1 then n else lpN v n - 1
  let c := shC v (7 - dgN t) q 0 0
  shB v 8 3 (n - (q + 1)) (q + 1) 0 (nuN (c + 1) (dgN t) t (uN (shB v 0 (7 - dgN t) q 0 0 (fiN b 32 11)) c 126))
def siC (b : Nat → Nat) : Nat := if b 8 = 32 then cnN b 8 0 else cnN b 8 0 + 1 + cnN b 3 8
def siV (v b : Nat → Nat) : Nat → Nat := if b 8 = 32 then apN v b 0 0 (cnN b 8 0) else apN (uN (apN v b 0 0 (cnN b 8 0)) (cnN b 8 0) 46) b (cnN b 8 0 + 1) 8 (cnN b 3 8)
theorem plN_le {j : Nat} (h : j < 13) : plN j ≤ 30 := by
  unfold plN
  (repeat' split) <;> omega
def ufN (v : Nat → Nat) (n j : Nat) : Nat := if j < n then v j else if j = n then 0 else 65535
theorem ufN_lt {v : Nat → Nat} (n j : Nat) (h : ∀ j, v j < 65536) : ufN v n j < 65536 := by
  have := h j
  unfold ufN
  (repeat' split) <;> omega
def bdL (v : Nat → Nat) (n q : Nat) (b : Nat → Nat) : Nat → Nat → Nat
  | 0 => b
  | i + 1 => uN (uN (bdL v n q b i) (plN i) (ufN v n (13 * (q - 1) + i) % 2 ^ 8)) (plN i + 1) (ufN v n (13 * (q - 1) + i) / 2 ^ 8)
def bdN (v : Nat → Nat) (n q su : Nat) (b : Nat → Nat) : Nat → Nat := bdL v n q (uN (uN (uN (fiN b 0 32) 0 (if q = pnN n then q + 64 else q)) 11 15) 13 su) 13
theorem bdL_lt {v : Nat → Nat} (n q : Nat) {b : Nat → Nat} (hv : ∀ j, v j < 65536) (hb : ∀ j, b j < 65536) : ∀ i j, bdL v n q b i j < 65536
  | 0, j => hb j
  | i + 1, j => by
    have := ufN_lt n (13 * (q - 1) + i) hv
    unfold bdL
    exact uN_lt (uN_lt (bdL_lt n q hv hb i) (by omega)) (by omega) j
theorem bdN_lt {v : Nat → Nat} {n q su : Nat} {b : Nat → Nat} (hv : ∀ j, v j < 65536) (hb : ∀ j, b j < 65536) (hq : q < 100) (hs : su < 256) : ∀ j, bdN v n q su b j < 65536 := by
  unfold bdN
  refine bdL_lt n q hv (uN_lt (uN_lt (uN_lt (fiN_lt hb (by omega)) ?_) (by omega)) (by omega)) 13
  split <;> omega
def moN (b : Nat → Nat) : Nat → Nat := fun j => b j % 2 ^ 8
theorem moN_lt (b : Nat → Nat) (j : Nat) : moN b j < 256 := Nat.mod_lt _ (by decide)
def inK (b B : Nat → Nat) (o n : Nat) : Bool := decide (∀ j, j < n → B (o + j) = b j)
def inN (b B : Nat → Nat) (o : Nat) : Bool := inK b B o 32
def uiN (B : Nat → Nat) (q i : Nat) : Nat := B (q * 32 + plN i) + 256 * B (q * 32 + (plN i + 1))
/-- after i parts: the part's bytes, the slots -/
def wpB (v : Nat → Nat) (n su : Nat) (pb : Nat → Nat) : Nat → Nat → Nat
  | 0 => pb
  | i + 1 => bdN v n (i + 1) su (wpB v n su pb i)
def wsB (v : Nat → Nat) (n su e : Nat) (pb B : Nat → Nat) : Nat → Nat → Nat
  | 0 => B
  | i + 1 => stN (wsB v n su e pb B i) (moN (wpB v n su pb (i + 1))) ((e - (i + 1)) * 32) 32
theorem wpB_lt {v : Nat → Nat} {n su : Nat} {pb : Nat → Nat} (hv : ∀ j, v j < 65536) (hb : ∀ j, pb j < 65536) (hs : su < 256) : ∀ i, i < 99 → ∀ j, wpB v n su pb i j < 65536
  | 0, _, j => hb j
  | i + 1, h, j => bdN_lt hv (wpB_lt hv hb hs i (by omega)) (by omega) hs j
theorem wsB_lt {v : Nat → Nat} {n su e : Nat} {pb B : Nat → Nat} (hB : ∀ j, B j < 256) : ∀ i j, wsB v n su e pb B i j < 256
  | 0, j => hB j
  | i + 1, j => stN_lt (wsB_lt hB i) (fun j => moN_lt _ j) j
/-- unit t of the parts before entry e -/
def unN (B : Nat → Nat) (e t : Nat) : Nat := uiN B (e - (t / 13 + 1)) (t % 13)
def coC (f : Nat → Nat) : Nat → Nat → Nat
  | 0, t => t
  | k + 1, t => if f t = 0 ∨ t = 255 then t else coC f k (t + 1)
def coV (v f : Nat → Nat) (c : Nat) : Nat → Nat := fun j => if j < c then f j else v j
theorem coV_0 (v f : Nat → Nat) : coV v f 0 = v := by
  funext j
  simp [coV]
theorem coV_s (v f : Nat → Nat) (c : Nat) : uN (coV v f c) c (f c) = coV v f (c + 1) := by
  funext j
  by_cases h : j = c
  · simp [uN, coV, h]
  · by_cases h2 : j < c
    · simp [uN, coV, h, h2, Nat.lt_succ_of_lt h2]
    · have : ¬ j < c + 1 := by omega
      simp [uN, coV, h, h2, this]
theorem uiN_lt {B : Nat → Nat} (q i : Nat) (h : ∀ j, B j < 256) : uiN B q i < 65536 := by
  have := h (q * 32 + plN i)
  have := h (q * 32 + (plN i + 1))
  unfold uiN
  omega
theorem coC_le (f : Nat → Nat) : ∀ k t, t ≤ 255 → coC f k t ≤ 255
  | 0, _, h => h
  | k + 1, t, h => by
    unfold coC
    split
    · exact h
    · exact coC_le f k (t + 1) (by omega)
theorem coV_lt {v f : Nat → Nat} {c M : Nat} (h : ∀ j, v j < M) (hf : ∀ j, f j < M) : ∀ j, coV v f c j < M := by
  intro j
  unfold coV
  split
  · exact hf j
  · exact h j
theorem unN_lt {B : Nat → Nat} (e t : Nat) (h : ∀ j, B j < 256) : unN B e t < 65536 := uiN_lt _ _ h
/-- the parts compared one after another: how many were built, and whether all were alike -/
def rpK (v : Nat → Nat) (n su e : Nat) (pb B : Nat → Nat) : Nat → Nat → Nat
  | 0, i => i
  | k + 1, i => if inN (wpB v n su pb (i + 1)) B ((e - (i + 1)) * 32) = true then rpK v n su e pb B k (i + 1) else i + 1
def rpR (v : Nat → Nat) (n su e : Nat) (pb B : Nat → Nat) : Nat → Nat → Bool
  | 0, _ => true
  | k + 1, i => if inN (wpB v n su pb (i + 1)) B ((e - (i + 1)) * 32) = true then rpR v n su e pb B k (i + 1) else false
theorem rpK_le (v : Nat → Nat) (n su e : Nat) (pb B : Nat → Nat) : ∀ k i, rpK v n su e pb B k i ≤ i + k
  | 0, i => Nat.le_refl i
  | k + 1, i => by
    have := rpK_le v n su e pb B k (i + 1)
    unfold rpK
    split <;> omega
/-! days and times -/
def leN (y : Nat) : Bool := decide (y % 4 = 0 ∧ (y % 100 ≠ 0 ∨ y % 400 = 0))
def mlenN (y m : Nat) : Nat := if m < 1 ∨ 12 < m then 0 else if m = 2 ∧ leN y = true then 29 else mlN (m - 1)
theorem mlenN_le (y m : Nat) : mlenN y m ≤ 31 := by
  unfold mlenN mlN
  (repeat' split) <;> omega
def idN (d : Nat) : Bool := decide (1 ≤ d % 32 ∧ d % 32 ≤ mlenN (1980 + d / 512) (d / 32 % 16))
def itN (t : Nat) : Bool := decide (t / 2048 < 24 ∧ t / 32 % 64 < 60 ∧ t % 32 < 30)
/-- days of the first k years from 1970 on -/
def ydN : Nat → Nat
  | 0 => 0
  | k + 1 => ydN k + (if leN (1970 + k) = true then 366 else 365)
def mdN (y : Nat) : Nat → Nat
  | 0 => 0
  | k + 1 => mdN y k + mlenN y (k + 1)
def sdN (d : Nat) : Nat := (d % 32 - 1 + ydN (1980 + d / 512 - 1970) + mdN (1980 + d / 512) (d / 32 % 16 - 1)) * 86400
def stmN (t : Nat) : Nat := 3600 * (t / 2048) + 60 * (t / 32 % 64) + 2 * (t % 32)
theorem idN_ok {d : Nat} (h : idN d = true) : 1 ≤ d % 32 ∧ 1 ≤ d / 32 % 16 := by
  simp only [idN, decide_eq_true_eq] at h
  refine ⟨h.1, ?_⟩
  have h2 := h.2
  unfold mlenN at h2
  split at h2 <;> omega
theorem mk_tout {x : Int32} {n : Nat} (h : x < 0 ∨ nI n < x) (hn : n < 2 ^ 31) : x.toInt < 0 ∨ (n : Int) < x.toInt := by
  rcases h with h | h
  · left
    have := Int32.lt_iff_toInt_lt.mp h
    rwa [Int32.toInt_zero] at this
  · right
    have := Int32.lt_iff_toInt_lt.mp h
    rwa [nI_toInt hn] at this
theorem cpN_lt {b B : Nat → Nat} {o i : Nat} (hb : ∀ j, b j < 65536) (hB : ∀ j, B j < 256) : ∀ j, cpN b B o i j < 65536 := by
  intro j
  have := hb j
  have := hB (o + j)
  unfold cpN
  split <;> omega
theorem tsN_lt {v : Nat → Nat} {n : Nat} {b : Nat → Nat} (hv : ∀ j, v j < 65536) (hb : ∀ j, b j < 65536) : ∀ j, tsN v n b j < 65536 :=
  shB_lt v 8 3 hv _ _ _ _ (shB_lt v 0 8 hv _ _ _ _ (fiN_lt hb (by omega)))
theorem ttN_lt {v : Nat → Nat} {n t : Nat} {b : Nat → Nat} (hv : ∀ j, v j < 65536) (hb : ∀ j, b j < 65536) : ∀ j, ttN v n t b j < 65536 :=
  shB_lt v 8 3 hv _ _ _ _ (nuN_lt _ (by omega) _ _ _ (uN_lt (shB_lt v 0 _ hv _ _ _ _ (fiN_lt hb (by omega))) (by omega)))
