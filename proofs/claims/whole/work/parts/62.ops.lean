/-! the two worlds, and what ties them -/
abbrev wL (cI : ClassId) (ad : Nat → Nat) (n0 : Nat) (v0 : Nat → Nat) (n1 : Nat) (v1 b pb B : Nat → Nat) : va_W := [(ad 0, .inr (0, [.ref (ad 1), .ref (ad 3), .ref (ad 5), .ref (ad 7), .ref (ad 9)])), (ad 1, .inr (1, [.ref (ad 2), .int (nI n0)])), (ad 2, .inl (cI, 255, .inl (nf v0))), (ad 3, .inr (1, [.ref (ad 4), .int (nI n1)])), (ad 4, .inl (cI, 255, .inl (nf v1))), (ad 5, .inr (2, [.ref (ad 6)])), (ad 6, .inl (cI, 11, .inl (nf b))), (ad 7, .inr (3, [.ref (ad 8)])), (ad 8, .inl (cI, 32, .inl (nf pb))), (ad 9, .inr (4, [.ref (ad 10)])), (ad 10, .inl (cI, 1024, .inl (nf B)))]
abbrev wM (cI : ClassId) (am : Nat → Nat) (th : Int32) (U Z B bm : Nat → Nat) : va_W := [(am 0, .inr (5, [.int th, .ref (am 1), .ref (am 2), .ref (am 3), .ref (am 4)])), (am 1, .inl (cI, 510, .inl (nf U))), (am 2, .inl (cI, 2, .inl (nf Z))), (am 3, .inl (cI, 1024, .inl (nf B))), (am 4, .inl (cI, 11, .inl (nf bm)))]
def lwI (n0 : Nat) (v0 : Nat → Nat) (n1 : Nat) (v1 b pb B U Z bm : Nat → Nat) : Prop := (n0 ≤ 255 ∧ (∀ j, v0 j < 65536) ∧ n1 ≤ 255 ∧ (∀ j, v1 j < 65536) ∧ (∀ j, b j < 65536) ∧ (∀ j, pb j < 65536) ∧ ∀ j, B j < 256) ∧ ((∀ j, U j < 65536) ∧ (∀ j, Z j ≤ 255) ∧ ∀ j, bm j < 65536) ∧ n0 = Z 0 ∧ n1 = Z 1 ∧ (∀ j, j < n0 → v0 j = rv U 0 j) ∧ ∀ j, j < n1 → v1 j = rv U 1 j
abbrev vI : Value → Prop := fun v => ∃ z : Int32, v = .int z
abbrev vJ : Value → Prop := fun v => ∃ z : Int64, v = .long z
def oP (l : Launch) (dC : Nat → ClassId) (dI : Nat → Nat → Nat) (cI : ClassId) (ad am : Nat → Nat) (yC yM : MethodName) (wC wN : List Cond) (av : List Value) (n0 : Nat) (v0 : Nat → Nat) (n1 : Nat) (v1 b pb B : Nat → Nat) (th : Int32) (U Z bm : Nat → Nat) (K : Value → Prop) : Prop :=
  ∃ (r : Value) (n0' : Nat) (v0' : Nat → Nat) (n1' : Nat) (v1' b' pb' B' : Nat → Nat), K r ∧ mG l yC wC 8 200 (.ref (ad 0) :: av) (dC, dI) vwCl [(cI, .int)] (wL cI ad n0 v0 n1 v1 b pb B) (fun v w => v = r ∧ w = wL cI ad n0' v0' n1' v1' b' pb' B') ∧
    mG l yM wN 8 200 (.ref (am 0) :: av) (dC, dI) vwCl [(cI, .int)] (wM cI am th U Z B bm) (fun v w => v = r ∧ ∃ (th' : Int32) (U' Z' bm' : Nat → Nat), w = wM cI am th' U' Z' B' bm' ∧ lwI n0' v0' n1' v1' b' pb' B' U' Z' bm')
section LI
variable {n0 : Nat} {v0 : Nat → Nat} {n1 : Nat} {v1 b pb B U Z bm : Nat → Nat}
theorem lw_s0 (hI : lwI n0 v0 n1 v1 b pb B U Z bm) {n : Nat} {v U' b' pb' bm' : Nat → Nat} (hn : n ≤ 255) (hv : ∀ j, v j < 65536) (hU' : ∀ j, U' j < 65536) (hr : ∀ j, j < n → v j = rv U' 0 j) (ho : ∀ j, j < 255 → rv U' 1 j = rv U 1 j) (hb' : ∀ j, b' j < 65536) (hpb' : ∀ j, pb' j < 65536) (hbm' : ∀ j, bm' j < 65536) : lwI n v n1 v1 b' pb' B U' (uN Z 0 n) bm' := by
  obtain ⟨⟨hn0, hv0, hn1, hv1, hb9, hpb, hB⟩, ⟨hU, hZ, hbm⟩, e0, e1, r0, r1⟩ := hI
  refine ⟨⟨hn, hv, hn1, hv1, hb', hpb', hB⟩, ⟨hU', fun j => ?_, hbm'⟩, ?_, ?_, hr, fun j hj => ?_⟩
  · unfold uN
    split
    · exact hn
    · exact hZ j
  · unfold uN
    rw [if_pos rfl]
  · unfold uN
    rw [if_neg (by decide)]
    exact e1
  · rw [ho j (by omega)]
    exact r1 j hj
theorem lw_s1 (hI : lwI n0 v0 n1 v1 b pb B U Z bm) {n : Nat} {v U' b' pb' bm' : Nat → Nat} (hn : n ≤ 255) (hv : ∀ j, v j < 65536) (hU' : ∀ j, U' j < 65536) (hr : ∀ j, j < n → v j = rv U' 1 j) (ho : ∀ j, j < 255 → rv U' 0 j = rv U 0 j) (hb' : ∀ j, b' j < 65536) (hpb' : ∀ j, pb' j < 65536) (hbm' : ∀ j, bm' j < 65536) : lwI n0 v0 n v b' pb' B U' (uN Z 1 n) bm' := by
  obtain ⟨⟨hn0, hv0, hn1, hv1, hb9, hpb, hB⟩, ⟨hU, hZ, hbm⟩, e0, e1, r0, r1⟩ := hI
  refine ⟨⟨hn0, hv0, hn, hv, hb', hpb', hB⟩, ⟨hU', fun j => ?_, hbm'⟩, ?_, ?_, fun j hj => ?_, hr⟩
  · unfold uN
    split
    · exact hn
    · exact hZ j
  · unfold uN
    rw [if_neg (by decide)]
    exact e0
  · unfold uN
    rw [if_pos rfl]
  · rw [ho j (by omega)]
    exact r0 j hj
theorem lw_sb (hI : lwI n0 v0 n1 v1 b pb B U Z bm) {b' pb' B' bm' : Nat → Nat} (hb' : ∀ j, b' j < 65536) (hpb' : ∀ j, pb' j < 65536) (hB' : ∀ j, B' j < 256) (hbm' : ∀ j, bm' j < 65536) : lwI n0 v0 n1 v1 b' pb' B' U Z bm' := by
  obtain ⟨⟨hn0, hv0, hn1, hv1, hb9, hpb, hB⟩, ⟨hU, hZ, hbm⟩, e0, e1, r0, r1⟩ := hI
  exact ⟨⟨hn0, hv0, hn1, hv1, hb', hpb', hB'⟩, ⟨hU, hZ, hbm'⟩, e0, e1, r0, r1⟩
theorem rv_u0 {k x j : Nat} (h : k < 255) (hj : j < 255) : rv (uN U (255 * 0 + k) x) 1 j = rv U 1 j := by
  unfold rv uN
  rw [if_neg (by omega)]
theorem rv_u1 {k x j : Nat} (hj : j < 255) : rv (uN U (255 * 1 + k) x) 0 j = rv U 0 j := by
  unfold rv uN
  rw [if_neg (by omega)]
theorem rv_us {r k x j : Nat} {v : Nat → Nat} (h : ∀ j, j < k → v j = rv U r j) (hj : j < k + 1) : uN v k x j = rv (uN U (255 * r + k) x) r j := by
  unfold rv uN
  by_cases c9 : j = k
  · rw [if_pos c9, if_pos (by omega)]
  · rw [if_neg c9, if_neg (by omega)]
    exact h j (by omega)
theorem lw_ix (x : Int32) {n : Nat} (hn : n + 1 < 2 ^ 31) : (x < 0 ∨ ¬ x ≤ nI n) ∨ ∃ j : Nat, j < n + 1 ∧ x = nI j := by
  rcases pk_ix x hn with h | h | h
  · exact Or.inl (Or.inl h)
  · refine Or.inl (Or.inr fun q => ?_)
    have h9 := Int32.le_trans h q
    rw [nI_leI hn (by omega)] at h9
    omega
  · exact Or.inr h
theorem lw_iy (x : Int32) {n : Nat} (hn : n < 2 ^ 31) : (x < 0 ∨ nI n ≤ x) ∨ ∃ j : Nat, j < n ∧ x = nI j := by
  rcases pk_ix x hn with h | h | h
  · exact Or.inl (Or.inl h)
  · exact Or.inl (Or.inr h)
  · exact Or.inr h
theorem lw_any (x : Int32) : ∃ j : Nat, j < 2 ^ 32 ∧ x = nI j := by
  refine ⟨x.toBitVec.toNat, x.toBitVec.isLt, ?_⟩
  apply Int32.toBitVec_inj.mp
  apply BitVec.eq_of_toNat_eq
  show _ = (BitVec.ofNat 32 _).toNat
  rw [BitVec.toNat_ofNat]
  exact (Nat.mod_eq_of_lt x.toBitVec.isLt).symm
theorem lw_r (x : Int32) : x = nI 0 ∨ x = nI 1 ∨ (¬ x = 0 ∧ ¬ x = nI 1) := by
  by_cases h0 : x = 0
  · exact Or.inl (h0.trans nI_0.symm)
  · by_cases h1 : x = nI 1
    · exact Or.inr (Or.inl h1)
    · exact Or.inr (Or.inr ⟨h0, h1⟩)
end LI
set_option maxRecDepth 100000 in
theorem o_unit (l : Launch) (dC : Nat → ClassId) (dI : Nat → Nat → Nat) (cI : ClassId) (ad am : Nat → Nat) {n0 : Nat} {v0 : Nat → Nat} {n1 : Nat} {v1 b pb B : Nat → Nat} (th : Int32) {U Z bm : Nat → Nat} (hI : lwI n0 v0 n1 v1 b pb B U Z bm) (p1 p2 : Int32) : oP l dC dI cI ad am y_LN_unit y_Mo_unit w_LN_unit w_Mo_unit [.int p1, .int p2] n0 v0 n1 v1 b pb B th U Z bm vI := by
  have hI0 := hI
  obtain ⟨⟨hn0, hv0, hn1, hv1, hb9, hpb, hB⟩, ⟨hU, hZ, hbm⟩, e0, e1, r0, r1⟩ := hI
  subst e0; subst e1
  have hB6 : ∀ j, B j < 65536 := fun j => Nat.lt_trans (hB j) (by decide)
  rcases lw_r p1 with rfl | rfl | ⟨c0, c1⟩
  · rcases lw_ix p2 (n := 65535) (by decide) with hu | ⟨u, hu, rfl⟩
    · skip
      exact ⟨.int (nI 0), Z 0, v0, Z 1, v1, b, pb, B, ⟨_, rfl⟩, mG.ofM (c_LN_unit0b l dC dI cI (ad 0) (ad 1) (ad 2) (Z 0) v0 (ad 3) (ad 4) (Z 1) v1 (ad 5) (ad 6) b (ad 7) (ad 8) pb (ad 9) (ad 10) B p2 hn0 hv0 hn1 hv1 hb9 hpb hB hu) (Nat.le_of_ble_eq_true rfl) (Nat.le_of_ble_eq_true rfl) rfl rfl ⟨rfl, rfl⟩, mG.ofM (c_Mo_unitb l dC dI cI (am 0) th (am 1) (am 2) (am 3) (am 4) U Z B bm 0 p2 hU hZ hB6 hbm (by decide) hu) (Nat.le_of_ble_eq_true rfl) (Nat.le_of_ble_eq_true rfl) rfl rfl ⟨rfl, _, _, _, _, rfl, hI0⟩⟩
    · rcases Nat.lt_or_ge (Z 0) 255 with hf | hf
      · skip
        exact ⟨.int (nI 1), Z 0 + 1, uN v0 (Z 0) u, Z 1, v1, b, pb, B, ⟨_, rfl⟩, mG.ofM (c_LN_unit0 l dC dI cI (ad 0) (ad 1) (ad 2) (Z 0) v0 (ad 3) (ad 4) (Z 1) v1 (ad 5) (ad 6) b (ad 7) (ad 8) pb (ad 9) (ad 10) B u hn0 hv0 hn1 hv1 hb9 hpb hB hu hf) (Nat.le_of_ble_eq_true rfl) (Nat.le_of_ble_eq_true rfl) rfl rfl ⟨rfl, rfl⟩, mG.ofM (c_Mo_unit l dC dI cI (am 0) th (am 1) (am 2) (am 3) (am 4) U Z B bm 0 u hU hZ hB6 hbm (by decide) hu hf) (Nat.le_of_ble_eq_true rfl) (Nat.le_of_ble_eq_true rfl) rfl rfl ⟨rfl, _, _, _, _, rfl, lw_s0 hI0 (by omega) (uN_lt hv0 hu) (uN_lt hU hu) (fun j hj => rv_us r0 hj) (fun j hj => rv_u0 hf hj) hb9 hpb hbm⟩⟩
      · have hf : Z 0 = 255 := Nat.le_antisymm hn0 hf
        exact ⟨.int (nI 0), Z 0, v0, Z 1, v1, b, pb, B, ⟨_, rfl⟩, mG.ofM (c_LN_unit0f l dC dI cI (ad 0) (ad 1) (ad 2) (Z 0) v0 (ad 3) (ad 4) (Z 1) v1 (ad 5) (ad 6) b (ad 7) (ad 8) pb (ad 9) (ad 10) B u hn0 hv0 hn1 hv1 hb9 hpb hB hu hf) (Nat.le_of_ble_eq_true rfl) (Nat.le_of_ble_eq_true rfl) rfl rfl ⟨rfl, rfl⟩, mG.ofM (c_Mo_unitf l dC dI cI (am 0) th (am 1) (am 2) (am 3) (am 4) U Z B bm 0 u hU hZ hB6 hbm (by decide) hu hf) (Nat.le_of_ble_eq_true rfl) (Nat.le_of_ble_eq_true rfl) rfl rfl ⟨rfl, _, _, _, _, rfl, hI0⟩⟩
  · rcases lw_ix p2 (n := 65535) (by decide) with hu | ⟨u, hu, rfl⟩
    · skip
      exact ⟨.int (nI 0), Z 0, v0, Z 1, v1, b, pb, B, ⟨_, rfl⟩, mG.ofM (c_LN_unit1b l dC dI cI (ad 0) (ad 1) (ad 2) (Z 0) v0 (ad 3) (ad 4) (Z 1) v1 (ad 5) (ad 6) b (ad 7) (ad 8) pb (ad 9) (ad 10) B p2 hn0 hv0 hn1 hv1 hb9 hpb hB hu) (Nat.le_of_ble_eq_true rfl) (Nat.le_of_ble_eq_true rfl) rfl rfl ⟨rfl, rfl⟩, mG.ofM (c_Mo_unitb l dC dI cI (am 0) th (am 1) (am 2) (am 3) (am 4) U Z B bm 1 p2 hU hZ hB6 hbm (by decide) hu) (Nat.le_of_ble_eq_true rfl) (Nat.le_of_ble_eq_true rfl) rfl rfl ⟨rfl, _, _, _, _, rfl, hI0⟩⟩
    · rcases Nat.lt_or_ge (Z 1) 255 with hf | hf
      · skip
        exact ⟨.int (nI 1), Z 0, v0, Z 1 + 1, uN v1 (Z 1) u, b, pb, B, ⟨_, rfl⟩, mG.ofM (c_LN_unit1 l dC dI cI (ad 0) (ad 1) (ad 2) (Z 0) v0 (ad 3) (ad 4) (Z 1) v1 (ad 5) (ad 6) b (ad 7) (ad 8) pb (ad 9) (ad 10) B u hn0 hv0 hn1 hv1 hb9 hpb hB hu hf) (Nat.le_of_ble_eq_true rfl) (Nat.le_of_ble_eq_true rfl) rfl rfl ⟨rfl, rfl⟩, mG.ofM (c_Mo_unit l dC dI cI (am 0) th (am 1) (am 2) (am 3) (am 4) U Z B bm 1 u hU hZ hB6 hbm (by decide) hu hf) (Nat.le_of_ble_eq_true rfl) (Nat.le_of_ble_eq_true rfl) rfl rfl ⟨rfl, _, _, _, _, rfl, lw_s1 hI0 (by omega) (uN_lt hv1 hu) (uN_lt hU hu) (fun j hj => rv_us r1 hj) (fun j hj => rv_u1 hj) hb9 hpb hbm⟩⟩
      · have hf : Z 1 = 255 := Nat.le_antisymm hn1 hf
        exact ⟨.int (nI 0), Z 0, v0, Z 1, v1, b, pb, B, ⟨_, rfl⟩, mG.ofM (c_LN_unit1f l dC dI cI (ad 0) (ad 1) (ad 2) (Z 0) v0 (ad 3) (ad 4) (Z 1) v1 (ad 5) (ad 6) b (ad 7) (ad 8) pb (ad 9) (ad 10) B u hn0 hv0 hn1 hv1 hb9 hpb hB hu hf) (Nat.le_of_ble_eq_true rfl) (Nat.le_of_ble_eq_true rfl) rfl rfl ⟨rfl, rfl⟩, mG.ofM (c_Mo_unitf l dC dI cI (am 0) th (am 1) (am 2) (am 3) (am 4) U Z B bm 1 u hU hZ hB6 hbm (by decide) hu hf) (Nat.le_of_ble_eq_true rfl) (Nat.le_of_ble_eq_true rfl) rfl rfl ⟨rfl, _, _, _, _, rfl, hI0⟩⟩
  · skip
    exact ⟨.int (nI 0), Z 0, v0, Z 1, v1, b, pb, B, ⟨_, rfl⟩, mG.ofM (c_LN_unitx l dC dI cI (ad 0) (ad 1) (ad 2) (Z 0) v0 (ad 3) (ad 4) (Z 1) v1 (ad 5) (ad 6) b (ad 7) (ad 8) pb (ad 9) (ad 10) B p1 p2 hn0 hv0 hn1 hv1 hb9 hpb hB c0 c1) (Nat.le_of_ble_eq_true rfl) (Nat.le_of_ble_eq_true rfl) rfl rfl ⟨rfl, rfl⟩, mG.ofM (c_Mo_unitx l dC dI cI (am 0) th (am 1) (am 2) (am 3) (am 4) U Z B bm p1 p2 hU hZ hB6 hbm c0 c1) (Nat.le_of_ble_eq_true rfl) (Nat.le_of_ble_eq_true rfl) rfl rfl ⟨rfl, _, _, _, _, rfl, hI0⟩⟩
set_option maxRecDepth 100000 in
theorem o_clear (l : Launch) (dC : Nat → ClassId) (dI : Nat → Nat → Nat) (cI : ClassId) (ad am : Nat → Nat) {n0 : Nat} {v0 : Nat → Nat} {n1 : Nat} {v1 b pb B : Nat → Nat} (th : Int32) {U Z bm : Nat → Nat} (hI : lwI n0 v0 n1 v1 b pb B U Z bm) (p1 : Int32) : oP l dC dI cI ad am y_LN_clear y_Mo_clear w_LN_clear w_Mo_clear [.int p1] n0 v0 n1 v1 b pb B th U Z bm vI := by
  have hI0 := hI
  obtain ⟨⟨hn0, hv0, hn1, hv1, hb9, hpb, hB⟩, ⟨hU, hZ, hbm⟩, e0, e1, r0, r1⟩ := hI
  subst e0; subst e1
  have hB6 : ∀ j, B j < 65536 := fun j => Nat.lt_trans (hB j) (by decide)
  rcases lw_r p1 with rfl | rfl | ⟨c0, c1⟩
  · skip
    exact ⟨.int (nI (Z 0)), 0, v0, Z 1, v1, b, pb, B, ⟨_, rfl⟩, mG.ofM (c_LN_clear0 l dC dI cI (ad 0) (ad 1) (ad 2) (Z 0) v0 (ad 3) (ad 4) (Z 1) v1 (ad 5) (ad 6) b (ad 7) (ad 8) pb (ad 9) (ad 10) B  hn0 hv0 hn1 hv1 hb9 hpb hB ) (Nat.le_of_ble_eq_true rfl) (Nat.le_of_ble_eq_true rfl) rfl rfl ⟨rfl, rfl⟩, mG.ofM (c_Mo_clear l dC dI cI (am 0) th (am 1) (am 2) (am 3) (am 4) U Z B bm 0 hU hZ hB6 hbm (by decide)) (Nat.le_of_ble_eq_true rfl) (Nat.le_of_ble_eq_true rfl) rfl rfl ⟨rfl, _, _, _, _, rfl, lw_s0 hI0 (Nat.zero_le _) hv0 hU (fun j hj => absurd hj (Nat.not_lt_zero _)) (fun _ _ => rfl) hb9 hpb hbm⟩⟩
  · skip
    exact ⟨.int (nI (Z 1)), Z 0, v0, 0, v1, b, pb, B, ⟨_, rfl⟩, mG.ofM (c_LN_clear1 l dC dI cI (ad 0) (ad 1) (ad 2) (Z 0) v0 (ad 3) (ad 4) (Z 1) v1 (ad 5) (ad 6) b (ad 7) (ad 8) pb (ad 9) (ad 10) B  hn0 hv0 hn1 hv1 hb9 hpb hB ) (Nat.le_of_ble_eq_true rfl) (Nat.le_of_ble_eq_true rfl) rfl rfl ⟨rfl, rfl⟩, mG.ofM (c_Mo_clear l dC dI cI (am 0) th (am 1) (am 2) (am 3) (am 4) U Z B bm 1 hU hZ hB6 hbm (by decide)) (Nat.le_of_ble_eq_true rfl) (Nat.le_of_ble_eq_true rfl) rfl rfl ⟨rfl, _, _, _, _, rfl, lw_s1 hI0 (Nat.zero_le _) hv1 hU (fun j hj => absurd hj (Nat.not_lt_zero _)) (fun _ _ => rfl) hb9 hpb hbm⟩⟩
  · skip
    exact ⟨.int (-1), Z 0, v0, Z 1, v1, b, pb, B, ⟨_, rfl⟩, mG.ofM (c_LN_clearx l dC dI cI (ad 0) (ad 1) (ad 2) (Z 0) v0 (ad 3) (ad 4) (Z 1) v1 (ad 5) (ad 6) b (ad 7) (ad 8) pb (ad 9) (ad 10) B p1 hn0 hv0 hn1 hv1 hb9 hpb hB c0 c1) (Nat.le_of_ble_eq_true rfl) (Nat.le_of_ble_eq_true rfl) rfl rfl ⟨rfl, rfl⟩, mG.ofM (c_Mo_clearx l dC dI cI (am 0) th (am 1) (am 2) (am 3) (am 4) U Z B bm p1 hU hZ hB6 hbm c0 c1) (Nat.le_of_ble_eq_true rfl) (Nat.le_of_ble_eq_true rfl) rfl rfl ⟨rfl, _, _, _, _, rfl, hI0⟩⟩
set_option maxRecDepth 100000 in
theorem o_about (l : Launch) (dC : Nat → ClassId) (dI : Nat → Nat → Nat) (cI : ClassId) (ad am : Nat → Nat) {n0 : Nat} {v0 : Nat → Nat} {n1 : Nat} {v1 b pb B : Nat → Nat} (th : Int32) {U Z bm : Nat → Nat} (hI : lwI n0 v0 n1 v1 b pb B U Z bm) (p1 p2 : Int32) : oP l dC dI cI ad am y_LN_about y_Mo_about w_LN_about w_Mo_about [.int p1, .int p2] n0 v0 n1 v1 b pb B th U Z bm vI := by
  have hI0 := hI
  obtain ⟨⟨hn0, hv0, hn1, hv1, hb9, hpb, hB⟩, ⟨hU, hZ, hbm⟩, e0, e1, r0, r1⟩ := hI
  subst e0; subst e1
  have hB6 : ∀ j, B j < 65536 := fun j => Nat.lt_trans (hB j) (by decide)
  rcases lw_r p1 with rfl | rfl | ⟨c0, c1⟩
  · rcases pk_ix p2 (n := 5) (by decide) with hw | hw | ⟨j, hj, rfl⟩
    · skip
      exact ⟨.int (-1), Z 0, v0, Z 1, v1, b, pb, B, ⟨_, rfl⟩, mG.ofR (c_LN_about0x l dC dI cI (ad 0) (ad 1) (ad 2) (Z 0) v0 (ad 3) (ad 4) (Z 1) v1 (ad 5) (ad 6) b (ad 7) (ad 8) pb (ad 9) (ad 10) B p2 hn0 hv0 hn1 hv1 hb9 hpb hB (Or.inl hw)) (Nat.le_of_ble_eq_true rfl) (Nat.le_of_ble_eq_true rfl) rfl rfl ⟨rfl, rfl⟩, mG.ofM (c_Mo_aboutw l dC dI cI (am 0) th (am 1) (am 2) (am 3) (am 4) U Z B bm 0 p2 hU hZ hB6 hbm (by decide) (Or.inl hw)) (Nat.le_of_ble_eq_true rfl) (Nat.le_of_ble_eq_true rfl) rfl rfl ⟨rfl, _, _, _, _, rfl, hI0⟩⟩
    · skip
      exact ⟨.int (-1), Z 0, v0, Z 1, v1, b, pb, B, ⟨_, rfl⟩, mG.ofR (c_LN_about0x l dC dI cI (ad 0) (ad 1) (ad 2) (Z 0) v0 (ad 3) (ad 4) (Z 1) v1 (ad 5) (ad 6) b (ad 7) (ad 8) pb (ad 9) (ad 10) B p2 hn0 hv0 hn1 hv1 hb9 hpb hB (Or.inr (Int32.lt_of_lt_of_le (by decide) hw))) (Nat.le_of_ble_eq_true rfl) (Nat.le_of_ble_eq_true rfl) rfl rfl ⟨rfl, rfl⟩, mG.ofM (c_Mo_aboutw l dC dI cI (am 0) th (am 1) (am 2) (am 3) (am 4) U Z B bm 0 p2 hU hZ hB6 hbm (by decide) (Or.inr (Int32.lt_of_lt_of_le (by decide) hw))) (Nat.le_of_ble_eq_true rfl) (Nat.le_of_ble_eq_true rfl) rfl rfl ⟨rfl, _, _, _, _, rfl, hI0⟩⟩
    · rcases (show j = 0 ∨ j = 1 ∨ j = 2 ∨ j = 3 ∨ j = 4 by omega) with rfl | rfl | rfl | rfl | rfl
      · skip
        exact ⟨.int (nI (Z 0)), Z 0, v0, Z 1, v1, b, pb, B, ⟨_, rfl⟩, mG.ofR (c_LN_about00 l dC dI cI (ad 0) (ad 1) (ad 2) (Z 0) v0 (ad 3) (ad 4) (Z 1) v1 (ad 5) (ad 6) b (ad 7) (ad 8) pb (ad 9) (ad 10) B  hn0 hv0 hn1 hv1 hb9 hpb hB ) (Nat.le_of_ble_eq_true rfl) (Nat.le_of_ble_eq_true rfl) rfl rfl ⟨rfl, rfl⟩, mG.ofM (c_Mo_about0 l dC dI cI (am 0) th (am 1) (am 2) (am 3) (am 4) U Z B bm 0 hU hZ hB6 hbm (by decide)) (Nat.le_of_ble_eq_true rfl) (Nat.le_of_ble_eq_true rfl) rfl rfl ⟨rfl, _, _, _, _, rfl, hI0⟩⟩
      · skip
        exact ⟨.int (bI (nameN v0 (Z 0))), Z 0, v0, Z 1, v1, b, pb, B, ⟨_, rfl⟩, mG.ofR (c_LN_about01 l dC dI cI (ad 0) (ad 1) (ad 2) (Z 0) v0 (ad 3) (ad 4) (Z 1) v1 (ad 5) (ad 6) b (ad 7) (ad 8) pb (ad 9) (ad 10) B  hn0 hv0 hn1 hv1 hb9 hpb hB ) (Nat.le_of_ble_eq_true rfl) (Nat.le_of_ble_eq_true rfl) rfl rfl ⟨rfl, rfl⟩, mG.ofM (c_Mo_about1 l dC dI cI (am 0) th (am 1) (am 2) (am 3) (am 4) U Z B bm 0 hU hZ hB6 hbm (by decide)) (Nat.le_of_ble_eq_true rfl) (Nat.le_of_ble_eq_true rfl) rfl rfl ⟨by rw [nameN_cg r0], _, _, _, _, rfl, hI0⟩⟩
      · skip
        exact ⟨.int (bI (shortN v0 (Z 0))), Z 0, v0, Z 1, v1, b, pb, B, ⟨_, rfl⟩, mG.ofR (c_LN_about02 l dC dI cI (ad 0) (ad 1) (ad 2) (Z 0) v0 (ad 3) (ad 4) (Z 1) v1 (ad 5) (ad 6) b (ad 7) (ad 8) pb (ad 9) (ad 10) B  hn0 hv0 hn1 hv1 hb9 hpb hB ) (Nat.le_of_ble_eq_true rfl) (Nat.le_of_ble_eq_true rfl) rfl rfl ⟨rfl, rfl⟩, mG.ofM (c_Mo_about2 l dC dI cI (am 0) th (am 1) (am 2) (am 3) (am 4) U Z B bm 0 hU hZ hB6 hbm (by decide)) (Nat.le_of_ble_eq_true rfl) (Nat.le_of_ble_eq_true rfl) rfl rfl ⟨by rw [sw_eq, shortN_cg r0], _, _, _, _, rfl, lw_sb hI0 hb9 hpb hB (fun j => swB_lt (fun k => rv_lt hU k) hbm j)⟩⟩
      · skip
        exact ⟨.int (nI (pnN (Z 0))), Z 0, v0, Z 1, v1, b, pb, B, ⟨_, rfl⟩, mG.ofR (c_LN_about03 l dC dI cI (ad 0) (ad 1) (ad 2) (Z 0) v0 (ad 3) (ad 4) (Z 1) v1 (ad 5) (ad 6) b (ad 7) (ad 8) pb (ad 9) (ad 10) B  hn0 hv0 hn1 hv1 hb9 hpb hB ) (Nat.le_of_ble_eq_true rfl) (Nat.le_of_ble_eq_true rfl) rfl rfl ⟨rfl, rfl⟩, mG.ofM (c_Mo_about3 l dC dI cI (am 0) th (am 1) (am 2) (am 3) (am 4) U Z B bm 0 hU hZ hB6 hbm (by decide)) (Nat.le_of_ble_eq_true rfl) (Nat.le_of_ble_eq_true rfl) rfl rfl ⟨rfl, _, _, _, _, rfl, hI0⟩⟩
      · skip
        exact ⟨.int (nI (esN v0 (Z 0))), Z 0, v0, Z 1, v1, b, pb, B, ⟨_, rfl⟩, mG.ofR (c_LN_about04 l dC dI cI (ad 0) (ad 1) (ad 2) (Z 0) v0 (ad 3) (ad 4) (Z 1) v1 (ad 5) (ad 6) b (ad 7) (ad 8) pb (ad 9) (ad 10) B  hn0 hv0 hn1 hv1 hb9 hpb hB ) (Nat.le_of_ble_eq_true rfl) (Nat.le_of_ble_eq_true rfl) rfl rfl ⟨rfl, rfl⟩, mG.ofM (c_Mo_about4 l dC dI cI (am 0) th (am 1) (am 2) (am 3) (am 4) U Z B bm 0 hU hZ hB6 hbm (by decide)) (Nat.le_of_ble_eq_true rfl) (Nat.le_of_ble_eq_true rfl) rfl rfl ⟨by rw [esN_cg r0], _, _, _, _, rfl, hI0⟩⟩
  · rcases pk_ix p2 (n := 5) (by decide) with hw | hw | ⟨j, hj, rfl⟩
    · skip
      exact ⟨.int (-1), Z 0, v0, Z 1, v1, b, pb, B, ⟨_, rfl⟩, mG.ofR (c_LN_about1x l dC dI cI (ad 0) (ad 1) (ad 2) (Z 0) v0 (ad 3) (ad 4) (Z 1) v1 (ad 5) (ad 6) b (ad 7) (ad 8) pb (ad 9) (ad 10) B p2 hn0 hv0 hn1 hv1 hb9 hpb hB (Or.inl hw)) (Nat.le_of_ble_eq_true rfl) (Nat.le_of_ble_eq_true rfl) rfl rfl ⟨rfl, rfl⟩, mG.ofM (c_Mo_aboutw l dC dI cI (am 0) th (am 1) (am 2) (am 3) (am 4) U Z B bm 1 p2 hU hZ hB6 hbm (by decide) (Or.inl hw)) (Nat.le_of_ble_eq_true rfl) (Nat.le_of_ble_eq_true rfl) rfl rfl ⟨rfl, _, _, _, _, rfl, hI0⟩⟩
    · skip
      exact ⟨.int (-1), Z 0, v0, Z 1, v1, b, pb, B, ⟨_, rfl⟩, mG.ofR (c_LN_about1x l dC dI cI (ad 0) (ad 1) (ad 2) (Z 0) v0 (ad 3) (ad 4) (Z 1) v1 (ad 5) (ad 6) b (ad 7) (ad 8) pb (ad 9) (ad 10) B p2 hn0 hv0 hn1 hv1 hb9 hpb hB (Or.inr (Int32.lt_of_lt_of_le (by decide) hw))) (Nat.le_of_ble_eq_true rfl) (Nat.le_of_ble_eq_true rfl) rfl rfl ⟨rfl, rfl⟩, mG.ofM (c_Mo_aboutw l dC dI cI (am 0) th (am 1) (am 2) (am 3) (am 4) U Z B bm 1 p2 hU hZ hB6 hbm (by decide) (Or.inr (Int32.lt_of_lt_of_le (by decide) hw))) (Nat.le_of_ble_eq_true rfl) (Nat.le_of_ble_eq_true rfl) rfl rfl ⟨rfl, _, _, _, _, rfl, hI0⟩⟩
    · rcases (show j = 0 ∨ j = 1 ∨ j = 2 ∨ j = 3 ∨ j = 4 by omega) with rfl | rfl | rfl | rfl | rfl
      · skip
        exact ⟨.int (nI (Z 1)), Z 0, v0, Z 1, v1, b, pb, B, ⟨_, rfl⟩, mG.ofR (c_LN_about10 l dC dI cI (ad 0) (ad 1) (ad 2) (Z 0) v0 (ad 3) (ad 4) (Z 1) v1 (ad 5) (ad 6) b (ad 7) (ad 8) pb (ad 9) (ad 10) B  hn0 hv0 hn1 hv1 hb9 hpb hB ) (Nat.le_of_ble_eq_true rfl) (Nat.le_of_ble_eq_true rfl) rfl rfl ⟨rfl, rfl⟩, mG.ofM (c_Mo_about0 l dC dI cI (am 0) th (am 1) (am 2) (am 3) (am 4) U Z B bm 1 hU hZ hB6 hbm (by decide)) (Nat.le_of_ble_eq_true rfl) (Nat.le_of_ble_eq_true rfl) rfl rfl ⟨rfl, _, _, _, _, rfl, hI0⟩⟩
      · skip
        exact ⟨.int (bI (nameN v1 (Z 1))), Z 0, v0, Z 1, v1, b, pb, B, ⟨_, rfl⟩, mG.ofR (c_LN_about11 l dC dI cI (ad 0) (ad 1) (ad 2) (Z 0) v0 (ad 3) (ad 4) (Z 1) v1 (ad 5) (ad 6) b (ad 7) (ad 8) pb (ad 9) (ad 10) B  hn0 hv0 hn1 hv1 hb9 hpb hB ) (Nat.le_of_ble_eq_true rfl) (Nat.le_of_ble_eq_true rfl) rfl rfl ⟨rfl, rfl⟩, mG.ofM (c_Mo_about1 l dC dI cI (am 0) th (am 1) (am 2) (am 3) (am 4) U Z B bm 1 hU hZ hB6 hbm (by decide)) (Nat.le_of_ble_eq_true rfl) (Nat.le_of_ble_eq_true rfl) rfl rfl ⟨by rw [nameN_cg r1], _, _, _, _, rfl, hI0⟩⟩
      · skip
        exact ⟨.int (bI (shortN v1 (Z 1))), Z 0, v0, Z 1, v1, b, pb, B, ⟨_, rfl⟩, mG.ofR (c_LN_about12 l dC dI cI (ad 0) (ad 1) (ad 2) (Z 0) v0 (ad 3) (ad 4) (Z 1) v1 (ad 5) (ad 6) b (ad 7) (ad 8) pb (ad 9) (ad 10) B  hn0 hv0 hn1 hv1 hb9 hpb hB ) (Nat.le_of_ble_eq_true rfl) (Nat.le_of_ble_eq_true rfl) rfl rfl ⟨rfl, rfl⟩, mG.ofM (c_Mo_about2 l dC dI cI (am 0) th (am 1) (am 2) (am 3) (am 4) U Z B bm 1 hU hZ hB6 hbm (by decide)) (Nat.le_of_ble_eq_true rfl) (Nat.le_of_ble_eq_true rfl) rfl rfl ⟨by rw [sw_eq, shortN_cg r1], _, _, _, _, rfl, lw_sb hI0 hb9 hpb hB (fun j => swB_lt (fun k => rv_lt hU k) hbm j)⟩⟩
      · skip
        exact ⟨.int (nI (pnN (Z 1))), Z 0, v0, Z 1, v1, b, pb, B, ⟨_, rfl⟩, mG.ofR (c_LN_about13 l dC dI cI (ad 0) (ad 1) (ad 2) (Z 0) v0 (ad 3) (ad 4) (Z 1) v1 (ad 5) (ad 6) b (ad 7) (ad 8) pb (ad 9) (ad 10) B  hn0 hv0 hn1 hv1 hb9 hpb hB ) (Nat.le_of_ble_eq_true rfl) (Nat.le_of_ble_eq_true rfl) rfl rfl ⟨rfl, rfl⟩, mG.ofM (c_Mo_about3 l dC dI cI (am 0) th (am 1) (am 2) (am 3) (am 4) U Z B bm 1 hU hZ hB6 hbm (by decide)) (Nat.le_of_ble_eq_true rfl) (Nat.le_of_ble_eq_true rfl) rfl rfl ⟨rfl, _, _, _, _, rfl, hI0⟩⟩
      · skip
        exact ⟨.int (nI (esN v1 (Z 1))), Z 0, v0, Z 1, v1, b, pb, B, ⟨_, rfl⟩, mG.ofR (c_LN_about14 l dC dI cI (ad 0) (ad 1) (ad 2) (Z 0) v0 (ad 3) (ad 4) (Z 1) v1 (ad 5) (ad 6) b (ad 7) (ad 8) pb (ad 9) (ad 10) B  hn0 hv0 hn1 hv1 hb9 hpb hB ) (Nat.le_of_ble_eq_true rfl) (Nat.le_of_ble_eq_true rfl) rfl rfl ⟨rfl, rfl⟩, mG.ofM (c_Mo_about4 l dC dI cI (am 0) th (am 1) (am 2) (am 3) (am 4) U Z B bm 1 hU hZ hB6 hbm (by decide)) (Nat.le_of_ble_eq_true rfl) (Nat.le_of_ble_eq_true rfl) rfl rfl ⟨by rw [esN_cg r1], _, _, _, _, rfl, hI0⟩⟩
  · skip
    exact ⟨.int (-1), Z 0, v0, Z 1, v1, b, pb, B, ⟨_, rfl⟩, mG.ofR (c_LN_aboutx l dC dI cI (ad 0) (ad 1) (ad 2) (Z 0) v0 (ad 3) (ad 4) (Z 1) v1 (ad 5) (ad 6) b (ad 7) (ad 8) pb (ad 9) (ad 10) B p1 p2 hn0 hv0 hn1 hv1 hb9 hpb hB c0 c1) (Nat.le_of_ble_eq_true rfl) (Nat.le_of_ble_eq_true rfl) rfl rfl ⟨rfl, rfl⟩, mG.ofM (c_Mo_aboutx l dC dI cI (am 0) th (am 1) (am 2) (am 3) (am 4) U Z B bm p1 p2 hU hZ hB6 hbm c0 c1) (Nat.le_of_ble_eq_true rfl) (Nat.le_of_ble_eq_true rfl) rfl rfl ⟨rfl, _, _, _, _, rfl, hI0⟩⟩
set_option maxRecDepth 100000 in
theorem o_letter (l : Launch) (dC : Nat → ClassId) (dI : Nat → Nat → Nat) (cI : ClassId) (ad am : Nat → Nat) {n0 : Nat} {v0 : Nat → Nat} {n1 : Nat} {v1 b pb B : Nat → Nat} (th : Int32) {U Z bm : Nat → Nat} (hI : lwI n0 v0 n1 v1 b pb B U Z bm) (p1 p2 : Int32) : oP l dC dI cI ad am y_LN_letter y_Mo_letter w_LN_letter w_Mo_letter [.int p1, .int p2] n0 v0 n1 v1 b pb B th U Z bm vI := by
  have hI0 := hI
  obtain ⟨⟨hn0, hv0, hn1, hv1, hb9, hpb, hB⟩, ⟨hU, hZ, hbm⟩, e0, e1, r0, r1⟩ := hI
  subst e0; subst e1
  have hB6 : ∀ j, B j < 65536 := fun j => Nat.lt_trans (hB j) (by decide)
  rcases lw_r p1 with rfl | rfl | ⟨c0, c1⟩
  · by_cases hw : p2 < 0
    · skip
      exact ⟨.int (-1), Z 0, v0, Z 1, v1, b, pb, B, ⟨_, rfl⟩, mG.ofR (c_LN_letter0x l dC dI cI (ad 0) (ad 1) (ad 2) (Z 0) v0 (ad 3) (ad 4) (Z 1) v1 (ad 5) (ad 6) b (ad 7) (ad 8) pb (ad 9) (ad 10) B p2 hn0 hv0 hn1 hv1 hb9 hpb hB hw) (Nat.le_of_ble_eq_true rfl) (Nat.le_of_ble_eq_true rfl) rfl rfl ⟨rfl, rfl⟩, mG.ofM (c_Mo_lettert l dC dI cI (am 0) th (am 1) (am 2) (am 3) (am 4) U Z B bm 0 p2 hU hZ hB6 hbm (by decide) hw) (Nat.le_of_ble_eq_true rfl) (Nat.le_of_ble_eq_true rfl) rfl rfl ⟨rfl, _, _, _, _, rfl, hI0⟩⟩
    · obtain ⟨t, ht, rfl⟩ := nI_of hw
      exact ⟨.int (ebL v0 (Z 0) 0 t), Z 0, v0, Z 1, v1, b, pb, B, ⟨_, rfl⟩, mG.ofR (c_LN_letter0 l dC dI cI (ad 0) (ad 1) (ad 2) (Z 0) v0 (ad 3) (ad 4) (Z 1) v1 (ad 5) (ad 6) b (ad 7) (ad 8) pb (ad 9) (ad 10) B t hn0 hv0 hn1 hv1 hb9 hpb hB ht) (Nat.le_of_ble_eq_true rfl) (Nat.le_of_ble_eq_true rfl) rfl rfl ⟨rfl, rfl⟩, mG.ofM (c_Mo_letter l dC dI cI (am 0) th (am 1) (am 2) (am 3) (am 4) U Z B bm 0 t hU hZ hB6 hbm (by decide) ht) (Nat.le_of_ble_eq_true rfl) (Nat.le_of_ble_eq_true rfl) rfl rfl ⟨by rw [ebL_cg (Z 0) 0 t (fun j hj => r0 j (by omega))], _, _, _, _, rfl, hI0⟩⟩
  · by_cases hw : p2 < 0
    · skip
      exact ⟨.int (-1), Z 0, v0, Z 1, v1, b, pb, B, ⟨_, rfl⟩, mG.ofR (c_LN_letter1x l dC dI cI (ad 0) (ad 1) (ad 2) (Z 0) v0 (ad 3) (ad 4) (Z 1) v1 (ad 5) (ad 6) b (ad 7) (ad 8) pb (ad 9) (ad 10) B p2 hn0 hv0 hn1 hv1 hb9 hpb hB hw) (Nat.le_of_ble_eq_true rfl) (Nat.le_of_ble_eq_true rfl) rfl rfl ⟨rfl, rfl⟩, mG.ofM (c_Mo_lettert l dC dI cI (am 0) th (am 1) (am 2) (am 3) (am 4) U Z B bm 1 p2 hU hZ hB6 hbm (by decide) hw) (Nat.le_of_ble_eq_true rfl) (Nat.le_of_ble_eq_true rfl) rfl rfl ⟨rfl, _, _, _, _, rfl, hI0⟩⟩
    · obtain ⟨t, ht, rfl⟩ := nI_of hw
      exact ⟨.int (ebL v1 (Z 1) 0 t), Z 0, v0, Z 1, v1, b, pb, B, ⟨_, rfl⟩, mG.ofR (c_LN_letter1 l dC dI cI (ad 0) (ad 1) (ad 2) (Z 0) v0 (ad 3) (ad 4) (Z 1) v1 (ad 5) (ad 6) b (ad 7) (ad 8) pb (ad 9) (ad 10) B t hn0 hv0 hn1 hv1 hb9 hpb hB ht) (Nat.le_of_ble_eq_true rfl) (Nat.le_of_ble_eq_true rfl) rfl rfl ⟨rfl, rfl⟩, mG.ofM (c_Mo_letter l dC dI cI (am 0) th (am 1) (am 2) (am 3) (am 4) U Z B bm 1 t hU hZ hB6 hbm (by decide) ht) (Nat.le_of_ble_eq_true rfl) (Nat.le_of_ble_eq_true rfl) rfl rfl ⟨by rw [ebL_cg (Z 1) 0 t (fun j hj => r1 j (by omega))], _, _, _, _, rfl, hI0⟩⟩
  · skip
    exact ⟨.int (-1), Z 0, v0, Z 1, v1, b, pb, B, ⟨_, rfl⟩, mG.ofR (c_LN_letterx l dC dI cI (ad 0) (ad 1) (ad 2) (Z 0) v0 (ad 3) (ad 4) (Z 1) v1 (ad 5) (ad 6) b (ad 7) (ad 8) pb (ad 9) (ad 10) B p1 p2 hn0 hv0 hn1 hv1 hb9 hpb hB c0 c1) (Nat.le_of_ble_eq_true rfl) (Nat.le_of_ble_eq_true rfl) rfl rfl ⟨rfl, rfl⟩, mG.ofM (c_Mo_letterx l dC dI cI (am 0) th (am 1) (am 2) (am 3) (am 4) U Z B bm p1 p2 hU hZ hB6 hbm c0 c1) (Nat.le_of_ble_eq_true rfl) (Nat.le_of_ble_eq_true rfl) rfl rfl ⟨rfl, _, _, _, _, rfl, hI0⟩⟩
set_option maxRecDepth 100000 in
theorem o_alike (l : Launch) (dC : Nat → ClassId) (dI : Nat → Nat → Nat) (cI : ClassId) (ad am : Nat → Nat) {n0 : Nat} {v0 : Nat → Nat} {n1 : Nat} {v1 b pb B : Nat → Nat} (th : Int32) {U Z bm : Nat → Nat} (hI : lwI n0 v0 n1 v1 b pb B U Z bm) : oP l dC dI cI ad am y_LN_alike y_Mo_alike w_LN_alike w_Mo_alike [] n0 v0 n1 v1 b pb B th U Z bm vI := by
  have hI0 := hI
  obtain ⟨⟨hn0, hv0, hn1, hv1, hb9, hpb, hB⟩, ⟨hU, hZ, hbm⟩, e0, e1, r0, r1⟩ := hI
  subst e0; subst e1
  have hB6 : ∀ j, B j < 65536 := fun j => Nat.lt_trans (hB j) (by decide)
  exact ⟨.int (bI (likeN v0 (Z 0) v1 (Z 1))), Z 0, v0, Z 1, v1, b, pb, B, ⟨_, rfl⟩, mG.ofR (c_LN_alike l dC dI cI (ad 0) (ad 1) (ad 2) (Z 0) v0 (ad 3) (ad 4) (Z 1) v1 (ad 5) (ad 6) b (ad 7) (ad 8) pb (ad 9) (ad 10) B  hn0 hv0 hn1 hv1 hb9 hpb hB ) (Nat.le_of_ble_eq_true rfl) (Nat.le_of_ble_eq_true rfl) rfl rfl ⟨rfl, rfl⟩, mG.ofM (c_Mo_alike l dC dI cI (am 0) th (am 1) (am 2) (am 3) (am 4) U Z B bm  hU hZ hB6 hbm ) (Nat.le_of_ble_eq_true rfl) (Nat.le_of_ble_eq_true rfl) rfl rfl ⟨by rw [likeN_cg r0 r1], _, _, _, _, rfl, hI0⟩⟩
set_option maxRecDepth 100000 in
theorem o_poke (l : Launch) (dC : Nat → ClassId) (dI : Nat → Nat → Nat) (cI : ClassId) (ad am : Nat → Nat) {n0 : Nat} {v0 : Nat → Nat} {n1 : Nat} {v1 b pb B : Nat → Nat} (th : Int32) {U Z bm : Nat → Nat} (hI : lwI n0 v0 n1 v1 b pb B U Z bm) (p1 p2 p3 : Int32) : oP l dC dI cI ad am y_LN_poke y_Mo_poke w_LN_poke w_Mo_poke [.int p1, .int p2, .int p3] n0 v0 n1 v1 b pb B th U Z bm vI := by
  have hI0 := hI
  obtain ⟨⟨hn0, hv0, hn1, hv1, hb9, hpb, hB⟩, ⟨hU, hZ, hbm⟩, e0, e1, r0, r1⟩ := hI
  subst e0; subst e1
  have hB6 : ∀ j, B j < 65536 := fun j => Nat.lt_trans (hB j) (by decide)
  rcases lw_iy p1 (n := 32) (by decide) with hk | ⟨k, hk, rfl⟩
  · skip
    exact ⟨.int (nI 0), Z 0, v0, Z 1, v1, b, pb, B, ⟨_, rfl⟩, mG.ofM (c_LN_pokex l dC dI cI (ad 0) (ad 1) (ad 2) (Z 0) v0 (ad 3) (ad 4) (Z 1) v1 (ad 5) (ad 6) b (ad 7) (ad 8) pb (ad 9) (ad 10) B p1 p2 p3 hn0 hv0 hn1 hv1 hb9 hpb hB hk) (Nat.le_of_ble_eq_true rfl) (Nat.le_of_ble_eq_true rfl) rfl rfl ⟨rfl, rfl⟩, mG.ofM (c_Mo_pokex l dC dI cI (am 0) th (am 1) (am 2) (am 3) (am 4) U Z B bm p1 p2 p3 hU hZ hB6 hbm hk) (Nat.le_of_ble_eq_true rfl) (Nat.le_of_ble_eq_true rfl) rfl rfl ⟨rfl, _, _, _, _, rfl, hI0⟩⟩
  · rcases lw_iy p2 (n := 32) (by decide) with hj | ⟨j, hj, rfl⟩
    · skip
      exact ⟨.int (nI 0), Z 0, v0, Z 1, v1, b, pb, B, ⟨_, rfl⟩, mG.ofM (c_LN_pokey l dC dI cI (ad 0) (ad 1) (ad 2) (Z 0) v0 (ad 3) (ad 4) (Z 1) v1 (ad 5) (ad 6) b (ad 7) (ad 8) pb (ad 9) (ad 10) B k p2 p3 hn0 hv0 hn1 hv1 hb9 hpb hB hk hj) (Nat.le_of_ble_eq_true rfl) (Nat.le_of_ble_eq_true rfl) rfl rfl ⟨rfl, rfl⟩, mG.ofM (c_Mo_pokey l dC dI cI (am 0) th (am 1) (am 2) (am 3) (am 4) U Z B bm k p2 p3 hU hZ hB6 hbm hk hj) (Nat.le_of_ble_eq_true rfl) (Nat.le_of_ble_eq_true rfl) rfl rfl ⟨rfl, _, _, _, _, rfl, hI0⟩⟩
    · obtain ⟨y, hy, rfl⟩ := lw_any p3
      have hm := c_Mo_poke l dC dI cI (am 0) th (am 1) (am 2) (am 3) (am 4) U Z B bm k j y hU hZ hB6 hbm hk hj hy
      rw [Nat.mul_comm 32 k] at hm
      exact ⟨.int (nI 1), Z 0, v0, Z 1, v1, b, pb, uN B (k * 32 + j) (y % 2 ^ 8), ⟨_, rfl⟩, mG.ofM (c_LN_poke l dC dI cI (ad 0) (ad 1) (ad 2) (Z 0) v0 (ad 3) (ad 4) (Z 1) v1 (ad 5) (ad 6) b (ad 7) (ad 8) pb (ad 9) (ad 10) B k j y hn0 hv0 hn1 hv1 hb9 hpb hB hk hj hy) (Nat.le_of_ble_eq_true rfl) (Nat.le_of_ble_eq_true rfl) rfl rfl ⟨rfl, rfl⟩, mG.ofM (hm) (Nat.le_of_ble_eq_true rfl) (Nat.le_of_ble_eq_true rfl) rfl rfl ⟨rfl, _, _, _, _, rfl, lw_sb hI0 hb9 hpb (uN_lt hB (Nat.mod_lt _ (by decide))) hbm⟩⟩
set_option maxRecDepth 100000 in
theorem o_byteAt (l : Launch) (dC : Nat → ClassId) (dI : Nat → Nat → Nat) (cI : ClassId) (ad am : Nat → Nat) {n0 : Nat} {v0 : Nat → Nat} {n1 : Nat} {v1 b pb B : Nat → Nat} (th : Int32) {U Z bm : Nat → Nat} (hI : lwI n0 v0 n1 v1 b pb B U Z bm) (p1 p2 : Int32) : oP l dC dI cI ad am y_LN_byteAt y_Mo_byteAt w_LN_byteAt w_Mo_byteAt [.int p1, .int p2] n0 v0 n1 v1 b pb B th U Z bm vI := by
  have hI0 := hI
  obtain ⟨⟨hn0, hv0, hn1, hv1, hb9, hpb, hB⟩, ⟨hU, hZ, hbm⟩, e0, e1, r0, r1⟩ := hI
  subst e0; subst e1
  have hB6 : ∀ j, B j < 65536 := fun j => Nat.lt_trans (hB j) (by decide)
  rcases lw_iy p1 (n := 32) (by decide) with hk | ⟨k, hk, rfl⟩
  · skip
    exact ⟨.int (-1), Z 0, v0, Z 1, v1, b, pb, B, ⟨_, rfl⟩, mG.ofR (c_LN_bytex l dC dI cI (ad 0) (ad 1) (ad 2) (Z 0) v0 (ad 3) (ad 4) (Z 1) v1 (ad 5) (ad 6) b (ad 7) (ad 8) pb (ad 9) (ad 10) B p1 p2 hn0 hv0 hn1 hv1 hb9 hpb hB hk) (Nat.le_of_ble_eq_true rfl) (Nat.le_of_ble_eq_true rfl) rfl rfl ⟨rfl, rfl⟩, mG.ofM (c_Mo_bytex l dC dI cI (am 0) th (am 1) (am 2) (am 3) (am 4) U Z B bm p1 p2 hU hZ hB6 hbm hk) (Nat.le_of_ble_eq_true rfl) (Nat.le_of_ble_eq_true rfl) rfl rfl ⟨rfl, _, _, _, _, rfl, hI0⟩⟩
  · rcases lw_iy p2 (n := 32) (by decide) with hj | ⟨j, hj, rfl⟩
    · skip
      exact ⟨.int (-1), Z 0, v0, Z 1, v1, b, pb, B, ⟨_, rfl⟩, mG.ofR (c_LN_bytey l dC dI cI (ad 0) (ad 1) (ad 2) (Z 0) v0 (ad 3) (ad 4) (Z 1) v1 (ad 5) (ad 6) b (ad 7) (ad 8) pb (ad 9) (ad 10) B k p2 hn0 hv0 hn1 hv1 hb9 hpb hB hk hj) (Nat.le_of_ble_eq_true rfl) (Nat.le_of_ble_eq_true rfl) rfl rfl ⟨rfl, rfl⟩, mG.ofM (c_Mo_bytey l dC dI cI (am 0) th (am 1) (am 2) (am 3) (am 4) U Z B bm k p2 hU hZ hB6 hbm hk hj) (Nat.le_of_ble_eq_true rfl) (Nat.le_of_ble_eq_true rfl) rfl rfl ⟨rfl, _, _, _, _, rfl, hI0⟩⟩
    · skip
      exact ⟨.int (nI (B (k * 32 + j))), Z 0, v0, Z 1, v1, b, pb, B, ⟨_, rfl⟩, mG.ofR (c_LN_byte l dC dI cI (ad 0) (ad 1) (ad 2) (Z 0) v0 (ad 3) (ad 4) (Z 1) v1 (ad 5) (ad 6) b (ad 7) (ad 8) pb (ad 9) (ad 10) B k j hn0 hv0 hn1 hv1 hb9 hpb hB hk hj) (Nat.le_of_ble_eq_true rfl) (Nat.le_of_ble_eq_true rfl) rfl rfl ⟨rfl, rfl⟩, mG.ofM (c_Mo_byte l dC dI cI (am 0) th (am 1) (am 2) (am 3) (am 4) U Z B bm k j hU hZ hB6 hbm hk hj) (Nat.le_of_ble_eq_true rfl) (Nat.le_of_ble_eq_true rfl) rfl rfl ⟨by rw [Nat.mul_comm 32 k], _, _, _, _, rfl, hI0⟩⟩
set_option maxRecDepth 100000 in
theorem o_sum (l : Launch) (dC : Nat → ClassId) (dI : Nat → Nat → Nat) (cI : ClassId) (ad am : Nat → Nat) {n0 : Nat} {v0 : Nat → Nat} {n1 : Nat} {v1 b pb B : Nat → Nat} (th : Int32) {U Z bm : Nat → Nat} (hI : lwI n0 v0 n1 v1 b pb B U Z bm) (p1 : Int32) : oP l dC dI cI ad am y_LN_sum y_Mo_sum w_LN_sum w_Mo_sum [.int p1] n0 v0 n1 v1 b pb B th U Z bm vI := by
  have hI0 := hI
  obtain ⟨⟨hn0, hv0, hn1, hv1, hb9, hpb, hB⟩, ⟨hU, hZ, hbm⟩, e0, e1, r0, r1⟩ := hI
  subst e0; subst e1
  have hB6 : ∀ j, B j < 65536 := fun j => Nat.lt_trans (hB j) (by decide)
  rcases lw_iy p1 (n := 32) (by decide) with hk | ⟨k, hk, rfl⟩
  · skip
    exact ⟨.int (-1), Z 0, v0, Z 1, v1, b, pb, B, ⟨_, rfl⟩, mG.ofR (c_LN_sumx l dC dI cI (ad 0) (ad 1) (ad 2) (Z 0) v0 (ad 3) (ad 4) (Z 1) v1 (ad 5) (ad 6) b (ad 7) (ad 8) pb (ad 9) (ad 10) B p1 hn0 hv0 hn1 hv1 hb9 hpb hB hk) (Nat.le_of_ble_eq_true rfl) (Nat.le_of_ble_eq_true rfl) rfl rfl ⟨rfl, rfl⟩, mG.ofM (c_Mo_sumx l dC dI cI (am 0) th (am 1) (am 2) (am 3) (am 4) U Z B bm p1 hU hZ hB6 hbm hk) (Nat.le_of_ble_eq_true rfl) (Nat.le_of_ble_eq_true rfl) rfl rfl ⟨rfl, _, _, _, _, rfl, hI0⟩⟩
  · skip
    exact ⟨.int (nI (suN B (k * 32) 11)), Z 0, v0, Z 1, v1, b, pb, B, ⟨_, rfl⟩, mG.ofR (c_LN_sum l dC dI cI (ad 0) (ad 1) (ad 2) (Z 0) v0 (ad 3) (ad 4) (Z 1) v1 (ad 5) (ad 6) b (ad 7) (ad 8) pb (ad 9) (ad 10) B k hn0 hv0 hn1 hv1 hb9 hpb hB hk) (Nat.le_of_ble_eq_true rfl) (Nat.le_of_ble_eq_true rfl) rfl rfl ⟨rfl, rfl⟩, mG.ofM (c_Mo_sum l dC dI cI (am 0) th (am 1) (am 2) (am 3) (am 4) U Z B bm k hU hZ hB6 hbm hk) (Nat.le_of_ble_eq_true rfl) (Nat.le_of_ble_eq_true rfl) rfl rfl ⟨by rw [Nat.mul_comm 32 k], _, _, _, _, rfl, hI0⟩⟩
set_option maxRecDepth 100000 in
theorem o_seconds (l : Launch) (dC : Nat → ClassId) (dI : Nat → Nat → Nat) (cI : ClassId) (ad am : Nat → Nat) {n0 : Nat} {v0 : Nat → Nat} {n1 : Nat} {v1 b pb B : Nat → Nat} (th : Int32) {U Z bm : Nat → Nat} (hI : lwI n0 v0 n1 v1 b pb B U Z bm) (p1 p2 : Int32) : oP l dC dI cI ad am y_LN_seconds y_Mo_seconds w_LN_seconds w_Mo_seconds [.int p1, .int p2] n0 v0 n1 v1 b pb B th U Z bm vJ := by
  have hI0 := hI
  obtain ⟨⟨hn0, hv0, hn1, hv1, hb9, hpb, hB⟩, ⟨hU, hZ, hbm⟩, e0, e1, r0, r1⟩ := hI
  subst e0; subst e1
  have hB6 : ∀ j, B j < 65536 := fun j => Nat.lt_trans (hB j) (by decide)
  rcases lw_ix p1 (n := 65535) (by decide) with hd | ⟨d, hd, rfl⟩
  · skip
    exact ⟨.long (-1), Z 0, v0, Z 1, v1, b, pb, B, ⟨_, rfl⟩, mG.ofR (c_LN_secx l dC dI cI (ad 0) (ad 1) (ad 2) (Z 0) v0 (ad 3) (ad 4) (Z 1) v1 (ad 5) (ad 6) b (ad 7) (ad 8) pb (ad 9) (ad 10) B p1 p2 hn0 hv0 hn1 hv1 hb9 hpb hB hd) (Nat.le_of_ble_eq_true rfl) (Nat.le_of_ble_eq_true rfl) rfl rfl ⟨rfl, rfl⟩, mG.ofM (c_Mo_secx l dC dI cI (am 0) th (am 1) (am 2) (am 3) (am 4) U Z B bm p1 p2 hU hZ hB6 hbm hd) (Nat.le_of_ble_eq_true rfl) (Nat.le_of_ble_eq_true rfl) rfl rfl ⟨rfl, _, _, _, _, rfl, hI0⟩⟩
  · rcases lw_ix p2 (n := 65535) (by decide) with ht | ⟨t, ht, rfl⟩
    · cases hi : idN d
      · skip
        exact ⟨.long (-1), Z 0, v0, Z 1, v1, b, pb, B, ⟨_, rfl⟩, mG.ofR (c_LN_secd l dC dI cI (ad 0) (ad 1) (ad 2) (Z 0) v0 (ad 3) (ad 4) (Z 1) v1 (ad 5) (ad 6) b (ad 7) (ad 8) pb (ad 9) (ad 10) B d p2 hn0 hv0 hn1 hv1 hb9 hpb hB hd hi) (Nat.le_of_ble_eq_true rfl) (Nat.le_of_ble_eq_true rfl) rfl rfl ⟨rfl, rfl⟩, mG.ofM (c_Mo_secy l dC dI cI (am 0) th (am 1) (am 2) (am 3) (am 4) U Z B bm d p2 hU hZ hB6 hbm hd ht) (Nat.le_of_ble_eq_true rfl) (Nat.le_of_ble_eq_true rfl) rfl rfl ⟨rfl, _, _, _, _, rfl, hI0⟩⟩
      · skip
        exact ⟨.long (-1), Z 0, v0, Z 1, v1, b, pb, B, ⟨_, rfl⟩, mG.ofR (c_LN_secy l dC dI cI (ad 0) (ad 1) (ad 2) (Z 0) v0 (ad 3) (ad 4) (Z 1) v1 (ad 5) (ad 6) b (ad 7) (ad 8) pb (ad 9) (ad 10) B d p2 hn0 hv0 hn1 hv1 hb9 hpb hB hd hi ht) (Nat.le_of_ble_eq_true rfl) (Nat.le_of_ble_eq_true rfl) rfl rfl ⟨rfl, rfl⟩, mG.ofM (c_Mo_secy l dC dI cI (am 0) th (am 1) (am 2) (am 3) (am 4) U Z B bm d p2 hU hZ hB6 hbm hd ht) (Nat.le_of_ble_eq_true rfl) (Nat.le_of_ble_eq_true rfl) rfl rfl ⟨rfl, _, _, _, _, rfl, hI0⟩⟩
    · cases hi : idN d
      · have hg : sgN d t = false := by rw [sg_eq, hi]; rfl
        exact ⟨.long (-1), Z 0, v0, Z 1, v1, b, pb, B, ⟨_, rfl⟩, mG.ofR (c_LN_secd l dC dI cI (ad 0) (ad 1) (ad 2) (Z 0) v0 (ad 3) (ad 4) (Z 1) v1 (ad 5) (ad 6) b (ad 7) (ad 8) pb (ad 9) (ad 10) B d (nI t) hn0 hv0 hn1 hv1 hb9 hpb hB hd hi) (Nat.le_of_ble_eq_true rfl) (Nat.le_of_ble_eq_true rfl) rfl rfl ⟨rfl, rfl⟩, mG.ofM (c_Mo_sec0 l dC dI cI (am 0) th (am 1) (am 2) (am 3) (am 4) U Z B bm d t hU hZ hB6 hbm hd ht hg) (Nat.le_of_ble_eq_true rfl) (Nat.le_of_ble_eq_true rfl) rfl rfl ⟨rfl, _, _, _, _, rfl, hI0⟩⟩
      · cases hj : itN t
        · have hg : sgN d t = false := by rw [sg_eq, hi, hj]; rfl
          exact ⟨.long (-1), Z 0, v0, Z 1, v1, b, pb, B, ⟨_, rfl⟩, mG.ofR (c_LN_sect l dC dI cI (ad 0) (ad 1) (ad 2) (Z 0) v0 (ad 3) (ad 4) (Z 1) v1 (ad 5) (ad 6) b (ad 7) (ad 8) pb (ad 9) (ad 10) B d t hn0 hv0 hn1 hv1 hb9 hpb hB hd hi ht hj) (Nat.le_of_ble_eq_true rfl) (Nat.le_of_ble_eq_true rfl) rfl rfl ⟨rfl, rfl⟩, mG.ofM (c_Mo_sec0 l dC dI cI (am 0) th (am 1) (am 2) (am 3) (am 4) U Z B bm d t hU hZ hB6 hbm hd ht hg) (Nat.le_of_ble_eq_true rfl) (Nat.le_of_ble_eq_true rfl) rfl rfl ⟨rfl, _, _, _, _, rfl, hI0⟩⟩
        · have hg : sgN d t = true := by rw [sg_eq, hi, hj]; rfl
          exact ⟨.long (lN (sdN d + stmN t)), Z 0, v0, Z 1, v1, b, pb, B, ⟨_, rfl⟩, mG.ofR (c_LN_sec l dC dI cI (ad 0) (ad 1) (ad 2) (Z 0) v0 (ad 3) (ad 4) (Z 1) v1 (ad 5) (ad 6) b (ad 7) (ad 8) pb (ad 9) (ad 10) B d t hn0 hv0 hn1 hv1 hb9 hpb hB hd hi ht hj) (Nat.le_of_ble_eq_true rfl) (Nat.le_of_ble_eq_true rfl) rfl rfl ⟨rfl, rfl⟩, mG.ofM (c_Mo_sec l dC dI cI (am 0) th (am 1) (am 2) (am 3) (am 4) U Z B bm d t hU hZ hB6 hbm hd ht hg) (Nat.le_of_ble_eq_true rfl) (Nat.le_of_ble_eq_true rfl) rfl rfl ⟨by rw [ss_eq hg], _, _, _, _, rfl, hI0⟩⟩
