set_option maxHeartbeats 1000000 in
set_option maxRecDepth 100000 in
theorem c_Mo_tailed (l : Launch) (dC : Nat → ClassId) (dI : Nat → Nat → Nat) (cI : ClassId) (m0 : Nat) (th : Int32) (mu mz mb mr : Nat) (U Z b : Nat → Nat) (r t : Nat) (hU : ∀ j, U j < 65536) (hZ : ∀ j, Z j ≤ 255) (hr : r < 2) (h1z : 1 ≤ Z r) (ht : t < 10000) : mM l y_Mo_tailed w_Mo_tailed ({ frames := 2, cells := 0, slots := 0, locals := 40 } : Room) [.ref m0, .int (nI r), .int (nI t)] (dC, dI) vwCl [(cI, .int)] [(m0, .inr (5, [.int th, .ref mu, .ref mz, .ref mb, .ref mr])), (mu, .inl (cI, 510, .inl (nf U))), (mz, .inl (cI, 2, .inl (nf Z))), (mr, .inl (cI, 11, .inl (nf b)))] none [(m0, .inr (5, [.int th, .ref mu, .ref mz, .ref mb, .ref mr])), (mu, .inl (cI, 510, .inl (nf U))), (mz, .inl (cI, 2, .inl (nf Z))), (mr, .inl (cI, 11, .inl (nf (tdN (rv U r) (Z r) t b))))] := by
  have hZr := hZ r
  have hla9 := laN_le (rv U r) (Z r - 1)
  have hdg := dgN_in t
  have heq9 : eqN (rv U r) (Z r) ≤ Z r := by unfold eqN; split <;> omega
  refine mk_Mv (cc := b_Mo_tailed) (maxL := 12) (by decide) rfl (Nat.le_of_ble_eq_true rfl) ?_
  intro p e s m below meth c Q A ls S hP hK hT hS hl hD hA hret
  obtain ⟨hx, hb, hml, hown, hts⟩ := id S
  have hl : lv_has ls 12 [(0, .ref m0), (1, .int (nI r)), (2, .int (nI t))] := hl
  refine lv_aload_n hx hb d_Mo_tailed_0 rfl (lv_at hl 0 rfl) ?_
  refine va_get (D := (dC, dI)) (ci := 5) (v := .ref mz) (C := "LongNamesModel") (T := F_Mo) (N := 5) hx hb hts (iw_Mo _) hown hK hP 0 rfl rfl 2 (by decide) (hts _ (List.mem_cons_of_mem _ k_524)) (fun _ h9 => h9) rfl d_Mo_tailed_1 ?_
  refine lv_iload_n hx hb d_Mo_tailed_4 rfl (lv_at hl 1 rfl) ?_
  refine va_iald hx hb hK hP 2 0 rfl rfl (vp_in_nI (N := 2) (show r < 2 by omega) (by decide)) d_Mo_tailed_5 ?_
  refine mk_ti (y := nI (Z r)) (by rw [nI_clamp (by omega)]; rfl) ?_
  refine lv_istore_n (lv' := [(3, .int (nI (Z r))), (0, .ref m0), (1, .int (nI r)), (2, .int (nI t))]) hx hb d_Mo_tailed_6 rfl hl (by decide) rfl (fun ls hl => ?_)
  have jn35 : ∀  (H : Heap) (locs : List Loc) (ls : Array Slot), va_P (dC, dI) vwCl [(m0, .inr (5, [.int th, .ref mu, .ref mz, .ref mb, .ref mr])), (mu, .inl (cI, 510, .inl (nf U))), (mz, .inl (cI, 2, .inl (nf Z))), (mr, .inl (cI, 11, .inl (nf b)))] H → va_D A [(m0, .inr (5, [.int th, .ref mu, .ref mz, .ref mb, .ref mr])), (mu, .inl (cI, 510, .inl (nf U))), (mz, .inl (cI, 2, .inl (nf Z))), (mr, .inl (cI, 11, .inl (nf b)))] → va_S A s.heap H locs → lv_has ls 12 [(0, .ref m0), (1, .int (nI r)), (2, .int (nI t)), (3, .int (nI (Z r))), (4, .int (nI (laN (rv U r) (Z r - 1))))] → W p l e ({ frames := 2, cells := 0, slots := 0, locals := 40 } : Room) s m ([.ref m0, .int (nI r), .int (nI t)] : List Value).toArray below meth c H locs 0 0 Q (F0 m 35 ls []) := by
    intro H locs ls hP hD hS hl
    have jn69 : ∀  (H : Heap) (locs : List Loc) (ls : Array Slot), va_P (dC, dI) vwCl [(m0, .inr (5, [.int th, .ref mu, .ref mz, .ref mb, .ref mr])), (mu, .inl (cI, 510, .inl (nf U))), (mz, .inl (cI, 2, .inl (nf Z))), (mr, .inl (cI, 11, .inl (nf b)))] H → va_D A [(m0, .inr (5, [.int th, .ref mu, .ref mz, .ref mb, .ref mr])), (mu, .inl (cI, 510, .inl (nf U))), (mz, .inl (cI, 2, .inl (nf Z))), (mr, .inl (cI, 11, .inl (nf b)))] → va_S A s.heap H locs → lv_has ls 12 [(0, .ref m0), (1, .int (nI r)), (2, .int (nI t)), (3, .int (nI (Z r))), (4, .int (nI (laN (rv U r) (Z r - 1)))), (5, .int (nI (dgN t)))] → W p l e ({ frames := 2, cells := 0, slots := 0, locals := 40 } : Room) s m ([.ref m0, .int (nI r), .int (nI t)] : List Value).toArray below meth c H locs 0 0 Q (F0 m 69 ls []) := by
      intro H locs ls hP hD hS hl
      refine lv_iconst (v := nI 0) hx hb d_Mo_tailed_69 (by decide) ?_
      refine lv_istore (lv' := [(6, .int (nI 0)), (0, .ref m0), (1, .int (nI r)), (2, .int (nI t)), (3, .int (nI (Z r))), (4, .int (nI (laN (rv U r) (Z r - 1)))), (5, .int (nI (dgN t)))]) hx hb d_Mo_tailed_70 hl (by decide) rfl (fun ls hl => ?_)
      have lp72 : ∀ (k : Nat) (i : Nat) (H : Heap) (locs : List Loc) (ls : Array Slot), (i + k = 11) → va_P (dC, dI) vwCl [(m0, .inr (5, [.int th, .ref mu, .ref mz, .ref mb, .ref mr])), (mu, .inl (cI, 510, .inl (nf U))), (mz, .inl (cI, 2, .inl (nf Z))), (mr, .inl (cI, 11, .inl (nf (fiN b 32 i))))] H → va_D A [(m0, .inr (5, [.int th, .ref mu, .ref mz, .ref mb, .ref mr])), (mu, .inl (cI, 510, .inl (nf U))), (mz, .inl (cI, 2, .inl (nf Z))), (mr, .inl (cI, 11, .inl (nf (fiN b 32 i))))] → va_S A s.heap H locs → lv_has ls 12 [(0, .ref m0), (1, .int (nI r)), (2, .int (nI t)), (3, .int (nI (Z r))), (4, .int (nI (laN (rv U r) (Z r - 1)))), (5, .int (nI (dgN t))), (6, .int (nI i))] → W p l e ({ frames := 2, cells := 0, slots := 0, locals := 40 } : Room) s m ([.ref m0, .int (nI r), .int (nI t)] : List Value).toArray below meth c H locs 0 0 Q (F0 m 72 ls []) := by
        intro k
        induction k with
        | zero =>
          intro i H locs ls hi hP hD hS hl
          refine lv_iload hx hb d_Mo_tailed_72 (lv_at hl 6 rfl) ?_
          refine lv_bipush (v := nI 11) hx hb d_Mo_tailed_74 (by decide) ?_
          refine lv_icmp_ge (tgt := 94) hx hb d_Mo_tailed_76 (by decide) (fun c_1 => ?_) (fun c_1 => ?_)
          · skip
            rw [nI_leI (by omega) (by omega)] at c_1
            have jn107 : ∀  (H : Heap) (locs : List Loc) (ls : Array Slot), va_P (dC, dI) vwCl [(m0, .inr (5, [.int th, .ref mu, .ref mz, .ref mb, .ref mr])), (mu, .inl (cI, 510, .inl (nf U))), (mz, .inl (cI, 2, .inl (nf Z))), (mr, .inl (cI, 11, .inl (nf (fiN b 32 11))))] H → va_D A [(m0, .inr (5, [.int th, .ref mu, .ref mz, .ref mb, .ref mr])), (mu, .inl (cI, 510, .inl (nf U))), (mz, .inl (cI, 2, .inl (nf Z))), (mr, .inl (cI, 11, .inl (nf (fiN b 32 11))))] → va_S A s.heap H locs → lv_has ls 12 [(0, .ref m0), (1, .int (nI r)), (2, .int (nI t)), (3, .int (nI (Z r))), (4, .int (nI (laN (rv U r) (Z r - 1)))), (5, .int (nI (dgN t))), (6, .int (nI (eqN (rv U r) (Z r))))] → W p l e ({ frames := 2, cells := 0, slots := 0, locals := 40 } : Room) s m ([.ref m0, .int (nI r), .int (nI t)] : List Value).toArray below meth c H locs 0 0 Q (F0 m 107 ls []) := by
              intro H locs ls hP hD hS hl
              refine lv_iconst (v := nI 0) hx hb d_Mo_tailed_107 (by decide) ?_
              refine lv_istore (lv' := [(7, .int (nI 0)), (0, .ref m0), (1, .int (nI r)), (2, .int (nI t)), (3, .int (nI (Z r))), (4, .int (nI (laN (rv U r) (Z r - 1)))), (5, .int (nI (dgN t))), (6, .int (nI (eqN (rv U r) (Z r))))]) hx hb d_Mo_tailed_108 hl (by decide) rfl (fun ls hl => ?_)
              refine lv_iconst (v := nI 0) hx hb d_Mo_tailed_110 (by decide) ?_
              refine lv_istore (lv' := [(8, .int (nI 0)), (7, .int (nI 0)), (0, .ref m0), (1, .int (nI r)), (2, .int (nI t)), (3, .int (nI (Z r))), (4, .int (nI (laN (rv U r) (Z r - 1)))), (5, .int (nI (dgN t))), (6, .int (nI (eqN (rv U r) (Z r))))]) hx hb d_Mo_tailed_111 hl (by decide) rfl (fun ls hl => ?_)
              have lp113 : ∀ (k2 : Nat) (i2 c9 : Nat) (b1 : Nat → Nat) (H : Heap) (locs : List Loc) (ls : Array Slot), (i2 + k2 = eqN (rv U r) (Z r)) → (c9 ≤ 7 - dgN t) → (shC (rv U r) (7 - dgN t) (eqN (rv U r) (Z r)) 0 0 = shC (rv U r) (7 - dgN t) k2 i2 c9 ∧ shB (rv U r) 0 (7 - dgN t) (eqN (rv U r) (Z r)) 0 0 (fiN b 32 11) = shB (rv U r) 0 (7 - dgN t) k2 i2 c9 b1) → va_P (dC, dI) vwCl [(m0, .inr (5, [.int th, .ref mu, .ref mz, .ref mb, .ref mr])), (mu, .inl (cI, 510, .inl (nf U))), (mz, .inl (cI, 2, .inl (nf Z))), (mr, .inl (cI, 11, .inl (nf b1)))] H → va_D A [(m0, .inr (5, [.int th, .ref mu, .ref mz, .ref mb, .ref mr])), (mu, .inl (cI, 510, .inl (nf U))), (mz, .inl (cI, 2, .inl (nf Z))), (mr, .inl (cI, 11, .inl (nf b1)))] → va_S A s.heap H locs → lv_has ls 12 [(0, .ref m0), (1, .int (nI r)), (2, .int (nI t)), (3, .int (nI (Z r))), (4, .int (nI (laN (rv U r) (Z r - 1)))), (5, .int (nI (dgN t))), (6, .int (nI (eqN (rv U r) (Z r)))), (7, .int (nI c9)), (8, .int (nI i2))] → W p l e ({ frames := 2, cells := 0, slots := 0, locals := 40 } : Room) s m ([.ref m0, .int (nI r), .int (nI t)] : List Value).toArray below meth c H locs 0 0 Q (F0 m 113 ls []) := by
                intro k2
                induction k2 with
                | zero =>
                  intro i2 c9 b1 H locs ls hi2 hc9 hE hP hD hS hl
                  have hE1 := hE.1
                  have hE2 := hE.2
                  simp only [shC, shB] at hE1 hE2
                  refine lv_iload hx hb d_Mo_tailed_113 (lv_at hl 8 rfl) ?_
                  refine lv_iload hx hb d_Mo_tailed_115 (lv_at hl 6 rfl) ?_
                  refine lv_icmp_ge (tgt := 168) hx hb d_Mo_tailed_117 (by decide) (fun c_2 => ?_) (fun c_2 => ?_)
                  · skip
                    rw [nI_leI (by omega) (by omega)] at c_2
                    refine lv_aload_n hx hb d_Mo_tailed_168 rfl (lv_at hl 0 rfl) ?_
                    refine va_get (D := (dC, dI)) (ci := 5) (v := .ref mr) (C := "LongNamesModel") (T := F_Mo) (N := 5) hx hb hts (iw_Mo _) hown hK hP 0 rfl rfl 4 (by decide) (hts _ (List.mem_cons_of_mem _ k_526)) (fun _ h9 => h9) rfl d_Mo_tailed_169 ?_
                    refine lv_iload hx hb d_Mo_tailed_172 (lv_at hl 7 rfl) ?_
                    refine lv_bipush (v := nI 126) hx hb d_Mo_tailed_174 (by decide) ?_
                    refine va_iast hx hb hK hP hD hS 3 0 rfl rfl (vp_in_nI (N := 11) (show c9 < 11 by omega) (by decide)) d_Mo_tailed_176 (fun H locs hP hD hS => ?_)
                    rw [nI_clamp (by omega), nf_up] at hP hD
                    have hP : va_P (dC, dI) vwCl [(m0, .inr (5, [.int th, .ref mu, .ref mz, .ref mb, .ref mr])), (mu, .inl (cI, 510, .inl (nf U))), (mz, .inl (cI, 2, .inl (nf Z))), (mr, .inl (cI, 11, .inl (nf (uN b1 c9 126))))] H := hP
                    have hD : va_D A [(m0, .inr (5, [.int th, .ref mu, .ref mz, .ref mb, .ref mr])), (mu, .inl (cI, 510, .inl (nf U))), (mz, .inl (cI, 2, .inl (nf Z))), (mr, .inl (cI, 11, .inl (nf (uN b1 c9 126))))] := hD
                    refine lv_iload_n hx hb d_Mo_tailed_177 rfl (lv_at hl 2 rfl) ?_
                    refine lv_istore (lv' := [(8, .int (nI t)), (0, .ref m0), (1, .int (nI r)), (2, .int (nI t)), (3, .int (nI (Z r))), (4, .int (nI (laN (rv U r) (Z r - 1)))), (5, .int (nI (dgN t))), (6, .int (nI (eqN (rv U r) (Z r)))), (7, .int (nI c9))]) hx hb d_Mo_tailed_178 hl (by decide) rfl (fun ls hl => ?_)
                    refine lv_iload hx hb d_Mo_tailed_180 (lv_at hl 8 rfl) ?_
                    refine lv_iload hx hb d_Mo_tailed_182 (lv_at hl 6 rfl) ?_
                    refine lv_iadd hx hb d_Mo_tailed_184 ?_
                    refine mk_ti (y := nI (c9 + dgN t)) (nI_add c9 (dgN t)) ?_
                    refine lv_istore (lv' := [(9, .int (nI (c9 + dgN t))), (8, .int (nI t)), (0, .ref m0), (1, .int (nI r)), (2, .int (nI t)), (3, .int (nI (Z r))), (4, .int (nI (laN (rv U r) (Z r - 1)))), (5, .int (nI (dgN t))), (6, .int (nI (eqN (rv U r) (Z r)))), (7, .int (nI c9))]) hx hb d_Mo_tailed_185 hl (by decide) rfl (fun ls hl => ?_)
                    have lp187 : ∀ (k3 : Nat) (r9 : Nat) (b2 : Nat → Nat) (H : Heap) (locs : List Loc) (ls : Array Slot), (r9 < 10000) → (k3 ≤ dgN t) → (nuN (c9 + 1) (dgN t) t (uN b1 c9 126) = nuN (c9 + 1) k3 r9 b2) → va_P (dC, dI) vwCl [(m0, .inr (5, [.int th, .ref mu, .ref mz, .ref mb, .ref mr])), (mu, .inl (cI, 510, .inl (nf U))), (mz, .inl (cI, 2, .inl (nf Z))), (mr, .inl (cI, 11, .inl (nf b2)))] H → va_D A [(m0, .inr (5, [.int th, .ref mu, .ref mz, .ref mb, .ref mr])), (mu, .inl (cI, 510, .inl (nf U))), (mz, .inl (cI, 2, .inl (nf Z))), (mr, .inl (cI, 11, .inl (nf b2)))] → va_S A s.heap H locs → lv_has ls 12 [(0, .ref m0), (1, .int (nI r)), (2, .int (nI t)), (3, .int (nI (Z r))), (4, .int (nI (laN (rv U r) (Z r - 1)))), (5, .int (nI (dgN t))), (7, .int (nI c9)), (8, .int (nI r9)), (9, .int (nI (c9 + k3)))] → W p l e ({ frames := 2, cells := 0, slots := 0, locals := 40 } : Room) s m ([.ref m0, .int (nI r), .int (nI t)] : List Value).toArray below meth c H locs 0 0 Q (F0 m 187 ls []) := by
                      intro k3
                      induction k3 with
                      | zero =>
                        intro r9 b2 H locs ls hr9 hk3 hE3 hP hD hS hl
                        have hl : lv_has ls 12 [(0, .ref m0), (1, .int (nI r)), (2, .int (nI t)), (3, .int (nI (Z r))), (4, .int (nI (laN (rv U r) (Z r - 1)))), (5, .int (nI (dgN t))), (7, .int (nI c9)), (8, .int (nI r9)), (9, .int (nI c9))] := hl
                        refine lv_iload hx hb d_Mo_tailed_187 (lv_at hl 8 rfl) ?_
                        refine lv_iload hx hb d_Mo_tailed_189 (lv_at hl 6 rfl) ?_
                        refine lv_icmp_le (tgt := 222) hx hb d_Mo_tailed_191 (by decide) (fun c_3 => ?_) (fun c_3 => ?_)
                        · skip
                          rw [nI_leI (by omega) (by omega)] at c_3
                          refine lv_bipush (v := nI 8) hx hb d_Mo_tailed_222 (by decide) ?_
                          refine lv_istore (lv' := [(9, .int (nI 8)), (0, .ref m0), (1, .int (nI r)), (2, .int (nI t)), (3, .int (nI (Z r))), (4, .int (nI (laN (rv U r) (Z r - 1)))), (5, .int (nI (dgN t))), (7, .int (nI c9)), (8, .int (nI r9))]) hx hb d_Mo_tailed_224 hl (by decide) rfl (fun ls hl => ?_)
                          refine lv_iload hx hb d_Mo_tailed_226 (lv_at hl 5 rfl) ?_
                          refine lv_iconst (v := nI 1) hx hb d_Mo_tailed_228 (by decide) ?_
                          refine lv_iadd hx hb d_Mo_tailed_229 ?_
                          refine mk_ti (y := nI (laN (rv U r) (Z r - 1) + 1)) (nI_add (laN (rv U r) (Z r - 1)) 1) ?_
                          refine lv_istore (lv' := [(10, .int (nI (laN (rv U r) (Z r - 1) + 1))), (9, .int (nI 8)), (0, .ref m0), (1, .int (nI r)), (2, .int (nI t)), (3, .int (nI (Z r))), (4, .int (nI (laN (rv U r) (Z r - 1)))), (5, .int (nI (dgN t))), (7, .int (nI c9)), (8, .int (nI r9))]) hx hb d_Mo_tailed_230 hl (by decide) rfl (fun ls hl => ?_)
                          have lp232 : ∀ (k4 : Nat) (i4 c4 : Nat) (b3 : Nat → Nat) (H : Heap) (locs : List Loc) (ls : Array Slot), ((laN (rv U r) (Z r - 1) = 0 ∧ k4 = 0) ∨ (0 < laN (rv U r) (Z r - 1) ∧ i4 + k4 = Z r)) → (i4 ≤ 256) → (c4 ≤ 3) → (shB (rv U r) 8 3 (Z r - (eqN (rv U r) (Z r) + 1)) (eqN (rv U r) (Z r) + 1) 0 b2 = shB (rv U r) 8 3 k4 i4 c4 b3) → va_P (dC, dI) vwCl [(m0, .inr (5, [.int th, .ref mu, .ref mz, .ref mb, .ref mr])), (mu, .inl (cI, 510, .inl (nf U))), (mz, .inl (cI, 2, .inl (nf Z))), (mr, .inl (cI, 11, .inl (nf b3)))] H → va_D A [(m0, .inr (5, [.int th, .ref mu, .ref mz, .ref mb, .ref mr])), (mu, .inl (cI, 510, .inl (nf U))), (mz, .inl (cI, 2, .inl (nf Z))), (mr, .inl (cI, 11, .inl (nf b3)))] → va_S A s.heap H locs → lv_has ls 12 [(0, .ref m0), (1, .int (nI r)), (2, .int (nI t)), (3, .int (nI (Z r))), (4, .int (nI (laN (rv U r) (Z r - 1)))), (9, .int (nI (8 + c4))), (10, .int (nI i4))] → W p l e ({ frames := 2, cells := 0, slots := 0, locals := 40 } : Room) s m ([.ref m0, .int (nI r), .int (nI t)] : List Value).toArray below meth c H locs 0 0 Q (F0 m 232 ls []) := by
                            intro k4
                            induction k4 with
                            | zero =>
                              intro i4 c4 b3 H locs ls hi4 hi5 hc4 hE4 hP hD hS hl
                              refine lv_iload hx hb d_Mo_tailed_232 (lv_at hl 6 rfl) ?_
                              refine lv_iload_n hx hb d_Mo_tailed_234 rfl (lv_at hl 3 rfl) ?_
                              refine lv_icmp_ge (tgt := 288) hx hb d_Mo_tailed_235 (by decide) (fun c_4 => ?_) (fun c_4 => ?_)
                              · skip
                                rw [nI_leI (by omega) (by omega)] at c_4
                                have hw9 : ([(m0, .inr (5, [.int th, .ref mu, .ref mz, .ref mb, .ref mr])), (mu, .inl (cI, 510, .inl (nf U))), (mz, .inl (cI, 2, .inl (nf Z))), (mr, .inl (cI, 11, .inl (nf b3)))] : va_W) = [(m0, .inr (5, [.int th, .ref mu, .ref mz, .ref mb, .ref mr])), (mu, .inl (cI, 510, .inl (nf U))), (mz, .inl (cI, 2, .inl (nf Z))), (mr, .inl (cI, 11, .inl (nf (tdN (rv U r) (Z r) t b))))] := by simp only [tdN, hE1, hE2, hE3, nuN, hE4, shB]
                                rw [hw9] at hP hD
                                exact hret _ _ _ _ d_Mo_tailed_288 hP hD hS
                              · skip
                                rw [nI_leI (by omega) (by omega)] at c_4
                                refine lv_iload hx hb d_Mo_tailed_238 (lv_at hl 4 rfl) ?_
                                refine lv_if_le (tgt := 288) hx hb d_Mo_tailed_240 (by decide) (fun c_5 => ?_) (fun c_5 => ?_)
                                · skip
                                  rw [mk_cle (by omega)] at c_5
                                  have hw9 : ([(m0, .inr (5, [.int th, .ref mu, .ref mz, .ref mb, .ref mr])), (mu, .inl (cI, 510, .inl (nf U))), (mz, .inl (cI, 2, .inl (nf Z))), (mr, .inl (cI, 11, .inl (nf b3)))] : va_W) = [(m0, .inr (5, [.int th, .ref mu, .ref mz, .ref mb, .ref mr])), (mu, .inl (cI, 510, .inl (nf U))), (mz, .inl (cI, 2, .inl (nf Z))), (mr, .inl (cI, 11, .inl (nf (tdN (rv U r) (Z r) t b))))] := by simp only [tdN, hE1, hE2, hE3, nuN, hE4, shB]
                                  rw [hw9] at hP hD
                                  exact hret _ _ _ _ d_Mo_tailed_288 hP hD hS
                                · skip
                                  rw [mk_cle (by omega)] at c_5
                                  first | omega | contradiction
                            | succ k4 ih232 =>
                              intro i4 c4 b3 H locs ls hi4 hi5 hc4 hE4 hP hD hS hl
                              refine lv_iload hx hb d_Mo_tailed_232 (lv_at hl 6 rfl) ?_
                              refine lv_iload_n hx hb d_Mo_tailed_234 rfl (lv_at hl 3 rfl) ?_
                              refine lv_icmp_ge (tgt := 288) hx hb d_Mo_tailed_235 (by decide) (fun c_6 => ?_) (fun c_6 => ?_)
                              · skip
                                rw [nI_leI (by omega) (by omega)] at c_6
                                first | omega | contradiction
                              · skip
                                rw [nI_leI (by omega) (by omega)] at c_6
                                refine lv_iload hx hb d_Mo_tailed_238 (lv_at hl 4 rfl) ?_
                                refine lv_if_le (tgt := 288) hx hb d_Mo_tailed_240 (by decide) (fun c_7 => ?_) (fun c_7 => ?_)
                                · skip
                                  rw [mk_cle (by omega)] at c_7
                                  first | omega | contradiction
                                · skip
                                  rw [mk_cle (by omega)] at c_7
                                  refine lv_aload_n hx hb d_Mo_tailed_243 rfl (lv_at hl 0 rfl) ?_
                                  refine lv_iload_n hx hb d_Mo_tailed_244 rfl (lv_at hl 1 rfl) ?_
                                  refine lv_iload hx hb d_Mo_tailed_245 (lv_at hl 6 rfl) ?_
                                  refine mk_r1 (W.runV (As := [.int (nI r), .int (nI i4)]) (rest := []) S (c_Mo_at l dC dI cI m0 th mu mz mb mr U r i4 (by first | assumption | omega) (by first | assumption | omega)) (gV 2 hts k_562 k_564 k_14 k_29 k_565 (by decide +kernel) ⟨Nat.le_of_ble_eq_true rfl, Nat.le_of_ble_eq_true rfl⟩) (mk_vR hP hK hT hS [0, 1] rfl (q0 := 0) (ci := 5) rfl rfl) rfl rfl hl.1 rfl (lv_room (Nat.le_of_ble_eq_true rfl)) d_Mo_tailed_247 ⟨Nat.zero_le _, Nat.zero_le _⟩) ?_
                                  have b_8 := (show rv U r i4 < 65536 from rv_lt (show ∀ j9, U j9 < 65536 by assumption) i4)
                                  refine mk_r1 (W.runS (As := [.int (nI (rv U r i4))]) (rest := []) S (c_Mo_fold l dC dI cI (rv U r i4) (by first | assumption | omega)) (gS 1 hts k_608 k_609 k_29 k_610 (by decide +kernel) ⟨Nat.le_of_ble_eq_true rfl, Nat.le_of_ble_eq_true rfl⟩) (mk_sR hP hK hT hS [] rfl) rfl rfl hl.1 rfl (lv_room (Nat.le_of_ble_eq_true rfl)) d_Mo_tailed_250 ⟨Nat.zero_le _, Nat.zero_le _⟩) ?_
                                  have b_9 := foN_lt (show (rv U r i4) < 65536 by omega)
                                  refine lv_istore (lv' := [(11, .int (nI (foN (rv U r i4)))), (0, .ref m0), (1, .int (nI r)), (2, .int (nI t)), (3, .int (nI (Z r))), (4, .int (nI (laN (rv U r) (Z r - 1)))), (9, .int (nI (8 + c4))), (10, .int (nI i4))]) hx hb d_Mo_tailed_253 hl (by decide) rfl (fun ls hl => ?_)
                                  refine lv_iload hx hb d_Mo_tailed_255 (lv_at hl 0 rfl) ?_
                                  refine lv_if_eq (tgt := 282) hx hb d_Mo_tailed_257 (by decide) (fun c_10 => ?_) (fun c_10 => ?_)
                                  · skip
                                    rw [mk_ceq (by omega)] at c_10
                                    refine lv_iinc (v := nI (i4 + 1)) (lv' := [(10, .int (nI (i4 + 1))), (11, .int (nI (foN (rv U r i4)))), (0, .ref m0), (1, .int (nI r)), (2, .int (nI t)), (3, .int (nI (Z r))), (4, .int (nI (laN (rv U r) (Z r - 1)))), (9, .int (nI (8 + c4)))]) hx hb d_Mo_tailed_282 hl (k := 7) rfl (mk_i1 i4) (by decide) rfl (fun ls hl => ?_)
                                    refine lv_goto (tgt := 232) hx hb d_Mo_tailed_285 (by decide) ?_
                                    have hl : lv_has ls 12 [(0, .ref m0), (1, .int (nI r)), (2, .int (nI t)), (3, .int (nI (Z r))), (4, .int (nI (laN (rv U r) (Z r - 1)))), (9, .int (nI (8 + c4))), (10, .int (nI (i4 + 1)))] := lv_sub hl [2, 3, 4, 5, 6, 7, 0] rfl
                                    exact ih232 (i4 + 1) c4 b3 _ _ _ (by omega) (by omega) (by omega) (mk_sk2 hE4 (by first | (left; exact foN_0.mp (by assumption)) | (right; omega))) hP hD hS hl
                                  · skip
                                    rw [mk_ceq (by omega)] at c_10
                                    refine lv_iload hx hb d_Mo_tailed_260 (lv_at hl 6 rfl) ?_
                                    refine lv_bipush (v := nI 11) hx hb d_Mo_tailed_262 (by decide) ?_
                                    refine lv_icmp_ne (tgt := 270) hx hb d_Mo_tailed_264 (by decide) (fun c_11 => ?_) (fun c_11 => ?_)
                                    · skip
                                      rw [nI_eq (by omega) (by omega)] at c_11
                                      refine lv_aload_n hx hb d_Mo_tailed_270 rfl (lv_at hl 1 rfl) ?_
                                      refine va_get (D := (dC, dI)) (ci := 5) (v := .ref mr) (C := "LongNamesModel") (T := F_Mo) (N := 5) hx hb hts (iw_Mo _) hown hK hP 0 rfl rfl 4 (by decide) (hts _ (List.mem_cons_of_mem _ k_526)) (fun _ h9 => h9) rfl d_Mo_tailed_271 ?_
                                      refine lv_iload hx hb d_Mo_tailed_274 (lv_at hl 6 rfl) ?_
                                      refine lv_iload hx hb d_Mo_tailed_276 (lv_at hl 0 rfl) ?_
                                      refine va_iast hx hb hK hP hD hS 3 0 rfl rfl (vp_in_nI (N := 11) (show 8 + c4 < 11 by omega) (by decide)) d_Mo_tailed_278 (fun H locs hP hD hS => ?_)
                                      rw [nI_clamp (by omega), nf_up] at hP hD
                                      have hP : va_P (dC, dI) vwCl [(m0, .inr (5, [.int th, .ref mu, .ref mz, .ref mb, .ref mr])), (mu, .inl (cI, 510, .inl (nf U))), (mz, .inl (cI, 2, .inl (nf Z))), (mr, .inl (cI, 11, .inl (nf (uN b3 (8 + c4) (foN (rv U r i4))))))] H := hP
                                      have hD : va_D A [(m0, .inr (5, [.int th, .ref mu, .ref mz, .ref mb, .ref mr])), (mu, .inl (cI, 510, .inl (nf U))), (mz, .inl (cI, 2, .inl (nf Z))), (mr, .inl (cI, 11, .inl (nf (uN b3 (8 + c4) (foN (rv U r i4))))))] := hD
                                      refine lv_iinc (v := nI (8 + c4 + 1)) (lv' := [(9, .int (nI (8 + c4 + 1))), (11, .int (nI (foN (rv U r i4)))), (0, .ref m0), (1, .int (nI r)), (2, .int (nI t)), (3, .int (nI (Z r))), (4, .int (nI (laN (rv U r) (Z r - 1)))), (10, .int (nI i4))]) hx hb d_Mo_tailed_279 hl (k := 6) rfl (mk_i1 (8 + c4)) (by decide) rfl (fun ls hl => ?_)
                                      refine lv_iinc (v := nI (i4 + 1)) (lv' := [(10, .int (nI (i4 + 1))), (9, .int (nI (8 + c4 + 1))), (11, .int (nI (foN (rv U r i4)))), (0, .ref m0), (1, .int (nI r)), (2, .int (nI t)), (3, .int (nI (Z r))), (4, .int (nI (laN (rv U r) (Z r - 1))))]) hx hb d_Mo_tailed_282 hl (k := 7) rfl (mk_i1 i4) (by decide) rfl (fun ls hl => ?_)
                                      refine lv_goto (tgt := 232) hx hb d_Mo_tailed_285 (by decide) ?_
                                      have hl : lv_has ls 12 [(0, .ref m0), (1, .int (nI r)), (2, .int (nI t)), (3, .int (nI (Z r))), (4, .int (nI (laN (rv U r) (Z r - 1)))), (9, .int (nI (8 + c4 + 1))), (10, .int (nI (i4 + 1)))] := lv_sub hl [3, 4, 5, 6, 7, 1, 0] rfl
                                      have hl9 : ([(0, .ref m0), (1, .int (nI r)), (2, .int (nI t)), (3, .int (nI (Z r))), (4, .int (nI (laN (rv U r) (Z r - 1)))), (9, .int (nI (8 + c4 + 1))), (10, .int (nI (i4 + 1)))] : List (Nat × Value)) = [(0, .ref m0), (1, .int (nI r)), (2, .int (nI t)), (3, .int (nI (Z r))), (4, .int (nI (laN (rv U r) (Z r - 1)))), (9, .int (nI (8 + (c4 + 1)))), (10, .int (nI (i4 + 1)))] := by rfl
                                      rw [hl9] at hl
                                      exact ih232 (i4 + 1) (c4 + 1) (uN b3 (8 + c4) (foN (rv U r i4))) _ _ _ (by omega) (by omega) (by omega) (mk_sk3 hE4 c_10 (by omega)) hP hD hS hl
                                    · skip
                                      rw [nI_eq (by omega) (by omega)] at c_11
                                      refine lv_goto (tgt := 282) hx hb d_Mo_tailed_267 (by decide) ?_
                                      refine lv_iinc (v := nI (i4 + 1)) (lv' := [(10, .int (nI (i4 + 1))), (11, .int (nI (foN (rv U r i4)))), (0, .ref m0), (1, .int (nI r)), (2, .int (nI t)), (3, .int (nI (Z r))), (4, .int (nI (laN (rv U r) (Z r - 1)))), (9, .int (nI (8 + c4)))]) hx hb d_Mo_tailed_282 hl (k := 7) rfl (mk_i1 i4) (by decide) rfl (fun ls hl => ?_)
                                      refine lv_goto (tgt := 232) hx hb d_Mo_tailed_285 (by decide) ?_
                                      have hl : lv_has ls 12 [(0, .ref m0), (1, .int (nI r)), (2, .int (nI t)), (3, .int (nI (Z r))), (4, .int (nI (laN (rv U r) (Z r - 1)))), (9, .int (nI (8 + c4))), (10, .int (nI (i4 + 1)))] := lv_sub hl [2, 3, 4, 5, 6, 7, 0] rfl
                                      exact ih232 (i4 + 1) c4 b3 _ _ _ (by omega) (by omega) (by omega) (mk_sk2 hE4 (by first | (left; exact foN_0.mp (by assumption)) | (right; omega))) hP hD hS hl
                          have hl : lv_has ls 12 [(0, .ref m0), (1, .int (nI r)), (2, .int (nI t)), (3, .int (nI (Z r))), (4, .int (nI (laN (rv U r) (Z r - 1)))), (9, .int (nI 8)), (10, .int (nI (laN (rv U r) (Z r - 1) + 1)))] := lv_sub hl [2, 3, 4, 5, 6, 1, 0] rfl
                          have hl9 : ([(0, .ref m0), (1, .int (nI r)), (2, .int (nI t)), (3, .int (nI (Z r))), (4, .int (nI (laN (rv U r) (Z r - 1)))), (9, .int (nI 8)), (10, .int (nI (laN (rv U r) (Z r - 1) + 1)))] : List (Nat × Value)) = [(0, .ref m0), (1, .int (nI r)), (2, .int (nI t)), (3, .int (nI (Z r))), (4, .int (nI (laN (rv U r) (Z r - 1)))), (9, .int (nI (8 + 0))), (10, .int (nI (laN (rv U r) (Z r - 1) + 1)))] := by rfl
                          rw [hl9] at hl
                          exact lp232 (Z r - (eqN (rv U r) (Z r) + 1)) (laN (rv U r) (Z r - 1) + 1) 0 b2 _ _ _ (by rw [eqN]; split <;> omega) (by omega) (by omega) (mk_ex _ _ _) hP hD hS hl
                        · skip
                          rw [nI_leI (by omega) (by omega)] at c_3
                          first | omega | contradiction
                      | succ k3 ih187 =>
                        intro r9 b2 H locs ls hr9 hk3 hE3 hP hD hS hl
                        have hl : lv_has ls 12 [(0, .ref m0), (1, .int (nI r)), (2, .int (nI t)), (3, .int (nI (Z r))), (4, .int (nI (laN (rv U r) (Z r - 1)))), (5, .int (nI (dgN t))), (7, .int (nI c9)), (8, .int (nI r9)), (9, .int (nI (c9 + k3 + 1)))] := hl
                        refine lv_iload hx hb d_Mo_tailed_187 (lv_at hl 8 rfl) ?_
                        refine lv_iload hx hb d_Mo_tailed_189 (lv_at hl 6 rfl) ?_
                        refine lv_icmp_le (tgt := 222) hx hb d_Mo_tailed_191 (by decide) (fun c_12 => ?_) (fun c_12 => ?_)
                        · skip
                          rw [nI_leI (by omega) (by omega)] at c_12
                          first | omega | contradiction
                        · skip
                          rw [nI_leI (by omega) (by omega)] at c_12
                          refine lv_aload_n hx hb d_Mo_tailed_194 rfl (lv_at hl 0 rfl) ?_
                          refine va_get (D := (dC, dI)) (ci := 5) (v := .ref mr) (C := "LongNamesModel") (T := F_Mo) (N := 5) hx hb hts (iw_Mo _) hown hK hP 0 rfl rfl 4 (by decide) (hts _ (List.mem_cons_of_mem _ k_526)) (fun _ h9 => h9) rfl d_Mo_tailed_195 ?_
                          refine lv_iload hx hb d_Mo_tailed_198 (lv_at hl 8 rfl) ?_
                          refine lv_bipush (v := nI 48) hx hb d_Mo_tailed_200 (by decide) ?_
                          refine lv_iload hx hb d_Mo_tailed_202 (lv_at hl 7 rfl) ?_
                          refine lv_bipush (v := nI 10) hx hb d_Mo_tailed_204 (by decide) ?_
                          refine lv_irem hx hb d_Mo_tailed_206 (by decide) ?_
                          refine mk_ti (y := nI (r9 % 10)) (pk_rem (by omega) (by decide) (by decide)) ?_
                          refine lv_iadd hx hb d_Mo_tailed_207 ?_
                          refine mk_ti (y := nI (48 + r9 % 10)) (nI_add 48 (r9 % 10)) ?_
                          refine va_iast hx hb hK hP hD hS 3 0 rfl rfl (vp_in_nI (N := 11) (show c9 + k3 + 1 < 11 by omega) (by decide)) d_Mo_tailed_208 (fun H locs hP hD hS => ?_)
                          rw [nI_clamp (by omega), nf_up] at hP hD
                          have hP : va_P (dC, dI) vwCl [(m0, .inr (5, [.int th, .ref mu, .ref mz, .ref mb, .ref mr])), (mu, .inl (cI, 510, .inl (nf U))), (mz, .inl (cI, 2, .inl (nf Z))), (mr, .inl (cI, 11, .inl (nf (uN b2 (c9 + k3 + 1) (48 + r9 % 10)))))] H := hP
                          have hD : va_D A [(m0, .inr (5, [.int th, .ref mu, .ref mz, .ref mb, .ref mr])), (mu, .inl (cI, 510, .inl (nf U))), (mz, .inl (cI, 2, .inl (nf Z))), (mr, .inl (cI, 11, .inl (nf (uN b2 (c9 + k3 + 1) (48 + r9 % 10)))))] := hD
                          refine lv_iload hx hb d_Mo_tailed_209 (lv_at hl 7 rfl) ?_
                          refine lv_bipush (v := nI 10) hx hb d_Mo_tailed_211 (by decide) ?_
                          refine lv_idiv hx hb d_Mo_tailed_213 (by decide) ?_
                          refine mk_ti (y := nI (r9 / 10)) (pk_div (by omega) (by decide) (by decide)) ?_
                          refine lv_istore (lv' := [(8, .int (nI (r9 / 10))), (0, .ref m0), (1, .int (nI r)), (2, .int (nI t)), (3, .int (nI (Z r))), (4, .int (nI (laN (rv U r) (Z r - 1)))), (5, .int (nI (dgN t))), (7, .int (nI c9)), (9, .int (nI (c9 + k3 + 1)))]) hx hb d_Mo_tailed_214 hl (by decide) rfl (fun ls hl => ?_)
                          refine lv_iinc (v := nI (c9 + k3)) (lv' := [(9, .int (nI (c9 + k3))), (8, .int (nI (r9 / 10))), (0, .ref m0), (1, .int (nI r)), (2, .int (nI t)), (3, .int (nI (Z r))), (4, .int (nI (laN (rv U r) (Z r - 1)))), (5, .int (nI (dgN t))), (7, .int (nI c9))]) hx hb d_Mo_tailed_216 hl (k := 8) rfl (mk_im1 (c9 + k3)) (by decide) rfl (fun ls hl => ?_)
                          refine lv_goto (tgt := 187) hx hb d_Mo_tailed_219 (by decide) ?_
                          have hl : lv_has ls 12 [(0, .ref m0), (1, .int (nI r)), (2, .int (nI t)), (3, .int (nI (Z r))), (4, .int (nI (laN (rv U r) (Z r - 1)))), (5, .int (nI (dgN t))), (7, .int (nI c9)), (8, .int (nI (r9 / 10))), (9, .int (nI (c9 + k3)))] := lv_sub hl [2, 3, 4, 5, 6, 7, 8, 1, 0] rfl
                          have hw9 : ([(m0, .inr (5, [.int th, .ref mu, .ref mz, .ref mb, .ref mr])), (mu, .inl (cI, 510, .inl (nf U))), (mz, .inl (cI, 2, .inl (nf Z))), (mr, .inl (cI, 11, .inl (nf (uN b2 (c9 + k3 + 1) (48 + r9 % 10)))))] : va_W) = [(m0, .inr (5, [.int th, .ref mu, .ref mz, .ref mb, .ref mr])), (mu, .inl (cI, 510, .inl (nf U))), (mz, .inl (cI, 2, .inl (nf Z))), (mr, .inl (cI, 11, .inl (nf (uN b2 (c9 + 1 + k3) (48 + r9 % 10)))))] := by rw [show c9 + k3 + 1 = c9 + 1 + k3 by omega]
                          rw [hw9] at hP hD
                          exact ih187 (r9 / 10) (uN b2 (c9 + 1 + k3) (48 + r9 % 10)) _ _ _ (by omega) (by omega) (hE3.trans rfl) hP hD hS hl
                    have hl : lv_has ls 12 [(0, .ref m0), (1, .int (nI r)), (2, .int (nI t)), (3, .int (nI (Z r))), (4, .int (nI (laN (rv U r) (Z r - 1)))), (5, .int (nI (dgN t))), (7, .int (nI c9)), (8, .int (nI t)), (9, .int (nI (c9 + dgN t)))] := lv_sub hl [2, 3, 4, 5, 6, 7, 9, 1, 0] rfl
                    have hl9 : ([(0, .ref m0), (1, .int (nI r)), (2, .int (nI t)), (3, .int (nI (Z r))), (4, .int (nI (laN (rv U r) (Z r - 1)))), (5, .int (nI (dgN t))), (7, .int (nI c9)), (8, .int (nI t)), (9, .int (nI (c9 + dgN t)))] : List (Nat × Value)) = [(0, .ref m0), (1, .int (nI r)), (2, .int (nI t)), (3, .int (nI (Z r))), (4, .int (nI (laN (rv U r) (Z r - 1)))), (5, .int (nI (dgN t))), (7, .int (nI c9)), (8, .int (nI t)), (9, .int (nI (c9 + (dgN t))))] := by rfl
                    rw [hl9] at hl
                    exact lp187 (dgN t) t (uN b1 c9 126) _ _ _ (by omega) (Nat.le_refl _) rfl hP hD hS hl
                  · skip
                    rw [nI_leI (by omega) (by omega)] at c_2
                    first | omega | contradiction
                | succ k2 ih113 =>
                  intro i2 c9 b1 H locs ls hi2 hc9 hE hP hD hS hl
                  refine lv_iload hx hb d_Mo_tailed_113 (lv_at hl 8 rfl) ?_
                  refine lv_iload hx hb d_Mo_tailed_115 (lv_at hl 6 rfl) ?_
                  refine lv_icmp_ge (tgt := 168) hx hb d_Mo_tailed_117 (by decide) (fun c_13 => ?_) (fun c_13 => ?_)
                  · skip
                    rw [nI_leI (by omega) (by omega)] at c_13
                    first | omega | contradiction
                  · skip
                    rw [nI_leI (by omega) (by omega)] at c_13
                    refine lv_aload_n hx hb d_Mo_tailed_120 rfl (lv_at hl 0 rfl) ?_
                    refine lv_iload_n hx hb d_Mo_tailed_121 rfl (lv_at hl 1 rfl) ?_
                    refine lv_iload hx hb d_Mo_tailed_122 (lv_at hl 8 rfl) ?_
                    refine mk_r1 (W.runV (As := [.int (nI r), .int (nI i2)]) (rest := []) S (c_Mo_at l dC dI cI m0 th mu mz mb mr U r i2 (by first | assumption | omega) (by first | assumption | omega)) (gV 2 hts k_562 k_564 k_14 k_29 k_565 (by decide +kernel) ⟨Nat.le_of_ble_eq_true rfl, Nat.le_of_ble_eq_true rfl⟩) (mk_vR hP hK hT hS [0, 1] rfl (q0 := 0) (ci := 5) rfl rfl) rfl rfl hl.1 rfl (lv_room (Nat.le_of_ble_eq_true rfl)) d_Mo_tailed_124 ⟨Nat.zero_le _, Nat.zero_le _⟩) ?_
                    have b_14 := (show rv U r i2 < 65536 from rv_lt (show ∀ j9, U j9 < 65536 by assumption) i2)
                    refine mk_r1 (W.runS (As := [.int (nI (rv U r i2))]) (rest := []) S (c_Mo_fold l dC dI cI (rv U r i2) (by first | assumption | omega)) (gS 1 hts k_608 k_609 k_29 k_610 (by decide +kernel) ⟨Nat.le_of_ble_eq_true rfl, Nat.le_of_ble_eq_true rfl⟩) (mk_sR hP hK hT hS [] rfl) rfl rfl hl.1 rfl (lv_room (Nat.le_of_ble_eq_true rfl)) d_Mo_tailed_127 ⟨Nat.zero_le _, Nat.zero_le _⟩) ?_
                    have b_15 := foN_lt (show (rv U r i2) < 65536 by omega)
                    refine lv_istore (lv' := [(9, .int (nI (foN (rv U r i2)))), (0, .ref m0), (1, .int (nI r)), (2, .int (nI t)), (3, .int (nI (Z r))), (4, .int (nI (laN (rv U r) (Z r - 1)))), (5, .int (nI (dgN t))), (6, .int (nI (eqN (rv U r) (Z r)))), (7, .int (nI c9)), (8, .int (nI i2))]) hx hb d_Mo_tailed_130 hl (by decide) rfl (fun ls hl => ?_)
                    refine lv_iload hx hb d_Mo_tailed_132 (lv_at hl 0 rfl) ?_
                    refine lv_if_eq (tgt := 162) hx hb d_Mo_tailed_134 (by decide) (fun c_16 => ?_) (fun c_16 => ?_)
                    · skip
                      rw [mk_ceq (by omega)] at c_16
                      refine lv_iinc (v := nI (i2 + 1)) (lv' := [(8, .int (nI (i2 + 1))), (9, .int (nI (foN (rv U r i2)))), (0, .ref m0), (1, .int (nI r)), (2, .int (nI t)), (3, .int (nI (Z r))), (4, .int (nI (laN (rv U r) (Z r - 1)))), (5, .int (nI (dgN t))), (6, .int (nI (eqN (rv U r) (Z r)))), (7, .int (nI c9))]) hx hb d_Mo_tailed_162 hl (k := 9) rfl (mk_i1 i2) (by decide) rfl (fun ls hl => ?_)
                      refine lv_goto (tgt := 113) hx hb d_Mo_tailed_165 (by decide) ?_
                      have hl : lv_has ls 12 [(0, .ref m0), (1, .int (nI r)), (2, .int (nI t)), (3, .int (nI (Z r))), (4, .int (nI (laN (rv U r) (Z r - 1)))), (5, .int (nI (dgN t))), (6, .int (nI (eqN (rv U r) (Z r)))), (7, .int (nI c9)), (8, .int (nI (i2 + 1)))] := lv_sub hl [2, 3, 4, 5, 6, 7, 8, 9, 0] rfl
                      exact ih113 (i2 + 1) c9 b1 _ _ _ (by omega) (by omega) (mk_sk hE (by first | (left; exact foN_0.mp (by assumption)) | (right; omega))) hP hD hS hl
                    · skip
                      rw [mk_ceq (by omega)] at c_16
                      refine lv_iload hx hb d_Mo_tailed_137 (lv_at hl 8 rfl) ?_
                      refine lv_bipush (v := nI 7) hx hb d_Mo_tailed_139 (by decide) ?_
                      refine lv_iload hx hb d_Mo_tailed_141 (lv_at hl 6 rfl) ?_
                      refine lv_isub hx hb d_Mo_tailed_143 ?_
                      refine mk_ti (y := nI (7 - (dgN t))) (pk_sub (by omega)) ?_
                      refine lv_icmp_ne (tgt := 150) hx hb d_Mo_tailed_144 (by decide) (fun c_17 => ?_) (fun c_17 => ?_)
                      · skip
                        rw [nI_eq (by omega) (by omega)] at c_17
                        refine lv_aload_n hx hb d_Mo_tailed_150 rfl (lv_at hl 1 rfl) ?_
                        refine va_get (D := (dC, dI)) (ci := 5) (v := .ref mr) (C := "LongNamesModel") (T := F_Mo) (N := 5) hx hb hts (iw_Mo _) hown hK hP 0 rfl rfl 4 (by decide) (hts _ (List.mem_cons_of_mem _ k_526)) (fun _ h9 => h9) rfl d_Mo_tailed_151 ?_
                        refine lv_iload hx hb d_Mo_tailed_154 (lv_at hl 8 rfl) ?_
                        refine lv_iload hx hb d_Mo_tailed_156 (lv_at hl 0 rfl) ?_
                        refine va_iast hx hb hK hP hD hS 3 0 rfl rfl (vp_in_nI (N := 11) (show c9 < 11 by omega) (by decide)) d_Mo_tailed_158 (fun H locs hP hD hS => ?_)
                        rw [nI_clamp (by omega), nf_up] at hP hD
                        have hP : va_P (dC, dI) vwCl [(m0, .inr (5, [.int th, .ref mu, .ref mz, .ref mb, .ref mr])), (mu, .inl (cI, 510, .inl (nf U))), (mz, .inl (cI, 2, .inl (nf Z))), (mr, .inl (cI, 11, .inl (nf (uN b1 c9 (foN (rv U r i2))))))] H := hP
                        have hD : va_D A [(m0, .inr (5, [.int th, .ref mu, .ref mz, .ref mb, .ref mr])), (mu, .inl (cI, 510, .inl (nf U))), (mz, .inl (cI, 2, .inl (nf Z))), (mr, .inl (cI, 11, .inl (nf (uN b1 c9 (foN (rv U r i2))))))] := hD
                        refine lv_iinc (v := nI (c9 + 1)) (lv' := [(7, .int (nI (c9 + 1))), (9, .int (nI (foN (rv U r i2)))), (0, .ref m0), (1, .int (nI r)), (2, .int (nI t)), (3, .int (nI (Z r))), (4, .int (nI (laN (rv U r) (Z r - 1)))), (5, .int (nI (dgN t))), (6, .int (nI (eqN (rv U r) (Z r)))), (8, .int (nI i2))]) hx hb d_Mo_tailed_159 hl (k := 8) rfl (mk_i1 c9) (by decide) rfl (fun ls hl => ?_)
                        refine lv_iinc (v := nI (i2 + 1)) (lv' := [(8, .int (nI (i2 + 1))), (7, .int (nI (c9 + 1))), (9, .int (nI (foN (rv U r i2)))), (0, .ref m0), (1, .int (nI r)), (2, .int (nI t)), (3, .int (nI (Z r))), (4, .int (nI (laN (rv U r) (Z r - 1)))), (5, .int (nI (dgN t))), (6, .int (nI (eqN (rv U r) (Z r))))]) hx hb d_Mo_tailed_162 hl (k := 9) rfl (mk_i1 i2) (by decide) rfl (fun ls hl => ?_)
                        refine lv_goto (tgt := 113) hx hb d_Mo_tailed_165 (by decide) ?_
                        have hl : lv_has ls 12 [(0, .ref m0), (1, .int (nI r)), (2, .int (nI t)), (3, .int (nI (Z r))), (4, .int (nI (laN (rv U r) (Z r - 1)))), (5, .int (nI (dgN t))), (6, .int (nI (eqN (rv U r) (Z r)))), (7, .int (nI (c9 + 1))), (8, .int (nI (i2 + 1)))] := lv_sub hl [3, 4, 5, 6, 7, 8, 9, 1, 0] rfl
                        exact ih113 (i2 + 1) (c9 + 1) (uN b1 c9 (foN (rv U r i2))) _ _ _ (by omega) (by omega) (mk_sk4 hE c_16 (by omega)) hP hD hS hl
                      · skip
                        rw [nI_eq (by omega) (by omega)] at c_17
                        refine lv_goto (tgt := 162) hx hb d_Mo_tailed_147 (by decide) ?_
                        refine lv_iinc (v := nI (i2 + 1)) (lv' := [(8, .int (nI (i2 + 1))), (9, .int (nI (foN (rv U r i2)))), (0, .ref m0), (1, .int (nI r)), (2, .int (nI t)), (3, .int (nI (Z r))), (4, .int (nI (laN (rv U r) (Z r - 1)))), (5, .int (nI (dgN t))), (6, .int (nI (eqN (rv U r) (Z r)))), (7, .int (nI c9))]) hx hb d_Mo_tailed_162 hl (k := 9) rfl (mk_i1 i2) (by decide) rfl (fun ls hl => ?_)
                        refine lv_goto (tgt := 113) hx hb d_Mo_tailed_165 (by decide) ?_
                        have hl : lv_has ls 12 [(0, .ref m0), (1, .int (nI r)), (2, .int (nI t)), (3, .int (nI (Z r))), (4, .int (nI (laN (rv U r) (Z r - 1)))), (5, .int (nI (dgN t))), (6, .int (nI (eqN (rv U r) (Z r)))), (7, .int (nI c9)), (8, .int (nI (i2 + 1)))] := lv_sub hl [2, 3, 4, 5, 6, 7, 8, 9, 0] rfl
                        exact ih113 (i2 + 1) c9 b1 _ _ _ (by omega) (by omega) (mk_sk hE (by first | (left; exact foN_0.mp (by assumption)) | (right; omega))) hP hD hS hl
              have hl : lv_has ls 12 [(0, .ref m0), (1, .int (nI r)), (2, .int (nI t)), (3, .int (nI (Z r))), (4, .int (nI (laN (rv U r) (Z r - 1)))), (5, .int (nI (dgN t))), (6, .int (nI (eqN (rv U r) (Z r)))), (7, .int (nI 0)), (8, .int (nI 0))] := lv_sub hl [2, 3, 4, 5, 6, 7, 8, 1, 0] rfl
              exact lp113 (eqN (rv U r) (Z r)) 0 0 (fiN b 32 11) _ _ _ (by omega) (by omega) ⟨rfl, rfl⟩ hP hD hS hl
            refine lv_iload hx hb d_Mo_tailed_94 (lv_at hl 4 rfl) ?_
            refine lv_if_le (tgt := 104) hx hb d_Mo_tailed_96 (by decide) (fun c_18 => ?_) (fun c_18 => ?_)
            · skip
              rw [mk_cle (by omega)] at c_18
              refine lv_iload_n hx hb d_Mo_tailed_104 rfl (lv_at hl 3 rfl) ?_
              refine lv_istore (lv' := [(6, .int (nI (Z r))), (0, .ref m0), (1, .int (nI r)), (2, .int (nI t)), (3, .int (nI (Z r))), (4, .int (nI (laN (rv U r) (Z r - 1)))), (5, .int (nI (dgN t)))]) hx hb d_Mo_tailed_105 hl (by decide) rfl (fun ls hl => ?_)
              have hl : lv_has ls 12 [(0, .ref m0), (1, .int (nI r)), (2, .int (nI t)), (3, .int (nI (Z r))), (4, .int (nI (laN (rv U r) (Z r - 1)))), (5, .int (nI (dgN t))), (6, .int (nI (Z r)))] := lv_sub hl [1, 2, 3, 4, 5, 6, 0] rfl
              have hl9 : ([(0, .ref m0), (1, .int (nI r)), (2, .int (nI t)), (3, .int (nI (Z r))), (4, .int (nI (laN (rv U r) (Z r - 1)))), (5, .int (nI (dgN t))), (6, .int (nI (Z r)))] : List (Nat × Value)) = [(0, .ref m0), (1, .int (nI r)), (2, .int (nI t)), (3, .int (nI (Z r))), (4, .int (nI (laN (rv U r) (Z r - 1)))), (5, .int (nI (dgN t))), (6, .int (nI (eqN (rv U r) (Z r))))] := by rw [show eqN (rv U r) (Z r) = Z r from (by rw [eqN, if_pos (by omega)])]
              rw [hl9] at hl
              have hw9 : ([(m0, .inr (5, [.int th, .ref mu, .ref mz, .ref mb, .ref mr])), (mu, .inl (cI, 510, .inl (nf U))), (mz, .inl (cI, 2, .inl (nf Z))), (mr, .inl (cI, 11, .inl (nf (fiN b 32 i))))] : va_W) = [(m0, .inr (5, [.int th, .ref mu, .ref mz, .ref mb, .ref mr])), (mu, .inl (cI, 510, .inl (nf U))), (mz, .inl (cI, 2, .inl (nf Z))), (mr, .inl (cI, 11, .inl (nf (fiN b 32 11))))] := by rw [show i = 11 by omega]
              rw [hw9] at hP hD
              exact jn107 _ _ _ hP hD hS hl
            · skip
              rw [mk_cle (by omega)] at c_18
              refine lv_iload hx hb d_Mo_tailed_99 (lv_at hl 4 rfl) ?_
              refine lv_goto (tgt := 105) hx hb d_Mo_tailed_101 (by decide) ?_
              refine lv_istore (lv' := [(6, .int (nI (laN (rv U r) (Z r - 1)))), (0, .ref m0), (1, .int (nI r)), (2, .int (nI t)), (3, .int (nI (Z r))), (4, .int (nI (laN (rv U r) (Z r - 1)))), (5, .int (nI (dgN t)))]) hx hb d_Mo_tailed_105 hl (by decide) rfl (fun ls hl => ?_)
              have hl : lv_has ls 12 [(0, .ref m0), (1, .int (nI r)), (2, .int (nI t)), (3, .int (nI (Z r))), (4, .int (nI (laN (rv U r) (Z r - 1)))), (5, .int (nI (dgN t))), (6, .int (nI (laN (rv U r) (Z r - 1))))] := lv_sub hl [1, 2, 3, 4, 5, 6, 0] rfl
              have hl9 : ([(0, .ref m0), (1, .int (nI r)), (2, .int (nI t)), (3, .int (nI (Z r))), (4, .int (nI (laN (rv U r) (Z r - 1)))), (5, .int (nI (dgN t))), (6, .int (nI (laN (rv U r) (Z r - 1))))] : List (Nat × Value)) = [(0, .ref m0), (1, .int (nI r)), (2, .int (nI t)), (3, .int (nI (Z r))), (4, .int (nI (laN (rv U r) (Z r - 1)))), (5, .int (nI (dgN t))), (6, .int (nI (eqN (rv U r) (Z r))))] := by rw [show eqN (rv U r) (Z r) = laN (rv U r) (Z r - 1) from (by rw [eqN, if_neg (by omega)])]
              rw [hl9] at hl
              have hw9 : ([(m0, .inr (5, [.int th, .ref mu, .ref mz, .ref mb, .ref mr])), (mu, .inl (cI, 510, .inl (nf U))), (mz, .inl (cI, 2, .inl (nf Z))), (mr, .inl (cI, 11, .inl (nf (fiN b 32 i))))] : va_W) = [(m0, .inr (5, [.int th, .ref mu, .ref mz, .ref mb, .ref mr])), (mu, .inl (cI, 510, .inl (nf U))), (mz, .inl (cI, 2, .inl (nf Z))), (mr, .inl (cI, 11, .inl (nf (fiN b 32 11))))] := by rw [show i = 11 by omega]
              rw [hw9] at hP hD
              exact jn107 _ _ _ hP hD hS hl
          · skip
            rw [nI_leI (by omega) (by omega)] at c_1
            first | omega | contradiction
        | succ k ih72 =>
          intro i H locs ls hi hP hD hS hl
          refine lv_iload hx hb d_Mo_tailed_72 (lv_at hl 6 rfl) ?_
          refine lv_bipush (v := nI 11) hx hb d_Mo_tailed_74 (by decide) ?_
          refine lv_icmp_ge (tgt := 94) hx hb d_Mo_tailed_76 (by decide) (fun c_19 => ?_) (fun c_19 => ?_)
          · skip
            rw [nI_leI (by omega) (by omega)] at c_19
            first | omega | contradiction
          · skip
            rw [nI_leI (by omega) (by omega)] at c_19
            refine lv_aload_n hx hb d_Mo_tailed_79 rfl (lv_at hl 0 rfl) ?_
            refine va_get (D := (dC, dI)) (ci := 5) (v := .ref mr) (C := "LongNamesModel") (T := F_Mo) (N := 5) hx hb hts (iw_Mo _) hown hK hP 0 rfl rfl 4 (by decide) (hts _ (List.mem_cons_of_mem _ k_526)) (fun _ h9 => h9) rfl d_Mo_tailed_80 ?_
            refine lv_iload hx hb d_Mo_tailed_83 (lv_at hl 6 rfl) ?_
            refine lv_bipush (v := nI 32) hx hb d_Mo_tailed_85 (by decide) ?_
            refine va_iast hx hb hK hP hD hS 3 0 rfl rfl (vp_in_nI (N := 11) (show i < 11 by omega) (by decide)) d_Mo_tailed_87 (fun H locs hP hD hS => ?_)
            rw [nI_clamp (by omega), nf_up] at hP hD
            have hP : va_P (dC, dI) vwCl [(m0, .inr (5, [.int th, .ref mu, .ref mz, .ref mb, .ref mr])), (mu, .inl (cI, 510, .inl (nf U))), (mz, .inl (cI, 2, .inl (nf Z))), (mr, .inl (cI, 11, .inl (nf (uN (fiN b 32 i) i 32))))] H := hP
            have hD : va_D A [(m0, .inr (5, [.int th, .ref mu, .ref mz, .ref mb, .ref mr])), (mu, .inl (cI, 510, .inl (nf U))), (mz, .inl (cI, 2, .inl (nf Z))), (mr, .inl (cI, 11, .inl (nf (uN (fiN b 32 i) i 32))))] := hD
            refine lv_iinc (v := nI (i + 1)) (lv' := [(6, .int (nI (i + 1))), (0, .ref m0), (1, .int (nI r)), (2, .int (nI t)), (3, .int (nI (Z r))), (4, .int (nI (laN (rv U r) (Z r - 1)))), (5, .int (nI (dgN t)))]) hx hb d_Mo_tailed_88 hl (k := 6) rfl (mk_i1 i) (by decide) rfl (fun ls hl => ?_)
            refine lv_goto (tgt := 72) hx hb d_Mo_tailed_91 (by decide) ?_
            have hl : lv_has ls 12 [(0, .ref m0), (1, .int (nI r)), (2, .int (nI t)), (3, .int (nI (Z r))), (4, .int (nI (laN (rv U r) (Z r - 1)))), (5, .int (nI (dgN t))), (6, .int (nI (i + 1)))] := lv_sub hl [1, 2, 3, 4, 5, 6, 0] rfl
            have hw9 : ([(m0, .inr (5, [.int th, .ref mu, .ref mz, .ref mb, .ref mr])), (mu, .inl (cI, 510, .inl (nf U))), (mz, .inl (cI, 2, .inl (nf Z))), (mr, .inl (cI, 11, .inl (nf (uN (fiN b 32 i) i 32))))] : va_W) = [(m0, .inr (5, [.int th, .ref mu, .ref mz, .ref mb, .ref mr])), (mu, .inl (cI, 510, .inl (nf U))), (mz, .inl (cI, 2, .inl (nf Z))), (mr, .inl (cI, 11, .inl (nf (fiN b 32 (i + 1)))))] := by rw [fiN_s]
            rw [hw9] at hP hD
            exact ih72 (i + 1) _ _ _ (by omega) hP hD hS hl
      have hl : lv_has ls 12 [(0, .ref m0), (1, .int (nI r)), (2, .int (nI t)), (3, .int (nI (Z r))), (4, .int (nI (laN (rv U r) (Z r - 1)))), (5, .int (nI (dgN t))), (6, .int (nI 0))] := lv_sub hl [1, 2, 3, 4, 5, 6, 0] rfl
      have hw9 : ([(m0, .inr (5, [.int th, .ref mu, .ref mz, .ref mb, .ref mr])), (mu, .inl (cI, 510, .inl (nf U))), (mz, .inl (cI, 2, .inl (nf Z))), (mr, .inl (cI, 11, .inl (nf b)))] : va_W) = [(m0, .inr (5, [.int th, .ref mu, .ref mz, .ref mb, .ref mr])), (mu, .inl (cI, 510, .inl (nf U))), (mz, .inl (cI, 2, .inl (nf Z))), (mr, .inl (cI, 11, .inl (nf (fiN b 32 0))))] := by rw [fiN_0]
      rw [hw9] at hP hD
      exact lp72 11 0 _ _ _ rfl hP hD hS hl
    refine lv_iload_n hx hb d_Mo_tailed_35 rfl (lv_at hl 2 rfl) ?_
    refine lv_sipush (v := nI 999) hx hb d_Mo_tailed_36 (by decide) ?_
    refine lv_icmp_le (tgt := 46) hx hb d_Mo_tailed_39 (by decide) (fun c_20 => ?_) (fun c_20 => ?_)
    · skip
      rw [nI_leI (by omega) (by omega)] at c_20
      refine lv_iload_n hx hb d_Mo_tailed_46 rfl (lv_at hl 2 rfl) ?_
      refine lv_bipush (v := nI 99) hx hb d_Mo_tailed_47 (by decide) ?_
      refine lv_icmp_le (tgt := 56) hx hb d_Mo_tailed_49 (by decide) (fun c_21 => ?_) (fun c_21 => ?_)
      · skip
        rw [nI_leI (by omega) (by omega)] at c_21
        refine lv_iload_n hx hb d_Mo_tailed_56 rfl (lv_at hl 2 rfl) ?_
        refine lv_bipush (v := nI 9) hx hb d_Mo_tailed_57 (by decide) ?_
        refine lv_icmp_le (tgt := 66) hx hb d_Mo_tailed_59 (by decide) (fun c_22 => ?_) (fun c_22 => ?_)
        · skip
          rw [nI_leI (by omega) (by omega)] at c_22
          refine lv_iconst (v := nI 1) hx hb d_Mo_tailed_66 (by decide) ?_
          refine lv_istore (lv' := [(5, .int (nI 1)), (0, .ref m0), (1, .int (nI r)), (2, .int (nI t)), (3, .int (nI (Z r))), (4, .int (nI (laN (rv U r) (Z r - 1))))]) hx hb d_Mo_tailed_67 hl (by decide) rfl (fun ls hl => ?_)
          have hl : lv_has ls 12 [(0, .ref m0), (1, .int (nI r)), (2, .int (nI t)), (3, .int (nI (Z r))), (4, .int (nI (laN (rv U r) (Z r - 1)))), (5, .int (nI 1))] := lv_sub hl [1, 2, 3, 4, 5, 0] rfl
          have hl9 : ([(0, .ref m0), (1, .int (nI r)), (2, .int (nI t)), (3, .int (nI (Z r))), (4, .int (nI (laN (rv U r) (Z r - 1)))), (5, .int (nI 1))] : List (Nat × Value)) = [(0, .ref m0), (1, .int (nI r)), (2, .int (nI t)), (3, .int (nI (Z r))), (4, .int (nI (laN (rv U r) (Z r - 1)))), (5, .int (nI (dgN t)))] := by rw [show dgN t = 1 from (by unfold dgN; (repeat' split) <;> omega)]
          rw [hl9] at hl
          exact jn69 _ _ _ hP hD hS hl
        · skip
          rw [nI_leI (by omega) (by omega)] at c_22
          refine lv_iconst (v := nI 2) hx hb d_Mo_tailed_62 (by decide) ?_
          refine lv_goto (tgt := 67) hx hb d_Mo_tailed_63 (by decide) ?_
          refine lv_istore (lv' := [(5, .int (nI 2)), (0, .ref m0), (1, .int (nI r)), (2, .int (nI t)), (3, .int (nI (Z r))), (4, .int (nI (laN (rv U r) (Z r - 1))))]) hx hb d_Mo_tailed_67 hl (by decide) rfl (fun ls hl => ?_)
          have hl : lv_has ls 12 [(0, .ref m0), (1, .int (nI r)), (2, .int (nI t)), (3, .int (nI (Z r))), (4, .int (nI (laN (rv U r) (Z r - 1)))), (5, .int (nI 2))] := lv_sub hl [1, 2, 3, 4, 5, 0] rfl
          have hl9 : ([(0, .ref m0), (1, .int (nI r)), (2, .int (nI t)), (3, .int (nI (Z r))), (4, .int (nI (laN (rv U r) (Z r - 1)))), (5, .int (nI 2))] : List (Nat × Value)) = [(0, .ref m0), (1, .int (nI r)), (2, .int (nI t)), (3, .int (nI (Z r))), (4, .int (nI (laN (rv U r) (Z r - 1)))), (5, .int (nI (dgN t)))] := by rw [show dgN t = 2 from (by unfold dgN; (repeat' split) <;> omega)]
          rw [hl9] at hl
          exact jn69 _ _ _ hP hD hS hl
      · skip
        rw [nI_leI (by omega) (by omega)] at c_21
        refine lv_iconst (v := nI 3) hx hb d_Mo_tailed_52 (by decide) ?_
        refine lv_goto (tgt := 67) hx hb d_Mo_tailed_53 (by decide) ?_
        refine lv_istore (lv' := [(5, .int (nI 3)), (0, .ref m0), (1, .int (nI r)), (2, .int (nI t)), (3, .int (nI (Z r))), (4, .int (nI (laN (rv U r) (Z r - 1))))]) hx hb d_Mo_tailed_67 hl (by decide) rfl (fun ls hl => ?_)
        have hl : lv_has ls 12 [(0, .ref m0), (1, .int (nI r)), (2, .int (nI t)), (3, .int (nI (Z r))), (4, .int (nI (laN (rv U r) (Z r - 1)))), (5, .int (nI 3))] := lv_sub hl [1, 2, 3, 4, 5, 0] rfl
        have hl9 : ([(0, .ref m0), (1, .int (nI r)), (2, .int (nI t)), (3, .int (nI (Z r))), (4, .int (nI (laN (rv U r) (Z r - 1)))), (5, .int (nI 3))] : List (Nat × Value)) = [(0, .ref m0), (1, .int (nI r)), (2, .int (nI t)), (3, .int (nI (Z r))), (4, .int (nI (laN (rv U r) (Z r - 1)))), (5, .int (nI (dgN t)))] := by rw [show dgN t = 3 from (by unfold dgN; (repeat' split) <;> omega)]
        rw [hl9] at hl
        exact jn69 _ _ _ hP hD hS hl
    · skip
      rw [nI_leI (by omega) (by omega)] at c_20
      refine lv_iconst (v := nI 4) hx hb d_Mo_tailed_42 (by decide) ?_
      refine lv_goto (tgt := 67) hx hb d_Mo_tailed_43 (by decide) ?_
      refine lv_istore (lv' := [(5, .int (nI 4)), (0, .ref m0), (1, .int (nI r)), (2, .int (nI t)), (3, .int (nI (Z r))), (4, .int (nI (laN (rv U r) (Z r - 1))))]) hx hb d_Mo_tailed_67 hl (by decide) rfl (fun ls hl => ?_)
      have hl : lv_has ls 12 [(0, .ref m0), (1, .int (nI r)), (2, .int (nI t)), (3, .int (nI (Z r))), (4, .int (nI (laN (rv U r) (Z r - 1)))), (5, .int (nI 4))] := lv_sub hl [1, 2, 3, 4, 5, 0] rfl
      have hl9 : ([(0, .ref m0), (1, .int (nI r)), (2, .int (nI t)), (3, .int (nI (Z r))), (4, .int (nI (laN (rv U r) (Z r - 1)))), (5, .int (nI 4))] : List (Nat × Value)) = [(0, .ref m0), (1, .int (nI r)), (2, .int (nI t)), (3, .int (nI (Z r))), (4, .int (nI (laN (rv U r) (Z r - 1)))), (5, .int (nI (dgN t)))] := by rw [show dgN t = 4 from (by unfold dgN; (repeat' split) <;> omega)]
      rw [hl9] at hl
      exact jn69 _ _ _ hP hD hS hl
  refine lv_iload_n hx hb d_Mo_tailed_7 rfl (lv_at hl 0 rfl) ?_
  refine lv_iconst (v := nI 1) hx hb d_Mo_tailed_8 (by decide) ?_
  refine lv_isub hx hb d_Mo_tailed_9 ?_
  refine mk_ti (y := nI (Z r - 1)) (pk_sub (by omega)) ?_
  refine lv_istore (lv' := [(4, .int (nI (Z r - 1))), (3, .int (nI (Z r))), (0, .ref m0), (1, .int (nI r)), (2, .int (nI t))]) hx hb d_Mo_tailed_10 hl (by decide) rfl (fun ls hl => ?_)
  have lp12 : ∀ (k : Nat)  (H : Heap) (locs : List Loc) (ls : Array Slot), (laN (rv U r) (Z r - 1) = laN (rv U r) k) → (k ≤ Z r - 1) → va_P (dC, dI) vwCl [(m0, .inr (5, [.int th, .ref mu, .ref mz, .ref mb, .ref mr])), (mu, .inl (cI, 510, .inl (nf U))), (mz, .inl (cI, 2, .inl (nf Z))), (mr, .inl (cI, 11, .inl (nf b)))] H → va_D A [(m0, .inr (5, [.int th, .ref mu, .ref mz, .ref mb, .ref mr])), (mu, .inl (cI, 510, .inl (nf U))), (mz, .inl (cI, 2, .inl (nf Z))), (mr, .inl (cI, 11, .inl (nf b)))] → va_S A s.heap H locs → lv_has ls 12 [(0, .ref m0), (1, .int (nI r)), (2, .int (nI t)), (3, .int (nI (Z r))), (4, .int (nI k))] → W p l e ({ frames := 2, cells := 0, slots := 0, locals := 40 } : Room) s m ([.ref m0, .int (nI r), .int (nI t)] : List Value).toArray below meth c H locs 0 0 Q (F0 m 12 ls []) := by
    intro k
    induction k with
    | zero =>
      intro H locs ls hla hk9 hP hD hS hl
      have hl : lv_has ls 12 [(0, .ref m0), (1, .int (nI r)), (2, .int (nI t)), (3, .int (nI (Z r))), (4, .int (nI 0))] := hl
      refine lv_iload hx hb d_Mo_tailed_12 (lv_at hl 4 rfl) ?_
      refine lv_if_le (tgt := 35) hx hb d_Mo_tailed_14 (by decide) (fun c_23 => ?_) (fun c_23 => ?_)
      · skip
        rw [mk_cle (by omega)] at c_23
        have hl : lv_has ls 12 [(0, .ref m0), (1, .int (nI r)), (2, .int (nI t)), (3, .int (nI (Z r))), (4, .int (nI 0))] := lv_sub hl [0, 1, 2, 3, 4] rfl
        have hl9 : ([(0, .ref m0), (1, .int (nI r)), (2, .int (nI t)), (3, .int (nI (Z r))), (4, .int (nI 0))] : List (Nat × Value)) = [(0, .ref m0), (1, .int (nI r)), (2, .int (nI t)), (3, .int (nI (Z r))), (4, .int (nI (laN (rv U r) (Z r - 1))))] := by rw [show laN (rv U r) (Z r - 1) = 0 from hla]
        rw [hl9] at hl
        exact jn35 _ _ _ hP hD hS hl
      · skip
        rw [mk_cle (by omega)] at c_23
        first | omega | contradiction
    | succ k ih12 =>
      intro H locs ls hla hk9 hP hD hS hl
      have hl : lv_has ls 12 [(0, .ref m0), (1, .int (nI r)), (2, .int (nI t)), (3, .int (nI (Z r))), (4, .int (nI (k + 1)))] := hl
      refine lv_iload hx hb d_Mo_tailed_12 (lv_at hl 4 rfl) ?_
      refine lv_if_le (tgt := 35) hx hb d_Mo_tailed_14 (by decide) (fun c_24 => ?_) (fun c_24 => ?_)
      · skip
        rw [mk_cle (by omega)] at c_24
        first | omega | contradiction
      · skip
        rw [mk_cle (by omega)] at c_24
        refine lv_aload_n hx hb d_Mo_tailed_17 rfl (lv_at hl 0 rfl) ?_
        refine lv_iload_n hx hb d_Mo_tailed_18 rfl (lv_at hl 1 rfl) ?_
        refine lv_iload hx hb d_Mo_tailed_19 (lv_at hl 4 rfl) ?_
        refine mk_r1 (W.runV (As := [.int (nI r), .int (nI (k + 1))]) (rest := []) S (c_Mo_at l dC dI cI m0 th mu mz mb mr U r (k + 1) (by first | assumption | omega) (by first | assumption | omega)) (gV 2 hts k_562 k_564 k_14 k_29 k_565 (by decide +kernel) ⟨Nat.le_of_ble_eq_true rfl, Nat.le_of_ble_eq_true rfl⟩) (mk_vR hP hK hT hS [0, 1] rfl (q0 := 0) (ci := 5) rfl rfl) rfl rfl hl.1 rfl (lv_room (Nat.le_of_ble_eq_true rfl)) d_Mo_tailed_21 ⟨Nat.zero_le _, Nat.zero_le _⟩) ?_
        have b_25 := (show rv U r (k + 1) < 65536 from rv_lt (show ∀ j9, U j9 < 65536 by assumption) (k + 1))
        refine lv_bipush (v := nI 46) hx hb d_Mo_tailed_24 (by decide) ?_
        refine lv_icmp_eq (tgt := 35) hx hb d_Mo_tailed_26 (by decide) (fun c_26 => ?_) (fun c_26 => ?_)
        · skip
          rw [nI_eq (by omega) (by omega)] at c_26
          have hl : lv_has ls 12 [(0, .ref m0), (1, .int (nI r)), (2, .int (nI t)), (3, .int (nI (Z r))), (4, .int (nI (k + 1)))] := lv_sub hl [0, 1, 2, 3, 4] rfl
          have hl9 : ([(0, .ref m0), (1, .int (nI r)), (2, .int (nI t)), (3, .int (nI (Z r))), (4, .int (nI (k + 1)))] : List (Nat × Value)) = [(0, .ref m0), (1, .int (nI r)), (2, .int (nI t)), (3, .int (nI (Z r))), (4, .int (nI (laN (rv U r) (Z r - 1))))] := by rw [show laN (rv U r) (Z r - 1) = k + 1 from hla.trans (by rw [laN, if_pos c_26])]
          rw [hl9] at hl
          exact jn35 _ _ _ hP hD hS hl
        · skip
          rw [nI_eq (by omega) (by omega)] at c_26
          refine lv_iinc (v := nI k) (lv' := [(4, .int (nI k)), (0, .ref m0), (1, .int (nI r)), (2, .int (nI t)), (3, .int (nI (Z r)))]) hx hb d_Mo_tailed_29 hl (k := 4) rfl (mk_im1 k) (by decide) rfl (fun ls hl => ?_)
          refine lv_goto (tgt := 12) hx hb d_Mo_tailed_32 (by decide) ?_
          have hl : lv_has ls 12 [(0, .ref m0), (1, .int (nI r)), (2, .int (nI t)), (3, .int (nI (Z r))), (4, .int (nI k))] := lv_sub hl [1, 2, 3, 4, 0] rfl
          exact ih12 _ _ _ (hla.trans (by rw [laN, if_neg c_26])) (by omega) hP hD hS hl
  have hl : lv_has ls 12 [(0, .ref m0), (1, .int (nI r)), (2, .int (nI t)), (3, .int (nI (Z r))), (4, .int (nI (Z r - 1)))] := lv_sub hl [2, 3, 4, 1, 0] rfl
  exact lp12 (Z r - 1) _ _ _ rfl (Nat.le_refl _) hP hD hS hl

