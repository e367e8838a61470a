set_option maxHeartbeats 1000000 in
set_option maxRecDepth 100000 in
theorem c_Mo_rpT (l : Launch) (dC : Nat → ClassId) (dI : Nat → Nat → Nat) (cI : ClassId) (m0 : Nat) (th : Int32) (mu mz mb mr : Nat) (U Z B : Nat → Nat) (r f p9 c5 : Nat) (hU : ∀ j, U j < 65536) (hZ : ∀ j, Z j ≤ 255) (hB6 : ∀ j, B j < 256) (hr : r < 2) (hf : f ≤ 992) (hp1 : 1 ≤ p9) (hp2 : p9 ≤ 20) (hp3 : 32 * p9 ≤ f) (hc : c5 ≤ 255) (hcp : c5 ≤ 13 * p9) (hn0 : ∀ t, t < c5 → mt B f t ≠ 0) (hcE : c5 = 13 * p9 ∨ (13 * (p9 - 1) < c5 ∧ c5 < 13 * p9)) (h0 : c5 < 13 * p9 → mt B f c5 = 0) (h6 : ∀ t, c5 < t → t < 13 * p9 → mt B f t = 65535) (hown9 : ∀ p8 b8, 1 ≤ p8 → p8 ≤ p9 → b8 < 28 → owB b8 = true → B (f - 32 * p8 + b8) = duN b8 p8 (if p8 = p9 then 1 else 0) (suN B f 11)) : mM l y_Mo_readParts w_Mo_readParts ({ frames := 2, cells := 0, slots := 0, locals := 45 } : Room) [.ref m0, .int (nI r), .int (nI f), .int (nI p9)] (dC, dI) vwCl [(cI, .int)] [(m0, .inr (5, [.int th, .ref mu, .ref mz, .ref mb, .ref mr])), (mu, .inl (cI, 510, .inl (nf U))), (mz, .inl (cI, 2, .inl (nf (uN Z r 0)))), (mb, .inl (cI, 1024, .inl (nf B)))] (some (.int (bI (nameN (mt B f) c5)))) [(m0, .inr (5, [.int th, .ref mu, .ref mz, .ref mb, .ref mr])), (mu, .inl (cI, 510, .inl (nf (stN U (mt B f) (255 * r) c5)))), (mz, .inl (cI, 2, .inl (nf (uN Z r c5)))), (mb, .inl (cI, 1024, .inl (nf B)))] := by
  have hB : ∀ j, B j < 65536 := fun j => Nat.lt_trans (hB6 j) (by decide)
  have hs9 := suN_lt B f 11
  refine mk_Mi (cc := b_Mo_readParts) (maxL := 10) (by decide) rfl (Nat.le_of_ble_eq_true rfl) (mk_nz _) ?_
  intro p e s m below meth c Q A ls S hP hK hT hS hl hD hA hret
  obtain ⟨hx, hb, hml, hown, hts⟩ := id S
  have hl : lv_has ls 10 [(0, .ref m0), (1, .int (nI r)), (2, .int (nI f)), (3, .int (nI p9))] := hl
  refine lv_aload_n hx hb d_Mo_readParts_0 rfl (lv_at hl 0 rfl) ?_
  refine lv_iload_n hx hb d_Mo_readParts_1 rfl (lv_at hl 2 rfl) ?_
  refine mk_r1 (W.runV (As := [.int (nI f)]) (rest := []) S (c_Mo_sumOf l dC dI cI m0 th mu mz mb mr B f (by first | assumption | omega) (by first | assumption | omega)) (gV 1 hts k_611 k_613 k_18 k_29 k_614 (by decide +kernel) ⟨Nat.le_of_ble_eq_true rfl, Nat.le_of_ble_eq_true rfl⟩) (mk_vR hP hK hT hS [0, 3] rfl (q0 := 0) (ci := 5) rfl rfl) rfl rfl hl.1 rfl (lv_room (Nat.le_of_ble_eq_true rfl)) d_Mo_readParts_2 ⟨Nat.zero_le _, Nat.zero_le _⟩) ?_
  have b_1 := suN_lt B f 11
  refine lv_istore (lv' := [(4, .int (nI (suN B f 11))), (0, .ref m0), (1, .int (nI r)), (2, .int (nI f)), (3, .int (nI p9))]) hx hb d_Mo_readParts_5 hl (by decide) rfl (fun ls hl => ?_)
  refine lv_iconst (v := nI 0) hx hb d_Mo_readParts_7 (by decide) ?_
  refine lv_istore (lv' := [(5, .int (nI 0)), (4, .int (nI (suN B f 11))), (0, .ref m0), (1, .int (nI r)), (2, .int (nI f)), (3, .int (nI p9))]) hx hb d_Mo_readParts_8 hl (by decide) rfl (fun ls hl => ?_)
  refine lv_iconst (v := nI 1) hx hb d_Mo_readParts_10 (by decide) ?_
  refine lv_istore (lv' := [(6, .int (nI 1)), (5, .int (nI 0)), (4, .int (nI (suN B f 11))), (0, .ref m0), (1, .int (nI r)), (2, .int (nI f)), (3, .int (nI p9))]) hx hb d_Mo_readParts_11 hl (by decide) rfl (fun ls hl => ?_)
  have lp13 : ∀ (k : Nat) (io : Nat) (H : Heap) (locs : List Loc) (ls : Array Slot), (io + k = p9) → va_P (dC, dI) vwCl [(m0, .inr (5, [.int th, .ref mu, .ref mz, .ref mb, .ref mr])), (mu, .inl (cI, 510, .inl (nf (stN U (mt B f) (255 * r) (min c5 (13 * io)))))), (mz, .inl (cI, 2, .inl (nf (uN Z r (min c5 (13 * io)))))), (mb, .inl (cI, 1024, .inl (nf B)))] H → va_D A [(m0, .inr (5, [.int th, .ref mu, .ref mz, .ref mb, .ref mr])), (mu, .inl (cI, 510, .inl (nf (stN U (mt B f) (255 * r) (min c5 (13 * io)))))), (mz, .inl (cI, 2, .inl (nf (uN Z r (min c5 (13 * io)))))), (mb, .inl (cI, 1024, .inl (nf B)))] → va_S A s.heap H locs → lv_has ls 10 [(0, .ref m0), (1, .int (nI r)), (2, .int (nI f)), (3, .int (nI p9)), (4, .int (nI (suN B f 11))), (5, .int (bI (decide (c5 < 13 * io)))), (6, .int (nI (io + 1)))] → W p l e ({ frames := 2, cells := 0, slots := 0, locals := 45 } : Room) s m ([.ref m0, .int (nI r), .int (nI f), .int (nI p9)] : List Value).toArray below meth c H locs 0 0 Q (F0 m 13 ls []) := by
    intro k
    induction k with
    | zero =>
      intro io H locs ls hi hP hD hS hl
      have hU1 : ∀ j, (stN U (mt B f) (255 * r) (min c5 (13 * io))) j < 65536 := stN_lt hU (fun j => mt_lt hB6 j)
      have hZ1 : ∀ j, (uN Z r (min c5 (13 * io))) j ≤ 255 := by
                intro j
                have := hZ j
                unfold uN
                split <;> omega
      refine lv_iload hx hb d_Mo_readParts_13 (lv_at hl 6 rfl) ?_
      refine lv_iload_n hx hb d_Mo_readParts_15 rfl (lv_at hl 3 rfl) ?_
      refine lv_icmp_gt (tgt := 259) hx hb d_Mo_readParts_16 (by decide) (fun c_2 => ?_) (fun c_2 => ?_)
      · skip
        rw [nI_ltI (by omega) (by omega)] at c_2
        refine lv_aload_n hx hb d_Mo_readParts_259 rfl (lv_at hl 0 rfl) ?_
        refine lv_iload_n hx hb d_Mo_readParts_260 rfl (lv_at hl 1 rfl) ?_
        refine mk_r1 (W.runV (As := [.int (nI r)]) (rest := []) S (c_Mo_name l dC dI cI m0 th mu mz mb mr (stN U (mt B f) (255 * r) (min c5 (13 * io))) (uN Z r (min c5 (13 * io))) r (by first | assumption | omega) (by first | assumption | omega) (by first | assumption | omega)) (gV 1 hts k_558 k_560 k_13 k_29 k_561 (by decide +kernel) ⟨Nat.le_of_ble_eq_true rfl, Nat.le_of_ble_eq_true rfl⟩) (mk_vR hP hK hT hS [0, 1, 2] rfl (q0 := 0) (ci := 5) rfl rfl) rfl rfl hl.1 rfl (lv_room (Nat.le_of_ble_eq_true rfl)) d_Mo_readParts_261 ⟨Nat.zero_le _, Nat.zero_le _⟩) ?_
        have hw9 : ([(m0, .inr (5, [.int th, .ref mu, .ref mz, .ref mb, .ref mr])), (mu, .inl (cI, 510, .inl (nf (stN U (mt B f) (255 * r) (min c5 (13 * io)))))), (mz, .inl (cI, 2, .inl (nf (uN Z r (min c5 (13 * io)))))), (mb, .inl (cI, 1024, .inl (nf B)))] : va_W) = [(m0, .inr (5, [.int th, .ref mu, .ref mz, .ref mb, .ref mr])), (mu, .inl (cI, 510, .inl (nf (stN U (mt B f) (255 * r) c5)))), (mz, .inl (cI, 2, .inl (nf (uN Z r c5)))), (mb, .inl (cI, 1024, .inl (nf B)))] := by rw [show min c5 (13 * io) = c5 by omega]
        rw [hw9] at hP hD
        exact mk_ti (by rw [nm_fin, show min c5 (13 * io) = c5 by omega]) (hret _ _ _ _ d_Mo_readParts_264 hP hD hS)
      · skip
        rw [nI_ltI (by omega) (by omega)] at c_2
        first | omega | contradiction
    | succ k ih13 =>
      intro io H locs ls hi hP hD hS hl
      refine lv_iload hx hb d_Mo_readParts_13 (lv_at hl 6 rfl) ?_
      refine lv_iload_n hx hb d_Mo_readParts_15 rfl (lv_at hl 3 rfl) ?_
      refine lv_icmp_gt (tgt := 259) hx hb d_Mo_readParts_16 (by decide) (fun c_3 => ?_) (fun c_3 => ?_)
      · skip
        rw [nI_ltI (by omega) (by omega)] at c_3
        first | omega | contradiction
      · skip
        rw [nI_ltI (by omega) (by omega)] at c_3
        refine lv_iload_n hx hb d_Mo_readParts_19 rfl (lv_at hl 2 rfl) ?_
        refine lv_bipush (v := nI 32) hx hb d_Mo_readParts_20 (by decide) ?_
        refine lv_iload hx hb d_Mo_readParts_22 (lv_at hl 6 rfl) ?_
        refine lv_imul hx hb d_Mo_readParts_24 ?_
        refine mk_ti (y := nI (32 * (io + 1))) (pk_mul 32 (io + 1)) ?_
        refine lv_isub hx hb d_Mo_readParts_25 ?_
        refine mk_ti (y := nI (f - (32 * (io + 1)))) (pk_sub (by omega)) ?_
        refine lv_istore (lv' := [(7, .int (nI (f - (32 * (io + 1))))), (0, .ref m0), (1, .int (nI r)), (2, .int (nI f)), (3, .int (nI p9)), (4, .int (nI (suN B f 11))), (5, .int (bI (decide (c5 < 13 * io)))), (6, .int (nI (io + 1)))]) hx hb d_Mo_readParts_26 hl (by decide) rfl (fun ls hl => ?_)
        refine lv_iconst (v := nI 0) hx hb d_Mo_readParts_28 (by decide) ?_
        refine lv_istore (lv' := [(8, .int (nI 0)), (7, .int (nI (f - (32 * (io + 1))))), (0, .ref m0), (1, .int (nI r)), (2, .int (nI f)), (3, .int (nI p9)), (4, .int (nI (suN B f 11))), (5, .int (bI (decide (c5 < 13 * io)))), (6, .int (nI (io + 1)))]) hx hb d_Mo_readParts_29 hl (by decide) rfl (fun ls hl => ?_)
        have lp31 : ∀ (k2 : Nat) (i2 : Nat) (H : Heap) (locs : List Loc) (ls : Array Slot), (i2 + k2 = 28) → va_P (dC, dI) vwCl [(m0, .inr (5, [.int th, .ref mu, .ref mz, .ref mb, .ref mr])), (mu, .inl (cI, 510, .inl (nf (stN U (mt B f) (255 * r) (min c5 (13 * io)))))), (mz, .inl (cI, 2, .inl (nf (uN Z r (min c5 (13 * io)))))), (mb, .inl (cI, 1024, .inl (nf B)))] H → va_D A [(m0, .inr (5, [.int th, .ref mu, .ref mz, .ref mb, .ref mr])), (mu, .inl (cI, 510, .inl (nf (stN U (mt B f) (255 * r) (min c5 (13 * io)))))), (mz, .inl (cI, 2, .inl (nf (uN Z r (min c5 (13 * io)))))), (mb, .inl (cI, 1024, .inl (nf B)))] → va_S A s.heap H locs → lv_has ls 10 [(0, .ref m0), (1, .int (nI r)), (2, .int (nI f)), (3, .int (nI p9)), (4, .int (nI (suN B f 11))), (5, .int (bI (decide (c5 < 13 * io)))), (6, .int (nI (io + 1))), (7, .int (nI (f - (32 * (io + 1))))), (8, .int (nI i2))] → W p l e ({ frames := 2, cells := 0, slots := 0, locals := 45 } : Room) s m ([.ref m0, .int (nI r), .int (nI f), .int (nI p9)] : List Value).toArray below meth c H locs 0 0 Q (F0 m 31 ls []) := by
          intro k2
          induction k2 with
          | zero =>
            intro i2 H locs ls hi2 hP hD hS hl
            refine lv_iload hx hb d_Mo_readParts_31 (lv_at hl 8 rfl) ?_
            refine lv_bipush (v := nI 28) hx hb d_Mo_readParts_33 (by decide) ?_
            refine lv_icmp_ge (tgt := 117) hx hb d_Mo_readParts_35 (by decide) (fun c_4 => ?_) (fun c_4 => ?_)
            · skip
              rw [nI_leI (by omega) (by omega)] at c_4
              refine lv_iconst (v := nI 0) hx hb d_Mo_readParts_117 (by decide) ?_
              refine lv_istore (lv' := [(8, .int (nI 0)), (0, .ref m0), (1, .int (nI r)), (2, .int (nI f)), (3, .int (nI p9)), (4, .int (nI (suN B f 11))), (5, .int (bI (decide (c5 < 13 * io)))), (6, .int (nI (io + 1))), (7, .int (nI (f - (32 * (io + 1)))))]) hx hb d_Mo_readParts_118 hl (by decide) rfl (fun ls hl => ?_)
              have lp120 : ∀ (k3 : Nat) (i3 : Nat) (H : Heap) (locs : List Loc) (ls : Array Slot), (i3 + k3 = 13) → va_P (dC, dI) vwCl [(m0, .inr (5, [.int th, .ref mu, .ref mz, .ref mb, .ref mr])), (mu, .inl (cI, 510, .inl (nf (stN U (mt B f) (255 * r) (min c5 (13 * io + i3)))))), (mz, .inl (cI, 2, .inl (nf (uN Z r (min c5 (13 * io + i3)))))), (mb, .inl (cI, 1024, .inl (nf B)))] H → va_D A [(m0, .inr (5, [.int th, .ref mu, .ref mz, .ref mb, .ref mr])), (mu, .inl (cI, 510, .inl (nf (stN U (mt B f) (255 * r) (min c5 (13 * io + i3)))))), (mz, .inl (cI, 2, .inl (nf (uN Z r (min c5 (13 * io + i3)))))), (mb, .inl (cI, 1024, .inl (nf B)))] → va_S A s.heap H locs → lv_has ls 10 [(0, .ref m0), (1, .int (nI r)), (2, .int (nI f)), (3, .int (nI p9)), (4, .int (nI (suN B f 11))), (5, .int (bI (decide (c5 < 13 * io + i3)))), (6, .int (nI (io + 1))), (7, .int (nI (f - (32 * (io + 1))))), (8, .int (nI i3))] → W p l e ({ frames := 2, cells := 0, slots := 0, locals := 45 } : Room) s m ([.ref m0, .int (nI r), .int (nI f), .int (nI p9)] : List Value).toArray below meth c H locs 0 0 Q (F0 m 120 ls []) := by
                intro k3
                induction k3 with
                | zero =>
                  intro i3 H locs ls hi3 hP hD hS hl
                  refine lv_iload hx hb d_Mo_readParts_120 (lv_at hl 8 rfl) ?_
                  refine lv_bipush (v := nI 13) hx hb d_Mo_readParts_122 (by decide) ?_
                  refine lv_icmp_ge (tgt := 240) hx hb d_Mo_readParts_124 (by decide) (fun c_5 => ?_) (fun c_5 => ?_)
                  · skip
                    rw [nI_leI (by omega) (by omega)] at c_5
                    refine lv_iload hx hb d_Mo_readParts_240 (lv_at hl 5 rfl) ?_
                    refine lv_if_eq (tgt := 253) hx hb d_Mo_readParts_242 (by decide) (fun c_6 => ?_) (fun c_6 => ?_)
                    · skip
                      have c_6 := bI_0 c_6
                      simp only [decide_eq_true_eq, decide_eq_false_iff_not] at c_6
                      refine lv_iinc (v := nI (io + 1 + 1)) (lv' := [(6, .int (nI (io + 1 + 1))), (0, .ref m0), (1, .int (nI r)), (2, .int (nI f)), (3, .int (nI p9)), (4, .int (nI (suN B f 11))), (5, .int (bI (decide (c5 < 13 * io + i3)))), (7, .int (nI (f - (32 * (io + 1))))), (8, .int (nI i3))]) hx hb d_Mo_readParts_253 hl (k := 6) rfl (mk_i1 (io + 1)) (by decide) rfl (fun ls hl => ?_)
                      refine lv_goto (tgt := 13) hx hb d_Mo_readParts_256 (by decide) ?_
                      have hl : lv_has ls 10 [(0, .ref m0), (1, .int (nI r)), (2, .int (nI f)), (3, .int (nI p9)), (4, .int (nI (suN B f 11))), (5, .int (bI (decide (c5 < 13 * io + i3)))), (6, .int (nI (io + 1 + 1)))] := lv_sub hl [1, 2, 3, 4, 5, 6, 0] rfl
                      have hl9 : ([(0, .ref m0), (1, .int (nI r)), (2, .int (nI f)), (3, .int (nI p9)), (4, .int (nI (suN B f 11))), (5, .int (bI (decide (c5 < 13 * io + i3)))), (6, .int (nI (io + 1 + 1)))] : List (Nat × Value)) = [(0, .ref m0), (1, .int (nI r)), (2, .int (nI f)), (3, .int (nI p9)), (4, .int (nI (suN B f 11))), (5, .int (bI (decide (c5 < 13 * (io + 1))))), (6, .int (nI ((io + 1) + 1)))] := by rw [show 13 * io + i3 = 13 * (io + 1) by omega]
                      rw [hl9] at hl
                      have hw9 : ([(m0, .inr (5, [.int th, .ref mu, .ref mz, .ref mb, .ref mr])), (mu, .inl (cI, 510, .inl (nf (stN U (mt B f) (255 * r) (min c5 (13 * io + i3)))))), (mz, .inl (cI, 2, .inl (nf (uN Z r (min c5 (13 * io + i3)))))), (mb, .inl (cI, 1024, .inl (nf B)))] : va_W) = [(m0, .inr (5, [.int th, .ref mu, .ref mz, .ref mb, .ref mr])), (mu, .inl (cI, 510, .inl (nf (stN U (mt B f) (255 * r) (min c5 (13 * (io + 1))))))), (mz, .inl (cI, 2, .inl (nf (uN Z r (min c5 (13 * (io + 1))))))), (mb, .inl (cI, 1024, .inl (nf B)))] := by rw [show 13 * io + i3 = 13 * (io + 1) by omega]
                      rw [hw9] at hP hD
                      exact ih13 (io + 1) _ _ _ (by omega) hP hD hS hl
                    · skip
                      have c_6 := bI_1 c_6
                      simp only [decide_eq_true_eq, decide_eq_false_iff_not] at c_6
                      refine lv_iload hx hb d_Mo_readParts_245 (lv_at hl 6 rfl) ?_
                      refine lv_iload_n hx hb d_Mo_readParts_247 rfl (lv_at hl 3 rfl) ?_
                      refine lv_icmp_ge (tgt := 253) hx hb d_Mo_readParts_248 (by decide) (fun c_7 => ?_) (fun c_7 => ?_)
                      · skip
                        rw [nI_leI (by omega) (by omega)] at c_7
                        refine lv_iinc (v := nI (io + 1 + 1)) (lv' := [(6, .int (nI (io + 1 + 1))), (0, .ref m0), (1, .int (nI r)), (2, .int (nI f)), (3, .int (nI p9)), (4, .int (nI (suN B f 11))), (5, .int (bI (decide (c5 < 13 * io + i3)))), (7, .int (nI (f - (32 * (io + 1))))), (8, .int (nI i3))]) hx hb d_Mo_readParts_253 hl (k := 6) rfl (mk_i1 (io + 1)) (by decide) rfl (fun ls hl => ?_)
                        refine lv_goto (tgt := 13) hx hb d_Mo_readParts_256 (by decide) ?_
                        have hl : lv_has ls 10 [(0, .ref m0), (1, .int (nI r)), (2, .int (nI f)), (3, .int (nI p9)), (4, .int (nI (suN B f 11))), (5, .int (bI (decide (c5 < 13 * io + i3)))), (6, .int (nI (io + 1 + 1)))] := lv_sub hl [1, 2, 3, 4, 5, 6, 0] rfl
                        have hl9 : ([(0, .ref m0), (1, .int (nI r)), (2, .int (nI f)), (3, .int (nI p9)), (4, .int (nI (suN B f 11))), (5, .int (bI (decide (c5 < 13 * io + i3)))), (6, .int (nI (io + 1 + 1)))] : List (Nat × Value)) = [(0, .ref m0), (1, .int (nI r)), (2, .int (nI f)), (3, .int (nI p9)), (4, .int (nI (suN B f 11))), (5, .int (bI (decide (c5 < 13 * (io + 1))))), (6, .int (nI ((io + 1) + 1)))] := by rw [show 13 * io + i3 = 13 * (io + 1) by omega]
                        rw [hl9] at hl
                        have hw9 : ([(m0, .inr (5, [.int th, .ref mu, .ref mz, .ref mb, .ref mr])), (mu, .inl (cI, 510, .inl (nf (stN U (mt B f) (255 * r) (min c5 (13 * io + i3)))))), (mz, .inl (cI, 2, .inl (nf (uN Z r (min c5 (13 * io + i3)))))), (mb, .inl (cI, 1024, .inl (nf B)))] : va_W) = [(m0, .inr (5, [.int th, .ref mu, .ref mz, .ref mb, .ref mr])), (mu, .inl (cI, 510, .inl (nf (stN U (mt B f) (255 * r) (min c5 (13 * (io + 1))))))), (mz, .inl (cI, 2, .inl (nf (uN Z r (min c5 (13 * (io + 1))))))), (mb, .inl (cI, 1024, .inl (nf B)))] := by rw [show 13 * io + i3 = 13 * (io + 1) by omega]
                        rw [hw9] at hP hD
                        exact ih13 (io + 1) _ _ _ (by omega) hP hD hS hl
                      · skip
                        rw [nI_leI (by omega) (by omega)] at c_7
                        first | omega | contradiction
                  · skip
                    rw [nI_leI (by omega) (by omega)] at c_5
                    first | omega | contradiction
                | succ k3 ih120 =>
                  intro i3 H locs ls hi3 hP hD hS hl
                  have hx1 : 13 * io + i3 < c5 → ¬ mt B f (13 * io + i3) = 0 := fun h9 => hn0 _ h9
                  have hx2 : 13 * io + i3 = c5 → mt B f (13 * io + i3) = 0 := fun h9 => by rw [h9]; exact h0 (by omega)
                  have hx3 : c5 < 13 * io + i3 → mt B f (13 * io + i3) = 65535 := fun h9 => h6 _ h9 (by omega)
                  have hm9 := mt_lt (f := f) hB6 (13 * io + i3)
                  refine lv_iload hx hb d_Mo_readParts_120 (lv_at hl 8 rfl) ?_
                  refine lv_bipush (v := nI 13) hx hb d_Mo_readParts_122 (by decide) ?_
                  refine lv_icmp_ge (tgt := 240) hx hb d_Mo_readParts_124 (by decide) (fun c_8 => ?_) (fun c_8 => ?_)
                  · skip
                    rw [nI_leI (by omega) (by omega)] at c_8
                    first | omega | contradiction
                  · skip
                    rw [nI_leI (by omega) (by omega)] at c_8
                    refine lv_aload_n hx hb d_Mo_readParts_127 rfl (lv_at hl 0 rfl) ?_
                    refine va_get (D := (dC, dI)) (ci := 5) (v := .ref mb) (C := "LongNamesModel") (T := F_Mo) (N := 5) hx hb hts (iw_Mo _) hown hK hP 0 rfl rfl 3 (by decide) (hts _ (List.mem_cons_of_mem _ k_525)) (fun _ h9 => h9) rfl d_Mo_readParts_128 ?_
                    refine lv_iload hx hb d_Mo_readParts_131 (lv_at hl 7 rfl) ?_
                    refine lv_iload hx hb d_Mo_readParts_133 (lv_at hl 8 rfl) ?_
                    refine mk_r1 (W.runS (As := [.int (nI i3)]) (rest := [.int (nI (f - (32 * (io + 1)))), .ref mb]) S (c_Mo_place l dC dI cI i3 (by first | assumption | omega)) (gS 1 hts k_618 k_619 k_29 k_620 (by decide +kernel) ⟨Nat.le_of_ble_eq_true rfl, Nat.le_of_ble_eq_true rfl⟩) (mk_sR hP hK hT hS [] rfl) rfl rfl hl.1 rfl (lv_room (Nat.le_of_ble_eq_true rfl)) d_Mo_readParts_135 ⟨Nat.zero_le _, Nat.zero_le _⟩) ?_
                    have b_9 := plN_le (show i3 < 13 by omega)
                    refine lv_iadd hx hb d_Mo_readParts_138 ?_
                    refine mk_ti (y := nI (f - (32 * (io + 1)) + plN i3)) (nI_add (f - (32 * (io + 1))) (plN i3)) ?_
                    refine va_iald hx hb hK hP 3 0 rfl rfl (vp_in_nI (N := 1024) (show f - (32 * (io + 1)) + plN i3 < 1024 by omega) (by decide)) d_Mo_readParts_139 ?_
                    refine mk_ti (y := nI (B (f - (32 * (io + 1)) + plN i3))) (by rw [nI_clamp (by omega)]; rfl) ?_
                    have b_10 := hB6 (f - (32 * (io + 1)) + plN i3)
                    refine lv_sipush (v := nI 256) hx hb d_Mo_readParts_140 (by decide) ?_
                    refine lv_aload_n hx hb d_Mo_readParts_143 rfl (lv_at hl 0 rfl) ?_
                    refine va_get (D := (dC, dI)) (ci := 5) (v := .ref mb) (C := "LongNamesModel") (T := F_Mo) (N := 5) hx hb hts (iw_Mo _) hown hK hP 0 rfl rfl 3 (by decide) (hts _ (List.mem_cons_of_mem _ k_525)) (fun _ h9 => h9) rfl d_Mo_readParts_144 ?_
                    refine lv_iload hx hb d_Mo_readParts_147 (lv_at hl 7 rfl) ?_
                    refine lv_iload hx hb d_Mo_readParts_149 (lv_at hl 8 rfl) ?_
                    refine mk_r1 (W.runS (As := [.int (nI i3)]) (rest := [.int (nI (f - (32 * (io + 1)))), .ref mb, .int (nI 256), .int (nI (B (f - (32 * (io + 1)) + plN i3)))]) S (c_Mo_place l dC dI cI i3 (by first | assumption | omega)) (gS 1 hts k_618 k_619 k_29 k_620 (by decide +kernel) ⟨Nat.le_of_ble_eq_true rfl, Nat.le_of_ble_eq_true rfl⟩) (mk_sR hP hK hT hS [] rfl) rfl rfl hl.1 rfl (lv_room (Nat.le_of_ble_eq_true rfl)) d_Mo_readParts_151 ⟨Nat.zero_le _, Nat.zero_le _⟩) ?_
                    have b_11 := plN_le (show i3 < 13 by omega)
                    refine lv_iadd hx hb d_Mo_readParts_154 ?_
                    refine mk_ti (y := nI (f - (32 * (io + 1)) + plN i3)) (nI_add (f - (32 * (io + 1))) (plN i3)) ?_
                    refine lv_iconst (v := nI 1) hx hb d_Mo_readParts_155 (by decide) ?_
                    refine lv_iadd hx hb d_Mo_readParts_156 ?_
                    refine mk_ti (y := nI (f - (32 * (io + 1)) + plN i3 + 1)) (nI_add (f - (32 * (io + 1)) + plN i3) 1) ?_
                    refine va_iald hx hb hK hP 3 0 rfl rfl (vp_in_nI (N := 1024) (show f - (32 * (io + 1)) + plN i3 + 1 < 1024 by omega) (by decide)) d_Mo_readParts_157 ?_
                    refine mk_ti (y := nI (B (f - (32 * (io + 1)) + plN i3 + 1))) (by rw [nI_clamp (by omega)]; rfl) ?_
                    have b_12 := hB6 (f - (32 * (io + 1)) + plN i3 + 1)
                    refine lv_imul hx hb d_Mo_readParts_158 ?_
                    refine mk_ti (y := nI (256 * (B (f - (32 * (io + 1)) + plN i3 + 1)))) (pk_mul 256 (B (f - (32 * (io + 1)) + plN i3 + 1))) ?_
                    refine lv_iadd hx hb d_Mo_readParts_159 ?_
                    refine mk_ti (y := nI (mt B f (13 * io + i3))) (by rw [nI_add]; congr 1; exact (mt_at (by omega)).symm) ?_
                    refine lv_istore (lv' := [(9, .int (nI (mt B f (13 * io + i3)))), (0, .ref m0), (1, .int (nI r)), (2, .int (nI f)), (3, .int (nI p9)), (4, .int (nI (suN B f 11))), (5, .int (bI (decide (c5 < 13 * io + i3)))), (6, .int (nI (io + 1))), (7, .int (nI (f - (32 * (io + 1))))), (8, .int (nI i3))]) hx hb d_Mo_readParts_160 hl (by decide) rfl (fun ls hl => ?_)
                    refine lv_iload hx hb d_Mo_readParts_162 (lv_at hl 6 rfl) ?_
                    refine lv_if_eq (tgt := 174) hx hb d_Mo_readParts_164 (by decide) (fun c_13 => ?_) (fun c_13 => ?_)
                    · skip
                      have c_13 := bI_0 c_13
                      simp only [decide_eq_true_eq, decide_eq_false_iff_not] at c_13
                      refine lv_iload hx hb d_Mo_readParts_174 (lv_at hl 0 rfl) ?_
                      refine lv_if_ne (tgt := 186) hx hb d_Mo_readParts_176 (by decide) (fun c_14 => ?_) (fun c_14 => ?_)
                      · skip
                        rw [mk_ceq (by omega)] at c_14
                        refine lv_iload hx hb d_Mo_readParts_186 (lv_at hl 6 rfl) ?_
                        refine lv_if_ne (tgt := 196) hx hb d_Mo_readParts_188 (by decide) (fun c_15 => ?_) (fun c_15 => ?_)
                        · skip
                          have c_15 := bI_1 c_15
                          simp only [decide_eq_true_eq, decide_eq_false_iff_not] at c_15
                          refine lv_iconst (v := nI 1) hx hb d_Mo_readParts_196 (by decide) ?_
                          refine lv_goto (tgt := 201) hx hb d_Mo_readParts_197 (by decide) ?_
                          refine lv_istore (lv' := [(5, .int (nI 1)), (9, .int (nI (mt B f (13 * io + i3)))), (0, .ref m0), (1, .int (nI r)), (2, .int (nI f)), (3, .int (nI p9)), (4, .int (nI (suN B f 11))), (6, .int (nI (io + 1))), (7, .int (nI (f - (32 * (io + 1))))), (8, .int (nI i3))]) hx hb d_Mo_readParts_201 hl (by decide) rfl (fun ls hl => ?_)
                          refine lv_iload hx hb d_Mo_readParts_203 (lv_at hl 0 rfl) ?_
                          refine lv_if_ne (tgt := 222) hx hb d_Mo_readParts_205 (by decide) (fun c_16 => ?_) (fun c_16 => ?_)
                          · skip
                            rw [mk_ceq (by omega)] at c_16
                            refine lv_iload hx hb d_Mo_readParts_222 (lv_at hl 0 rfl) ?_
                            refine lv_if_ne (tgt := 234) hx hb d_Mo_readParts_224 (by decide) (fun c_17 => ?_) (fun c_17 => ?_)
                            · skip
                              rw [mk_ceq (by omega)] at c_17
                              refine lv_iinc (v := nI (i3 + 1)) (lv' := [(8, .int (nI (i3 + 1))), (5, .int (nI 1)), (9, .int (nI (mt B f (13 * io + i3)))), (0, .ref m0), (1, .int (nI r)), (2, .int (nI f)), (3, .int (nI p9)), (4, .int (nI (suN B f 11))), (6, .int (nI (io + 1))), (7, .int (nI (f - (32 * (io + 1)))))]) hx hb d_Mo_readParts_234 hl (k := 9) rfl (mk_i1 i3) (by decide) rfl (fun ls hl => ?_)
                              refine lv_goto (tgt := 120) hx hb d_Mo_readParts_237 (by decide) ?_
                              have hl : lv_has ls 10 [(0, .ref m0), (1, .int (nI r)), (2, .int (nI f)), (3, .int (nI p9)), (4, .int (nI (suN B f 11))), (5, .int (nI 1)), (6, .int (nI (io + 1))), (7, .int (nI (f - (32 * (io + 1))))), (8, .int (nI (i3 + 1)))] := lv_sub hl [3, 4, 5, 6, 7, 1, 8, 9, 0] rfl
                              have hl9 : ([(0, .ref m0), (1, .int (nI r)), (2, .int (nI f)), (3, .int (nI p9)), (4, .int (nI (suN B f 11))), (5, .int (nI 1)), (6, .int (nI (io + 1))), (7, .int (nI (f - (32 * (io + 1))))), (8, .int (nI (i3 + 1)))] : List (Nat × Value)) = [(0, .ref m0), (1, .int (nI r)), (2, .int (nI f)), (3, .int (nI p9)), (4, .int (nI (suN B f 11))), (5, .int (bI (decide (c5 < 13 * io + (i3 + 1))))), (6, .int (nI (io + 1))), (7, .int (nI (f - (32 * (io + 1))))), (8, .int (nI (i3 + 1)))] := by rw [show decide (c5 < 13 * io + (i3 + 1)) = true from (by simp only [decide_eq_true_eq]; omega)]; rfl
                              rw [hl9] at hl
                              have hw9 : ([(m0, .inr (5, [.int th, .ref mu, .ref mz, .ref mb, .ref mr])), (mu, .inl (cI, 510, .inl (nf (stN U (mt B f) (255 * r) (min c5 (13 * io + i3)))))), (mz, .inl (cI, 2, .inl (nf (uN Z r (min c5 (13 * io + i3)))))), (mb, .inl (cI, 1024, .inl (nf B)))] : va_W) = [(m0, .inr (5, [.int th, .ref mu, .ref mz, .ref mb, .ref mr])), (mu, .inl (cI, 510, .inl (nf (stN U (mt B f) (255 * r) (min c5 (13 * io + (i3 + 1))))))), (mz, .inl (cI, 2, .inl (nf (uN Z r (min c5 (13 * io + (i3 + 1))))))), (mb, .inl (cI, 1024, .inl (nf B)))] := by rw [show min c5 (13 * io + (i3 + 1)) = min c5 (13 * io + i3) by omega]
                              rw [hw9] at hP hD
                              exact ih120 (i3 + 1) _ _ _ (by omega) hP hD hS hl
                            · skip
                              rw [mk_ceq (by omega)] at c_17
                              first | omega | contradiction
                          · skip
                            rw [mk_ceq (by omega)] at c_16
                            first | omega | contradiction
                        · skip
                          have c_15 := bI_0 c_15
                          simp only [decide_eq_true_eq, decide_eq_false_iff_not] at c_15
                          refine lv_iload hx hb d_Mo_readParts_191 (lv_at hl 0 rfl) ?_
                          refine lv_if_ne (tgt := 200) hx hb d_Mo_readParts_193 (by decide) (fun c_18 => ?_) (fun c_18 => ?_)
                          · skip
                            rw [mk_ceq (by omega)] at c_18
                            refine lv_iconst (v := nI 0) hx hb d_Mo_readParts_200 (by decide) ?_
                            refine lv_istore (lv' := [(5, .int (nI 0)), (9, .int (nI (mt B f (13 * io + i3)))), (0, .ref m0), (1, .int (nI r)), (2, .int (nI f)), (3, .int (nI p9)), (4, .int (nI (suN B f 11))), (6, .int (nI (io + 1))), (7, .int (nI (f - (32 * (io + 1))))), (8, .int (nI i3))]) hx hb d_Mo_readParts_201 hl (by decide) rfl (fun ls hl => ?_)
                            refine lv_iload hx hb d_Mo_readParts_203 (lv_at hl 0 rfl) ?_
                            refine lv_if_ne (tgt := 222) hx hb d_Mo_readParts_205 (by decide) (fun c_19 => ?_) (fun c_19 => ?_)
                            · skip
                              rw [mk_ceq (by omega)] at c_19
                              first | omega | contradiction
                            · skip
                              rw [mk_ceq (by omega)] at c_19
                              refine lv_aload_n hx hb d_Mo_readParts_208 rfl (lv_at hl 2 rfl) ?_
                              refine va_get (D := (dC, dI)) (ci := 5) (v := .ref mz) (C := "LongNamesModel") (T := F_Mo) (N := 5) hx hb hts (iw_Mo _) hown hK hP 0 rfl rfl 2 (by decide) (hts _ (List.mem_cons_of_mem _ k_524)) (fun _ h9 => h9) rfl d_Mo_readParts_209 ?_
                              refine lv_iload_n hx hb d_Mo_readParts_212 rfl (lv_at hl 3 rfl) ?_
                              refine va_iald hx hb hK hP 2 0 rfl rfl (vp_in_nI (N := 2) (show r < 2 by omega) (by decide)) d_Mo_readParts_213 ?_
                              refine mk_ti (y := nI (min c5 (13 * io + i3))) (by rw [nI_clamp (by omega)]; exact mk_uat) ?_
                              refine lv_sipush (v := nI 255) hx hb d_Mo_readParts_214 (by decide) ?_
                              refine lv_icmp_ne (tgt := 222) hx hb d_Mo_readParts_217 (by decide) (fun c_20 => ?_) (fun c_20 => ?_)
                              · skip
                                rw [nI_eq (by omega) (by omega)] at c_20
                                refine lv_iload hx hb d_Mo_readParts_222 (lv_at hl 0 rfl) ?_
                                refine lv_if_ne (tgt := 234) hx hb d_Mo_readParts_224 (by decide) (fun c_21 => ?_) (fun c_21 => ?_)
                                · skip
                                  rw [mk_ceq (by omega)] at c_21
                                  first | omega | contradiction
                                · skip
                                  rw [mk_ceq (by omega)] at c_21
                                  refine lv_aload_n hx hb d_Mo_readParts_227 rfl (lv_at hl 2 rfl) ?_
                                  refine lv_iload_n hx hb d_Mo_readParts_228 rfl (lv_at hl 3 rfl) ?_
                                  refine lv_iload hx hb d_Mo_readParts_229 (lv_at hl 1 rfl) ?_
                                  refine mk_w0 (wr := [(mb, .inl (cI, 1024, .inl (nf B)))]) (W.runV (As := [.int (nI r), .int (nI (mt B f (13 * io + i3)))]) (rest := []) S ((c_Mo_add l dC dI cI m0 th mu mz mb mr (stN U (mt B f) (255 * r) (min c5 (13 * io + i3))) Z r (min c5 (13 * io + i3)) (mt B f (13 * io + i3)) (by first | assumption | omega) (by first | assumption | omega)) _) (gV 2 hts k_633 k_635 k_21 k_29 k_636 (by decide +kernel) ⟨Nat.le_of_ble_eq_true rfl, Nat.le_of_ble_eq_true rfl⟩) (mk_vM hP hD hK hT hS hA [0, 1, 2] rfl rfl (by decide) (q0 := 0) (ci := 5) rfl rfl) rfl rfl hl.1 rfl (lv_room (Nat.le_of_ble_eq_true rfl)) d_Mo_readParts_231 ⟨Nat.zero_le _, Nat.zero_le _⟩) hP hD hS hA [0, 1, 2] [3] rfl rfl (by decide) (by decide) (fun H locs hP hD hS => ?_)
                                  have hP : va_P (dC, dI) vwCl [(m0, .inr (5, [.int th, .ref mu, .ref mz, .ref mb, .ref mr])), (mu, .inl (cI, 510, .inl (nf (uN (stN U (mt B f) (255 * r) (min c5 (13 * io + i3))) (255 * r + (min c5 (13 * io + i3))) (mt B f (13 * io + i3)))))), (mz, .inl (cI, 2, .inl (nf (uN Z r ((min c5 (13 * io + i3)) + 1))))), (mb, .inl (cI, 1024, .inl (nf B)))] H := hP.sub [1, 2, 3, 0] rfl
                                  have hD : va_D A [(m0, .inr (5, [.int th, .ref mu, .ref mz, .ref mb, .ref mr])), (mu, .inl (cI, 510, .inl (nf (uN (stN U (mt B f) (255 * r) (min c5 (13 * io + i3))) (255 * r + (min c5 (13 * io + i3))) (mt B f (13 * io + i3)))))), (mz, .inl (cI, 2, .inl (nf (uN Z r ((min c5 (13 * io + i3)) + 1))))), (mb, .inl (cI, 1024, .inl (nf B)))] := hD.sub [1, 2, 3, 0] (by decide) rfl
                                  refine lv_iinc (v := nI (i3 + 1)) (lv' := [(8, .int (nI (i3 + 1))), (5, .int (nI 0)), (9, .int (nI (mt B f (13 * io + i3)))), (0, .ref m0), (1, .int (nI r)), (2, .int (nI f)), (3, .int (nI p9)), (4, .int (nI (suN B f 11))), (6, .int (nI (io + 1))), (7, .int (nI (f - (32 * (io + 1)))))]) hx hb d_Mo_readParts_234 hl (k := 9) rfl (mk_i1 i3) (by decide) rfl (fun ls hl => ?_)
                                  refine lv_goto (tgt := 120) hx hb d_Mo_readParts_237 (by decide) ?_
                                  have hl : lv_has ls 10 [(0, .ref m0), (1, .int (nI r)), (2, .int (nI f)), (3, .int (nI p9)), (4, .int (nI (suN B f 11))), (5, .int (nI 0)), (6, .int (nI (io + 1))), (7, .int (nI (f - (32 * (io + 1))))), (8, .int (nI (i3 + 1)))] := lv_sub hl [3, 4, 5, 6, 7, 1, 8, 9, 0] rfl
                                  have hl9 : ([(0, .ref m0), (1, .int (nI r)), (2, .int (nI f)), (3, .int (nI p9)), (4, .int (nI (suN B f 11))), (5, .int (nI 0)), (6, .int (nI (io + 1))), (7, .int (nI (f - (32 * (io + 1))))), (8, .int (nI (i3 + 1)))] : List (Nat × Value)) = [(0, .ref m0), (1, .int (nI r)), (2, .int (nI f)), (3, .int (nI p9)), (4, .int (nI (suN B f 11))), (5, .int (bI (decide (c5 < 13 * io + (i3 + 1))))), (6, .int (nI (io + 1))), (7, .int (nI (f - (32 * (io + 1))))), (8, .int (nI (i3 + 1)))] := by rw [show decide (c5 < 13 * io + (i3 + 1)) = false from (by simp only [decide_eq_false_iff_not]; omega)]; rfl
                                  rw [hl9] at hl
                                  have hw9 : ([(m0, .inr (5, [.int th, .ref mu, .ref mz, .ref mb, .ref mr])), (mu, .inl (cI, 510, .inl (nf (uN (stN U (mt B f) (255 * r) (min c5 (13 * io + i3))) (255 * r + (min c5 (13 * io + i3))) (mt B f (13 * io + i3)))))), (mz, .inl (cI, 2, .inl (nf (uN Z r ((min c5 (13 * io + i3)) + 1))))), (mb, .inl (cI, 1024, .inl (nf B)))] : va_W) = [(m0, .inr (5, [.int th, .ref mu, .ref mz, .ref mb, .ref mr])), (mu, .inl (cI, 510, .inl (nf (stN U (mt B f) (255 * r) (min c5 (13 * io + (i3 + 1))))))), (mz, .inl (cI, 2, .inl (nf (uN Z r (min c5 (13 * io + (i3 + 1))))))), (mb, .inl (cI, 1024, .inl (nf B)))] := by rw [show min c5 (13 * io + i3) = 13 * io + i3 by omega, stN_s (by rfl), show min c5 (13 * io + (i3 + 1)) = 13 * io + i3 + 1 by omega]
                                  rw [hw9] at hP hD
                                  exact ih120 (i3 + 1) _ _ _ (by omega) hP hD hS hl
                              · skip
                                rw [nI_eq (by omega) (by omega)] at c_20
                                first | omega | contradiction
                          · skip
                            rw [mk_ceq (by omega)] at c_18
                            refine lv_iconst (v := nI 1) hx hb d_Mo_readParts_196 (by decide) ?_
                            refine lv_goto (tgt := 201) hx hb d_Mo_readParts_197 (by decide) ?_
                            refine lv_istore (lv' := [(5, .int (nI 1)), (9, .int (nI (mt B f (13 * io + i3)))), (0, .ref m0), (1, .int (nI r)), (2, .int (nI f)), (3, .int (nI p9)), (4, .int (nI (suN B f 11))), (6, .int (nI (io + 1))), (7, .int (nI (f - (32 * (io + 1))))), (8, .int (nI i3))]) hx hb d_Mo_readParts_201 hl (by decide) rfl (fun ls hl => ?_)
                            refine lv_iload hx hb d_Mo_readParts_203 (lv_at hl 0 rfl) ?_
                            refine lv_if_ne (tgt := 222) hx hb d_Mo_readParts_205 (by decide) (fun c_22 => ?_) (fun c_22 => ?_)
                            · skip
                              rw [mk_ceq (by omega)] at c_22
                              refine lv_iload hx hb d_Mo_readParts_222 (lv_at hl 0 rfl) ?_
                              refine lv_if_ne (tgt := 234) hx hb d_Mo_readParts_224 (by decide) (fun c_23 => ?_) (fun c_23 => ?_)
                              · skip
                                rw [mk_ceq (by omega)] at c_23
                                refine lv_iinc (v := nI (i3 + 1)) (lv' := [(8, .int (nI (i3 + 1))), (5, .int (nI 1)), (9, .int (nI (mt B f (13 * io + i3)))), (0, .ref m0), (1, .int (nI r)), (2, .int (nI f)), (3, .int (nI p9)), (4, .int (nI (suN B f 11))), (6, .int (nI (io + 1))), (7, .int (nI (f - (32 * (io + 1)))))]) hx hb d_Mo_readParts_234 hl (k := 9) rfl (mk_i1 i3) (by decide) rfl (fun ls hl => ?_)
                                refine lv_goto (tgt := 120) hx hb d_Mo_readParts_237 (by decide) ?_
                                have hl : lv_has ls 10 [(0, .ref m0), (1, .int (nI r)), (2, .int (nI f)), (3, .int (nI p9)), (4, .int (nI (suN B f 11))), (5, .int (nI 1)), (6, .int (nI (io + 1))), (7, .int (nI (f - (32 * (io + 1))))), (8, .int (nI (i3 + 1)))] := lv_sub hl [3, 4, 5, 6, 7, 1, 8, 9, 0] rfl
                                have hl9 : ([(0, .ref m0), (1, .int (nI r)), (2, .int (nI f)), (3, .int (nI p9)), (4, .int (nI (suN B f 11))), (5, .int (nI 1)), (6, .int (nI (io + 1))), (7, .int (nI (f - (32 * (io + 1))))), (8, .int (nI (i3 + 1)))] : List (Nat × Value)) = [(0, .ref m0), (1, .int (nI r)), (2, .int (nI f)), (3, .int (nI p9)), (4, .int (nI (suN B f 11))), (5, .int (bI (decide (c5 < 13 * io + (i3 + 1))))), (6, .int (nI (io + 1))), (7, .int (nI (f - (32 * (io + 1))))), (8, .int (nI (i3 + 1)))] := by rw [show decide (c5 < 13 * io + (i3 + 1)) = true from (by simp only [decide_eq_true_eq]; omega)]; rfl
                                rw [hl9] at hl
                                have hw9 : ([(m0, .inr (5, [.int th, .ref mu, .ref mz, .ref mb, .ref mr])), (mu, .inl (cI, 510, .inl (nf (stN U (mt B f) (255 * r) (min c5 (13 * io + i3)))))), (mz, .inl (cI, 2, .inl (nf (uN Z r (min c5 (13 * io + i3)))))), (mb, .inl (cI, 1024, .inl (nf B)))] : va_W) = [(m0, .inr (5, [.int th, .ref mu, .ref mz, .ref mb, .ref mr])), (mu, .inl (cI, 510, .inl (nf (stN U (mt B f) (255 * r) (min c5 (13 * io + (i3 + 1))))))), (mz, .inl (cI, 2, .inl (nf (uN Z r (min c5 (13 * io + (i3 + 1))))))), (mb, .inl (cI, 1024, .inl (nf B)))] := by rw [show min c5 (13 * io + (i3 + 1)) = min c5 (13 * io + i3) by omega]
                                rw [hw9] at hP hD
                                exact ih120 (i3 + 1) _ _ _ (by omega) hP hD hS hl
                              · skip
                                rw [mk_ceq (by omega)] at c_23
                                first | omega | contradiction
                            · skip
                              rw [mk_ceq (by omega)] at c_22
                              first | omega | contradiction
                      · skip
                        rw [mk_ceq (by omega)] at c_14
                        refine lv_iload hx hb d_Mo_readParts_179 (lv_at hl 9 rfl) ?_
                        refine lv_if_ne (tgt := 186) hx hb d_Mo_readParts_181 (by decide) (fun c_24 => ?_) (fun c_24 => ?_)
                        · skip
                          rw [mk_ceq (by omega)] at c_24
                          refine lv_iload hx hb d_Mo_readParts_186 (lv_at hl 6 rfl) ?_
                          refine lv_if_ne (tgt := 196) hx hb d_Mo_readParts_188 (by decide) (fun c_25 => ?_) (fun c_25 => ?_)
                          · skip
                            have c_25 := bI_1 c_25
                            simp only [decide_eq_true_eq, decide_eq_false_iff_not] at c_25
                            refine lv_iconst (v := nI 1) hx hb d_Mo_readParts_196 (by decide) ?_
                            refine lv_goto (tgt := 201) hx hb d_Mo_readParts_197 (by decide) ?_
                            refine lv_istore (lv' := [(5, .int (nI 1)), (9, .int (nI (mt B f (13 * io + i3)))), (0, .ref m0), (1, .int (nI r)), (2, .int (nI f)), (3, .int (nI p9)), (4, .int (nI (suN B f 11))), (6, .int (nI (io + 1))), (7, .int (nI (f - (32 * (io + 1))))), (8, .int (nI i3))]) hx hb d_Mo_readParts_201 hl (by decide) rfl (fun ls hl => ?_)
                            refine lv_iload hx hb d_Mo_readParts_203 (lv_at hl 0 rfl) ?_
                            refine lv_if_ne (tgt := 222) hx hb d_Mo_readParts_205 (by decide) (fun c_26 => ?_) (fun c_26 => ?_)
                            · skip
                              rw [mk_ceq (by omega)] at c_26
                              refine lv_iload hx hb d_Mo_readParts_222 (lv_at hl 0 rfl) ?_
                              refine lv_if_ne (tgt := 234) hx hb d_Mo_readParts_224 (by decide) (fun c_27 => ?_) (fun c_27 => ?_)
                              · skip
                                rw [mk_ceq (by omega)] at c_27
                                refine lv_iinc (v := nI (i3 + 1)) (lv' := [(8, .int (nI (i3 + 1))), (5, .int (nI 1)), (9, .int (nI (mt B f (13 * io + i3)))), (0, .ref m0), (1, .int (nI r)), (2, .int (nI f)), (3, .int (nI p9)), (4, .int (nI (suN B f 11))), (6, .int (nI (io + 1))), (7, .int (nI (f - (32 * (io + 1)))))]) hx hb d_Mo_readParts_234 hl (k := 9) rfl (mk_i1 i3) (by decide) rfl (fun ls hl => ?_)
                                refine lv_goto (tgt := 120) hx hb d_Mo_readParts_237 (by decide) ?_
                                have hl : lv_has ls 10 [(0, .ref m0), (1, .int (nI r)), (2, .int (nI f)), (3, .int (nI p9)), (4, .int (nI (suN B f 11))), (5, .int (nI 1)), (6, .int (nI (io + 1))), (7, .int (nI (f - (32 * (io + 1))))), (8, .int (nI (i3 + 1)))] := lv_sub hl [3, 4, 5, 6, 7, 1, 8, 9, 0] rfl
                                have hl9 : ([(0, .ref m0), (1, .int (nI r)), (2, .int (nI f)), (3, .int (nI p9)), (4, .int (nI (suN B f 11))), (5, .int (nI 1)), (6, .int (nI (io + 1))), (7, .int (nI (f - (32 * (io + 1))))), (8, .int (nI (i3 + 1)))] : List (Nat × Value)) = [(0, .ref m0), (1, .int (nI r)), (2, .int (nI f)), (3, .int (nI p9)), (4, .int (nI (suN B f 11))), (5, .int (bI (decide (c5 < 13 * io + (i3 + 1))))), (6, .int (nI (io + 1))), (7, .int (nI (f - (32 * (io + 1))))), (8, .int (nI (i3 + 1)))] := by rw [show decide (c5 < 13 * io + (i3 + 1)) = true from (by simp only [decide_eq_true_eq]; omega)]; rfl
                                rw [hl9] at hl
                                have hw9 : ([(m0, .inr (5, [.int th, .ref mu, .ref mz, .ref mb, .ref mr])), (mu, .inl (cI, 510, .inl (nf (stN U (mt B f) (255 * r) (min c5 (13 * io + i3)))))), (mz, .inl (cI, 2, .inl (nf (uN Z r (min c5 (13 * io + i3)))))), (mb, .inl (cI, 1024, .inl (nf B)))] : va_W) = [(m0, .inr (5, [.int th, .ref mu, .ref mz, .ref mb, .ref mr])), (mu, .inl (cI, 510, .inl (nf (stN U (mt B f) (255 * r) (min c5 (13 * io + (i3 + 1))))))), (mz, .inl (cI, 2, .inl (nf (uN Z r (min c5 (13 * io + (i3 + 1))))))), (mb, .inl (cI, 1024, .inl (nf B)))] := by rw [show min c5 (13 * io + (i3 + 1)) = min c5 (13 * io + i3) by omega]
                                rw [hw9] at hP hD
                                exact ih120 (i3 + 1) _ _ _ (by omega) hP hD hS hl
                              · skip
                                rw [mk_ceq (by omega)] at c_27
                                first | omega | contradiction
                            · skip
                              rw [mk_ceq (by omega)] at c_26
                              first | omega | contradiction
                          · skip
                            have c_25 := bI_0 c_25
                            simp only [decide_eq_true_eq, decide_eq_false_iff_not] at c_25
                            refine lv_iload hx hb d_Mo_readParts_191 (lv_at hl 0 rfl) ?_
                            refine lv_if_ne (tgt := 200) hx hb d_Mo_readParts_193 (by decide) (fun c_28 => ?_) (fun c_28 => ?_)
                            · skip
                              rw [mk_ceq (by omega)] at c_28
                              refine lv_iconst (v := nI 0) hx hb d_Mo_readParts_200 (by decide) ?_
                              refine lv_istore (lv' := [(5, .int (nI 0)), (9, .int (nI (mt B f (13 * io + i3)))), (0, .ref m0), (1, .int (nI r)), (2, .int (nI f)), (3, .int (nI p9)), (4, .int (nI (suN B f 11))), (6, .int (nI (io + 1))), (7, .int (nI (f - (32 * (io + 1))))), (8, .int (nI i3))]) hx hb d_Mo_readParts_201 hl (by decide) rfl (fun ls hl => ?_)
                              refine lv_iload hx hb d_Mo_readParts_203 (lv_at hl 0 rfl) ?_
                              refine lv_if_ne (tgt := 222) hx hb d_Mo_readParts_205 (by decide) (fun c_29 => ?_) (fun c_29 => ?_)
                              · skip
                                rw [mk_ceq (by omega)] at c_29
                                first | omega | contradiction
                              · skip
                                rw [mk_ceq (by omega)] at c_29
                                refine lv_aload_n hx hb d_Mo_readParts_208 rfl (lv_at hl 2 rfl) ?_
                                refine va_get (D := (dC, dI)) (ci := 5) (v := .ref mz) (C := "LongNamesModel") (T := F_Mo) (N := 5) hx hb hts (iw_Mo _) hown hK hP 0 rfl rfl 2 (by decide) (hts _ (List.mem_cons_of_mem _ k_524)) (fun _ h9 => h9) rfl d_Mo_readParts_209 ?_
                                refine lv_iload_n hx hb d_Mo_readParts_212 rfl (lv_at hl 3 rfl) ?_
                                refine va_iald hx hb hK hP 2 0 rfl rfl (vp_in_nI (N := 2) (show r < 2 by omega) (by decide)) d_Mo_readParts_213 ?_
                                refine mk_ti (y := nI (min c5 (13 * io + i3))) (by rw [nI_clamp (by omega)]; exact mk_uat) ?_
                                refine lv_sipush (v := nI 255) hx hb d_Mo_readParts_214 (by decide) ?_
                                refine lv_icmp_ne (tgt := 222) hx hb d_Mo_readParts_217 (by decide) (fun c_30 => ?_) (fun c_30 => ?_)
                                · skip
                                  rw [nI_eq (by omega) (by omega)] at c_30
                                  refine lv_iload hx hb d_Mo_readParts_222 (lv_at hl 0 rfl) ?_
                                  refine lv_if_ne (tgt := 234) hx hb d_Mo_readParts_224 (by decide) (fun c_31 => ?_) (fun c_31 => ?_)
                                  · skip
                                    rw [mk_ceq (by omega)] at c_31
                                    first | omega | contradiction
                                  · skip
                                    rw [mk_ceq (by omega)] at c_31
                                    refine lv_aload_n hx hb d_Mo_readParts_227 rfl (lv_at hl 2 rfl) ?_
                                    refine lv_iload_n hx hb d_Mo_readParts_228 rfl (lv_at hl 3 rfl) ?_
                                    refine lv_iload hx hb d_Mo_readParts_229 (lv_at hl 1 rfl) ?_
                                    refine mk_w0 (wr := [(mb, .inl (cI, 1024, .inl (nf B)))]) (W.runV (As := [.int (nI r), .int (nI (mt B f (13 * io + i3)))]) (rest := []) S ((c_Mo_add l dC dI cI m0 th mu mz mb mr (stN U (mt B f) (255 * r) (min c5 (13 * io + i3))) Z r (min c5 (13 * io + i3)) (mt B f (13 * io + i3)) (by first | assumption | omega) (by first | assumption | omega)) _) (gV 2 hts k_633 k_635 k_21 k_29 k_636 (by decide +kernel) ⟨Nat.le_of_ble_eq_true rfl, Nat.le_of_ble_eq_true rfl⟩) (mk_vM hP hD hK hT hS hA [0, 1, 2] rfl rfl (by decide) (q0 := 0) (ci := 5) rfl rfl) rfl rfl hl.1 rfl (lv_room (Nat.le_of_ble_eq_true rfl)) d_Mo_readParts_231 ⟨Nat.zero_le _, Nat.zero_le _⟩) hP hD hS hA [0, 1, 2] [3] rfl rfl (by decide) (by decide) (fun H locs hP hD hS => ?_)
                                    have hP : va_P (dC, dI) vwCl [(m0, .inr (5, [.int th, .ref mu, .ref mz, .ref mb, .ref mr])), (mu, .inl (cI, 510, .inl (nf (uN (stN U (mt B f) (255 * r) (min c5 (13 * io + i3))) (255 * r + (min c5 (13 * io + i3))) (mt B f (13 * io + i3)))))), (mz, .inl (cI, 2, .inl (nf (uN Z r ((min c5 (13 * io + i3)) + 1))))), (mb, .inl (cI, 1024, .inl (nf B)))] H := hP.sub [1, 2, 3, 0] rfl
                                    have hD : va_D A [(m0, .inr (5, [.int th, .ref mu, .ref mz, .ref mb, .ref mr])), (mu, .inl (cI, 510, .inl (nf (uN (stN U (mt B f) (255 * r) (min c5 (13 * io + i3))) (255 * r + (min c5 (13 * io + i3))) (mt B f (13 * io + i3)))))), (mz, .inl (cI, 2, .inl (nf (uN Z r ((min c5 (13 * io + i3)) + 1))))), (mb, .inl (cI, 1024, .inl (nf B)))] := hD.sub [1, 2, 3, 0] (by decide) rfl
                                    refine lv_iinc (v := nI (i3 + 1)) (lv' := [(8, .int (nI (i3 + 1))), (5, .int (nI 0)), (9, .int (nI (mt B f (13 * io + i3)))), (0, .ref m0), (1, .int (nI r)), (2, .int (nI f)), (3, .int (nI p9)), (4, .int (nI (suN B f 11))), (6, .int (nI (io + 1))), (7, .int (nI (f - (32 * (io + 1)))))]) hx hb d_Mo_readParts_234 hl (k := 9) rfl (mk_i1 i3) (by decide) rfl (fun ls hl => ?_)
                                    refine lv_goto (tgt := 120) hx hb d_Mo_readParts_237 (by decide) ?_
                                    have hl : lv_has ls 10 [(0, .ref m0), (1, .int (nI r)), (2, .int (nI f)), (3, .int (nI p9)), (4, .int (nI (suN B f 11))), (5, .int (nI 0)), (6, .int (nI (io + 1))), (7, .int (nI (f - (32 * (io + 1))))), (8, .int (nI (i3 + 1)))] := lv_sub hl [3, 4, 5, 6, 7, 1, 8, 9, 0] rfl
                                    have hl9 : ([(0, .ref m0), (1, .int (nI r)), (2, .int (nI f)), (3, .int (nI p9)), (4, .int (nI (suN B f 11))), (5, .int (nI 0)), (6, .int (nI (io + 1))), (7, .int (nI (f - (32 * (io + 1))))), (8, .int (nI (i3 + 1)))] : List (Nat × Value)) = [(0, .ref m0), (1, .int (nI r)), (2, .int (nI f)), (3, .int (nI p9)), (4, .int (nI (suN B f 11))), (5, .int (bI (decide (c5 < 13 * io + (i3 + 1))))), (6, .int (nI (io + 1))), (7, .int (nI (f - (32 * (io + 1))))), (8, .int (nI (i3 + 1)))] := by rw [show decide (c5 < 13 * io + (i3 + 1)) = false from (by simp only [decide_eq_false_iff_not]; omega)]; rfl
                                    rw [hl9] at hl
                                    have hw9 : ([(m0, .inr (5, [.int th, .ref mu, .ref mz, .ref mb, .ref mr])), (mu, .inl (cI, 510, .inl (nf (uN (stN U (mt B f) (255 * r) (min c5 (13 * io + i3))) (255 * r + (min c5 (13 * io + i3))) (mt B f (13 * io + i3)))))), (mz, .inl (cI, 2, .inl (nf (uN Z r ((min c5 (13 * io + i3)) + 1))))), (mb, .inl (cI, 1024, .inl (nf B)))] : va_W) = [(m0, .inr (5, [.int th, .ref mu, .ref mz, .ref mb, .ref mr])), (mu, .inl (cI, 510, .inl (nf (stN U (mt B f) (255 * r) (min c5 (13 * io + (i3 + 1))))))), (mz, .inl (cI, 2, .inl (nf (uN Z r (min c5 (13 * io + (i3 + 1))))))), (mb, .inl (cI, 1024, .inl (nf B)))] := by rw [show min c5 (13 * io + i3) = 13 * io + i3 by omega, stN_s (by rfl), show min c5 (13 * io + (i3 + 1)) = 13 * io + i3 + 1 by omega]
                                    rw [hw9] at hP hD
                                    exact ih120 (i3 + 1) _ _ _ (by omega) hP hD hS hl
                                · skip
                                  rw [nI_eq (by omega) (by omega)] at c_30
                                  first | omega | contradiction
                            · skip
                              rw [mk_ceq (by omega)] at c_28
                              refine lv_iconst (v := nI 1) hx hb d_Mo_readParts_196 (by decide) ?_
                              refine lv_goto (tgt := 201) hx hb d_Mo_readParts_197 (by decide) ?_
                              refine lv_istore (lv' := [(5, .int (nI 1)), (9, .int (nI (mt B f (13 * io + i3)))), (0, .ref m0), (1, .int (nI r)), (2, .int (nI f)), (3, .int (nI p9)), (4, .int (nI (suN B f 11))), (6, .int (nI (io + 1))), (7, .int (nI (f - (32 * (io + 1))))), (8, .int (nI i3))]) hx hb d_Mo_readParts_201 hl (by decide) rfl (fun ls hl => ?_)
                              refine lv_iload hx hb d_Mo_readParts_203 (lv_at hl 0 rfl) ?_
                              refine lv_if_ne (tgt := 222) hx hb d_Mo_readParts_205 (by decide) (fun c_32 => ?_) (fun c_32 => ?_)
                              · skip
                                rw [mk_ceq (by omega)] at c_32
                                refine lv_iload hx hb d_Mo_readParts_222 (lv_at hl 0 rfl) ?_
                                refine lv_if_ne (tgt := 234) hx hb d_Mo_readParts_224 (by decide) (fun c_33 => ?_) (fun c_33 => ?_)
                                · skip
                                  rw [mk_ceq (by omega)] at c_33
                                  refine lv_iinc (v := nI (i3 + 1)) (lv' := [(8, .int (nI (i3 + 1))), (5, .int (nI 1)), (9, .int (nI (mt B f (13 * io + i3)))), (0, .ref m0), (1, .int (nI r)), (2, .int (nI f)), (3, .int (nI p9)), (4, .int (nI (suN B f 11))), (6, .int (nI (io + 1))), (7, .int (nI (f - (32 * (io + 1)))))]) hx hb d_Mo_readParts_234 hl (k := 9) rfl (mk_i1 i3) (by decide) rfl (fun ls hl => ?_)
                                  refine lv_goto (tgt := 120) hx hb d_Mo_readParts_237 (by decide) ?_
                                  have hl : lv_has ls 10 [(0, .ref m0), (1, .int (nI r)), (2, .int (nI f)), (3, .int (nI p9)), (4, .int (nI (suN B f 11))), (5, .int (nI 1)), (6, .int (nI (io + 1))), (7, .int (nI (f - (32 * (io + 1))))), (8, .int (nI (i3 + 1)))] := lv_sub hl [3, 4, 5, 6, 7, 1, 8, 9, 0] rfl
                                  have hl9 : ([(0, .ref m0), (1, .int (nI r)), (2, .int (nI f)), (3, .int (nI p9)), (4, .int (nI (suN B f 11))), (5, .int (nI 1)), (6, .int (nI (io + 1))), (7, .int (nI (f - (32 * (io + 1))))), (8, .int (nI (i3 + 1)))] : List (Nat × Value)) = [(0, .ref m0), (1, .int (nI r)), (2, .int (nI f)), (3, .int (nI p9)), (4, .int (nI (suN B f 11))), (5, .int (bI (decide (c5 < 13 * io + (i3 + 1))))), (6, .int (nI (io + 1))), (7, .int (nI (f - (32 * (io + 1))))), (8, .int (nI (i3 + 1)))] := by rw [show decide (c5 < 13 * io + (i3 + 1)) = true from (by simp only [decide_eq_true_eq]; omega)]; rfl
                                  rw [hl9] at hl
                                  have hw9 : ([(m0, .inr (5, [.int th, .ref mu, .ref mz, .ref mb, .ref mr])), (mu, .inl (cI, 510, .inl (nf (stN U (mt B f) (255 * r) (min c5 (13 * io + i3)))))), (mz, .inl (cI, 2, .inl (nf (uN Z r (min c5 (13 * io + i3)))))), (mb, .inl (cI, 1024, .inl (nf B)))] : va_W) = [(m0, .inr (5, [.int th, .ref mu, .ref mz, .ref mb, .ref mr])), (mu, .inl (cI, 510, .inl (nf (stN U (mt B f) (255 * r) (min c5 (13 * io + (i3 + 1))))))), (mz, .inl (cI, 2, .inl (nf (uN Z r (min c5 (13 * io + (i3 + 1))))))), (mb, .inl (cI, 1024, .inl (nf B)))] := by rw [show min c5 (13 * io + (i3 + 1)) = min c5 (13 * io + i3) by omega]
                                  rw [hw9] at hP hD
                                  exact ih120 (i3 + 1) _ _ _ (by omega) hP hD hS hl
                                · skip
                                  rw [mk_ceq (by omega)] at c_33
                                  first | omega | contradiction
                              · skip
                                rw [mk_ceq (by omega)] at c_32
                                first | omega | contradiction
                        · skip
                          rw [mk_ceq (by omega)] at c_24
                          first | omega | contradiction
                    · skip
                      have c_13 := bI_1 c_13
                      simp only [decide_eq_true_eq, decide_eq_false_iff_not] at c_13
                      refine lv_iload hx hb d_Mo_readParts_167 (lv_at hl 0 rfl) ?_
                      refine lv_ldc (v := nI 65535) hx hb hown (hts _ (List.mem_cons_of_mem _ k_549)) d_Mo_readParts_169 ?_
                      refine lv_icmp_ne (tgt := 184) hx hb d_Mo_readParts_171 (by decide) (fun c_34 => ?_) (fun c_34 => ?_)
                      · skip
                        rw [nI_eq (by omega) (by omega)] at c_34
                        first | omega | contradiction
                      · skip
                        rw [nI_eq (by omega) (by omega)] at c_34
                        refine lv_iload hx hb d_Mo_readParts_174 (lv_at hl 0 rfl) ?_
                        refine lv_if_ne (tgt := 186) hx hb d_Mo_readParts_176 (by decide) (fun c_35 => ?_) (fun c_35 => ?_)
                        · skip
                          rw [mk_ceq (by omega)] at c_35
                          refine lv_iload hx hb d_Mo_readParts_186 (lv_at hl 6 rfl) ?_
                          refine lv_if_ne (tgt := 196) hx hb d_Mo_readParts_188 (by decide) (fun c_36 => ?_) (fun c_36 => ?_)
                          · skip
                            have c_36 := bI_1 c_36
                            simp only [decide_eq_true_eq, decide_eq_false_iff_not] at c_36
                            refine lv_iconst (v := nI 1) hx hb d_Mo_readParts_196 (by decide) ?_
                            refine lv_goto (tgt := 201) hx hb d_Mo_readParts_197 (by decide) ?_
                            refine lv_istore (lv' := [(5, .int (nI 1)), (9, .int (nI (mt B f (13 * io + i3)))), (0, .ref m0), (1, .int (nI r)), (2, .int (nI f)), (3, .int (nI p9)), (4, .int (nI (suN B f 11))), (6, .int (nI (io + 1))), (7, .int (nI (f - (32 * (io + 1))))), (8, .int (nI i3))]) hx hb d_Mo_readParts_201 hl (by decide) rfl (fun ls hl => ?_)
                            refine lv_iload hx hb d_Mo_readParts_203 (lv_at hl 0 rfl) ?_
                            refine lv_if_ne (tgt := 222) hx hb d_Mo_readParts_205 (by decide) (fun c_37 => ?_) (fun c_37 => ?_)
                            · skip
                              rw [mk_ceq (by omega)] at c_37
                              refine lv_iload hx hb d_Mo_readParts_222 (lv_at hl 0 rfl) ?_
                              refine lv_if_ne (tgt := 234) hx hb d_Mo_readParts_224 (by decide) (fun c_38 => ?_) (fun c_38 => ?_)
                              · skip
                                rw [mk_ceq (by omega)] at c_38
                                refine lv_iinc (v := nI (i3 + 1)) (lv' := [(8, .int (nI (i3 + 1))), (5, .int (nI 1)), (9, .int (nI (mt B f (13 * io + i3)))), (0, .ref m0), (1, .int (nI r)), (2, .int (nI f)), (3, .int (nI p9)), (4, .int (nI (suN B f 11))), (6, .int (nI (io + 1))), (7, .int (nI (f - (32 * (io + 1)))))]) hx hb d_Mo_readParts_234 hl (k := 9) rfl (mk_i1 i3) (by decide) rfl (fun ls hl => ?_)
                                refine lv_goto (tgt := 120) hx hb d_Mo_readParts_237 (by decide) ?_
                                have hl : lv_has ls 10 [(0, .ref m0), (1, .int (nI r)), (2, .int (nI f)), (3, .int (nI p9)), (4, .int (nI (suN B f 11))), (5, .int (nI 1)), (6, .int (nI (io + 1))), (7, .int (nI (f - (32 * (io + 1))))), (8, .int (nI (i3 + 1)))] := lv_sub hl [3, 4, 5, 6, 7, 1, 8, 9, 0] rfl
                                have hl9 : ([(0, .ref m0), (1, .int (nI r)), (2, .int (nI f)), (3, .int (nI p9)), (4, .int (nI (suN B f 11))), (5, .int (nI 1)), (6, .int (nI (io + 1))), (7, .int (nI (f - (32 * (io + 1))))), (8, .int (nI (i3 + 1)))] : List (Nat × Value)) = [(0, .ref m0), (1, .int (nI r)), (2, .int (nI f)), (3, .int (nI p9)), (4, .int (nI (suN B f 11))), (5, .int (bI (decide (c5 < 13 * io + (i3 + 1))))), (6, .int (nI (io + 1))), (7, .int (nI (f - (32 * (io + 1))))), (8, .int (nI (i3 + 1)))] := by rw [show decide (c5 < 13 * io + (i3 + 1)) = true from (by simp only [decide_eq_true_eq]; omega)]; rfl
                                rw [hl9] at hl
                                have hw9 : ([(m0, .inr (5, [.int th, .ref mu, .ref mz, .ref mb, .ref mr])), (mu, .inl (cI, 510, .inl (nf (stN U (mt B f) (255 * r) (min c5 (13 * io + i3)))))), (mz, .inl (cI, 2, .inl (nf (uN Z r (min c5 (13 * io + i3)))))), (mb, .inl (cI, 1024, .inl (nf B)))] : va_W) = [(m0, .inr (5, [.int th, .ref mu, .ref mz, .ref mb, .ref mr])), (mu, .inl (cI, 510, .inl (nf (stN U (mt B f) (255 * r) (min c5 (13 * io + (i3 + 1))))))), (mz, .inl (cI, 2, .inl (nf (uN Z r (min c5 (13 * io + (i3 + 1))))))), (mb, .inl (cI, 1024, .inl (nf B)))] := by rw [show min c5 (13 * io + (i3 + 1)) = min c5 (13 * io + i3) by omega]
                                rw [hw9] at hP hD
                                exact ih120 (i3 + 1) _ _ _ (by omega) hP hD hS hl
                              · skip
                                rw [mk_ceq (by omega)] at c_38
                                first | omega | contradiction
                            · skip
                              rw [mk_ceq (by omega)] at c_37
                              first | omega | contradiction
                          · skip
                            have c_36 := bI_0 c_36
                            simp only [decide_eq_true_eq, decide_eq_false_iff_not] at c_36
                            refine lv_iload hx hb d_Mo_readParts_191 (lv_at hl 0 rfl) ?_
                            refine lv_if_ne (tgt := 200) hx hb d_Mo_readParts_193 (by decide) (fun c_39 => ?_) (fun c_39 => ?_)
                            · skip
                              rw [mk_ceq (by omega)] at c_39
                              refine lv_iconst (v := nI 0) hx hb d_Mo_readParts_200 (by decide) ?_
                              refine lv_istore (lv' := [(5, .int (nI 0)), (9, .int (nI (mt B f (13 * io + i3)))), (0, .ref m0), (1, .int (nI r)), (2, .int (nI f)), (3, .int (nI p9)), (4, .int (nI (suN B f 11))), (6, .int (nI (io + 1))), (7, .int (nI (f - (32 * (io + 1))))), (8, .int (nI i3))]) hx hb d_Mo_readParts_201 hl (by decide) rfl (fun ls hl => ?_)
                              refine lv_iload hx hb d_Mo_readParts_203 (lv_at hl 0 rfl) ?_
                              refine lv_if_ne (tgt := 222) hx hb d_Mo_readParts_205 (by decide) (fun c_40 => ?_) (fun c_40 => ?_)
                              · skip
                                rw [mk_ceq (by omega)] at c_40
                                first | omega | contradiction
                              · skip
                                rw [mk_ceq (by omega)] at c_40
                                refine lv_aload_n hx hb d_Mo_readParts_208 rfl (lv_at hl 2 rfl) ?_
                                refine va_get (D := (dC, dI)) (ci := 5) (v := .ref mz) (C := "LongNamesModel") (T := F_Mo) (N := 5) hx hb hts (iw_Mo _) hown hK hP 0 rfl rfl 2 (by decide) (hts _ (List.mem_cons_of_mem _ k_524)) (fun _ h9 => h9) rfl d_Mo_readParts_209 ?_
                                refine lv_iload_n hx hb d_Mo_readParts_212 rfl (lv_at hl 3 rfl) ?_
                                refine va_iald hx hb hK hP 2 0 rfl rfl (vp_in_nI (N := 2) (show r < 2 by omega) (by decide)) d_Mo_readParts_213 ?_
                                refine mk_ti (y := nI (min c5 (13 * io + i3))) (by rw [nI_clamp (by omega)]; exact mk_uat) ?_
                                refine lv_sipush (v := nI 255) hx hb d_Mo_readParts_214 (by decide) ?_
                                refine lv_icmp_ne (tgt := 222) hx hb d_Mo_readParts_217 (by decide) (fun c_41 => ?_) (fun c_41 => ?_)
                                · skip
                                  rw [nI_eq (by omega) (by omega)] at c_41
                                  refine lv_iload hx hb d_Mo_readParts_222 (lv_at hl 0 rfl) ?_
                                  refine lv_if_ne (tgt := 234) hx hb d_Mo_readParts_224 (by decide) (fun c_42 => ?_) (fun c_42 => ?_)
                                  · skip
                                    rw [mk_ceq (by omega)] at c_42
                                    first | omega | contradiction
                                  · skip
                                    rw [mk_ceq (by omega)] at c_42
                                    refine lv_aload_n hx hb d_Mo_readParts_227 rfl (lv_at hl 2 rfl) ?_
                                    refine lv_iload_n hx hb d_Mo_readParts_228 rfl (lv_at hl 3 rfl) ?_
                                    refine lv_iload hx hb d_Mo_readParts_229 (lv_at hl 1 rfl) ?_
                                    refine mk_w0 (wr := [(mb, .inl (cI, 1024, .inl (nf B)))]) (W.runV (As := [.int (nI r), .int (nI (mt B f (13 * io + i3)))]) (rest := []) S ((c_Mo_add l dC dI cI m0 th mu mz mb mr (stN U (mt B f) (255 * r) (min c5 (13 * io + i3))) Z r (min c5 (13 * io + i3)) (mt B f (13 * io + i3)) (by first | assumption | omega) (by first | assumption | omega)) _) (gV 2 hts k_633 k_635 k_21 k_29 k_636 (by decide +kernel) ⟨Nat.le_of_ble_eq_true rfl, Nat.le_of_ble_eq_true rfl⟩) (mk_vM hP hD hK hT hS hA [0, 1, 2] rfl rfl (by decide) (q0 := 0) (ci := 5) rfl rfl) rfl rfl hl.1 rfl (lv_room (Nat.le_of_ble_eq_true rfl)) d_Mo_readParts_231 ⟨Nat.zero_le _, Nat.zero_le _⟩) hP hD hS hA [0, 1, 2] [3] rfl rfl (by decide) (by decide) (fun H locs hP hD hS => ?_)
                                    have hP : va_P (dC, dI) vwCl [(m0, .inr (5, [.int th, .ref mu, .ref mz, .ref mb, .ref mr])), (mu, .inl (cI, 510, .inl (nf (uN (stN U (mt B f) (255 * r) (min c5 (13 * io + i3))) (255 * r + (min c5 (13 * io + i3))) (mt B f (13 * io + i3)))))), (mz, .inl (cI, 2, .inl (nf (uN Z r ((min c5 (13 * io + i3)) + 1))))), (mb, .inl (cI, 1024, .inl (nf B)))] H := hP.sub [1, 2, 3, 0] rfl
                                    have hD : va_D A [(m0, .inr (5, [.int th, .ref mu, .ref mz, .ref mb, .ref mr])), (mu, .inl (cI, 510, .inl (nf (uN (stN U (mt B f) (255 * r) (min c5 (13 * io + i3))) (255 * r + (min c5 (13 * io + i3))) (mt B f (13 * io + i3)))))), (mz, .inl (cI, 2, .inl (nf (uN Z r ((min c5 (13 * io + i3)) + 1))))), (mb, .inl (cI, 1024, .inl (nf B)))] := hD.sub [1, 2, 3, 0] (by decide) rfl
                                    refine lv_iinc (v := nI (i3 + 1)) (lv' := [(8, .int (nI (i3 + 1))), (5, .int (nI 0)), (9, .int (nI (mt B f (13 * io + i3)))), (0, .ref m0), (1, .int (nI r)), (2, .int (nI f)), (3, .int (nI p9)), (4, .int (nI (suN B f 11))), (6, .int (nI (io + 1))), (7, .int (nI (f - (32 * (io + 1)))))]) hx hb d_Mo_readParts_234 hl (k := 9) rfl (mk_i1 i3) (by decide) rfl (fun ls hl => ?_)
                                    refine lv_goto (tgt := 120) hx hb d_Mo_readParts_237 (by decide) ?_
                                    have hl : lv_has ls 10 [(0, .ref m0), (1, .int (nI r)), (2, .int (nI f)), (3, .int (nI p9)), (4, .int (nI (suN B f 11))), (5, .int (nI 0)), (6, .int (nI (io + 1))), (7, .int (nI (f - (32 * (io + 1))))), (8, .int (nI (i3 + 1)))] := lv_sub hl [3, 4, 5, 6, 7, 1, 8, 9, 0] rfl
                                    have hl9 : ([(0, .ref m0), (1, .int (nI r)), (2, .int (nI f)), (3, .int (nI p9)), (4, .int (nI (suN B f 11))), (5, .int (nI 0)), (6, .int (nI (io + 1))), (7, .int (nI (f - (32 * (io + 1))))), (8, .int (nI (i3 + 1)))] : List (Nat × Value)) = [(0, .ref m0), (1, .int (nI r)), (2, .int (nI f)), (3, .int (nI p9)), (4, .int (nI (suN B f 11))), (5, .int (bI (decide (c5 < 13 * io + (i3 + 1))))), (6, .int (nI (io + 1))), (7, .int (nI (f - (32 * (io + 1))))), (8, .int (nI (i3 + 1)))] := by rw [show decide (c5 < 13 * io + (i3 + 1)) = false from (by simp only [decide_eq_false_iff_not]; omega)]; rfl
                                    rw [hl9] at hl
                                    have hw9 : ([(m0, .inr (5, [.int th, .ref mu, .ref mz, .ref mb, .ref mr])), (mu, .inl (cI, 510, .inl (nf (uN (stN U (mt B f) (255 * r) (min c5 (13 * io + i3))) (255 * r + (min c5 (13 * io + i3))) (mt B f (13 * io + i3)))))), (mz, .inl (cI, 2, .inl (nf (uN Z r ((min c5 (13 * io + i3)) + 1))))), (mb, .inl (cI, 1024, .inl (nf B)))] : va_W) = [(m0, .inr (5, [.int th, .ref mu, .ref mz, .ref mb, .ref mr])), (mu, .inl (cI, 510, .inl (nf (stN U (mt B f) (255 * r) (min c5 (13 * io + (i3 + 1))))))), (mz, .inl (cI, 2, .inl (nf (uN Z r (min c5 (13 * io + (i3 + 1))))))), (mb, .inl (cI, 1024, .inl (nf B)))] := by rw [show min c5 (13 * io + i3) = 13 * io + i3 by omega, stN_s (by rfl), show min c5 (13 * io + (i3 + 1)) = 13 * io + i3 + 1 by omega]
                                    rw [hw9] at hP hD
                                    exact ih120 (i3 + 1) _ _ _ (by omega) hP hD hS hl
                                · skip
                                  rw [nI_eq (by omega) (by omega)] at c_41
                                  first | omega | contradiction
                            · skip
                              rw [mk_ceq (by omega)] at c_39
                              refine lv_iconst (v := nI 1) hx hb d_Mo_readParts_196 (by decide) ?_
                              refine lv_goto (tgt := 201) hx hb d_Mo_readParts_197 (by decide) ?_
                              refine lv_istore (lv' := [(5, .int (nI 1)), (9, .int (nI (mt B f (13 * io + i3)))), (0, .ref m0), (1, .int (nI r)), (2, .int (nI f)), (3, .int (nI p9)), (4, .int (nI (suN B f 11))), (6, .int (nI (io + 1))), (7, .int (nI (f - (32 * (io + 1))))), (8, .int (nI i3))]) hx hb d_Mo_readParts_201 hl (by decide) rfl (fun ls hl => ?_)
                              refine lv_iload hx hb d_Mo_readParts_203 (lv_at hl 0 rfl) ?_
                              refine lv_if_ne (tgt := 222) hx hb d_Mo_readParts_205 (by decide) (fun c_43 => ?_) (fun c_43 => ?_)
                              · skip
                                rw [mk_ceq (by omega)] at c_43
                                refine lv_iload hx hb d_Mo_readParts_222 (lv_at hl 0 rfl) ?_
                                refine lv_if_ne (tgt := 234) hx hb d_Mo_readParts_224 (by decide) (fun c_44 => ?_) (fun c_44 => ?_)
                                · skip
                                  rw [mk_ceq (by omega)] at c_44
                                  refine lv_iinc (v := nI (i3 + 1)) (lv' := [(8, .int (nI (i3 + 1))), (5, .int (nI 1)), (9, .int (nI (mt B f (13 * io + i3)))), (0, .ref m0), (1, .int (nI r)), (2, .int (nI f)), (3, .int (nI p9)), (4, .int (nI (suN B f 11))), (6, .int (nI (io + 1))), (7, .int (nI (f - (32 * (io + 1)))))]) hx hb d_Mo_readParts_234 hl (k := 9) rfl (mk_i1 i3) (by decide) rfl (fun ls hl => ?_)
                                  refine lv_goto (tgt := 120) hx hb d_Mo_readParts_237 (by decide) ?_
                                  have hl : lv_has ls 10 [(0, .ref m0), (1, .int (nI r)), (2, .int (nI f)), (3, .int (nI p9)), (4, .int (nI (suN B f 11))), (5, .int (nI 1)), (6, .int (nI (io + 1))), (7, .int (nI (f - (32 * (io + 1))))), (8, .int (nI (i3 + 1)))] := lv_sub hl [3, 4, 5, 6, 7, 1, 8, 9, 0] rfl
                                  have hl9 : ([(0, .ref m0), (1, .int (nI r)), (2, .int (nI f)), (3, .int (nI p9)), (4, .int (nI (suN B f 11))), (5, .int (nI 1)), (6, .int (nI (io + 1))), (7, .int (nI (f - (32 * (io + 1))))), (8, .int (nI (i3 + 1)))] : List (Nat × Value)) = [(0, .ref m0), (1, .int (nI r)), (2, .int (nI f)), (3, .int (nI p9)), (4, .int (nI (suN B f 11))), (5, .int (bI (decide (c5 < 13 * io + (i3 + 1))))), (6, .int (nI (io + 1))), (7, .int (nI (f - (32 * (io + 1))))), (8, .int (nI (i3 + 1)))] := by rw [show decide (c5 < 13 * io + (i3 + 1)) = true from (by simp only [decide_eq_true_eq]; omega)]; rfl
                                  rw [hl9] at hl
                                  have hw9 : ([(m0, .inr (5, [.int th, .ref mu, .ref mz, .ref mb, .ref mr])), (mu, .inl (cI, 510, .inl (nf (stN U (mt B f) (255 * r) (min c5 (13 * io + i3)))))), (mz, .inl (cI, 2, .inl (nf (uN Z r (min c5 (13 * io + i3)))))), (mb, .inl (cI, 1024, .inl (nf B)))] : va_W) = [(m0, .inr (5, [.int th, .ref mu, .ref mz, .ref mb, .ref mr])), (mu, .inl (cI, 510, .inl (nf (stN U (mt B f) (255 * r) (min c5 (13 * io + (i3 + 1))))))), (mz, .inl (cI, 2, .inl (nf (uN Z r (min c5 (13 * io + (i3 + 1))))))), (mb, .inl (cI, 1024, .inl (nf B)))] := by rw [show min c5 (13 * io + (i3 + 1)) = min c5 (13 * io + i3) by omega]
                                  rw [hw9] at hP hD
                                  exact ih120 (i3 + 1) _ _ _ (by omega) hP hD hS hl
                                · skip
                                  rw [mk_ceq (by omega)] at c_44
                                  first | omega | contradiction
                              · skip
                                rw [mk_ceq (by omega)] at c_43
                                first | omega | contradiction
                        · skip
                          rw [mk_ceq (by omega)] at c_35
                          refine lv_iload hx hb d_Mo_readParts_179 (lv_at hl 9 rfl) ?_
                          refine lv_if_ne (tgt := 186) hx hb d_Mo_readParts_181 (by decide) (fun c_45 => ?_) (fun c_45 => ?_)
                          · skip
                            rw [mk_ceq (by omega)] at c_45
                            refine lv_iload hx hb d_Mo_readParts_186 (lv_at hl 6 rfl) ?_
                            refine lv_if_ne (tgt := 196) hx hb d_Mo_readParts_188 (by decide) (fun c_46 => ?_) (fun c_46 => ?_)
                            · skip
                              have c_46 := bI_1 c_46
                              simp only [decide_eq_true_eq, decide_eq_false_iff_not] at c_46
                              refine lv_iconst (v := nI 1) hx hb d_Mo_readParts_196 (by decide) ?_
                              refine lv_goto (tgt := 201) hx hb d_Mo_readParts_197 (by decide) ?_
                              refine lv_istore (lv' := [(5, .int (nI 1)), (9, .int (nI (mt B f (13 * io + i3)))), (0, .ref m0), (1, .int (nI r)), (2, .int (nI f)), (3, .int (nI p9)), (4, .int (nI (suN B f 11))), (6, .int (nI (io + 1))), (7, .int (nI (f - (32 * (io + 1))))), (8, .int (nI i3))]) hx hb d_Mo_readParts_201 hl (by decide) rfl (fun ls hl => ?_)
                              refine lv_iload hx hb d_Mo_readParts_203 (lv_at hl 0 rfl) ?_
                              refine lv_if_ne (tgt := 222) hx hb d_Mo_readParts_205 (by decide) (fun c_47 => ?_) (fun c_47 => ?_)
                              · skip
                                rw [mk_ceq (by omega)] at c_47
                                refine lv_iload hx hb d_Mo_readParts_222 (lv_at hl 0 rfl) ?_
                                refine lv_if_ne (tgt := 234) hx hb d_Mo_readParts_224 (by decide) (fun c_48 => ?_) (fun c_48 => ?_)
                                · skip
                                  rw [mk_ceq (by omega)] at c_48
                                  refine lv_iinc (v := nI (i3 + 1)) (lv' := [(8, .int (nI (i3 + 1))), (5, .int (nI 1)), (9, .int (nI (mt B f (13 * io + i3)))), (0, .ref m0), (1, .int (nI r)), (2, .int (nI f)), (3, .int (nI p9)), (4, .int (nI (suN B f 11))), (6, .int (nI (io + 1))), (7, .int (nI (f - (32 * (io + 1)))))]) hx hb d_Mo_readParts_234 hl (k := 9) rfl (mk_i1 i3) (by decide) rfl (fun ls hl => ?_)
                                  refine lv_goto (tgt := 120) hx hb d_Mo_readParts_237 (by decide) ?_
                                  have hl : lv_has ls 10 [(0, .ref m0), (1, .int (nI r)), (2, .int (nI f)), (3, .int (nI p9)), (4, .int (nI (suN B f 11))), (5, .int (nI 1)), (6, .int (nI (io + 1))), (7, .int (nI (f - (32 * (io + 1))))), (8, .int (nI (i3 + 1)))] := lv_sub hl [3, 4, 5, 6, 7, 1, 8, 9, 0] rfl
                                  have hl9 : ([(0, .ref m0), (1, .int (nI r)), (2, .int (nI f)), (3, .int (nI p9)), (4, .int (nI (suN B f 11))), (5, .int (nI 1)), (6, .int (nI (io + 1))), (7, .int (nI (f - (32 * (io + 1))))), (8, .int (nI (i3 + 1)))] : List (Nat × Value)) = [(0, .ref m0), (1, .int (nI r)), (2, .int (nI f)), (3, .int (nI p9)), (4, .int (nI (suN B f 11))), (5, .int (bI (decide (c5 < 13 * io + (i3 + 1))))), (6, .int (nI (io + 1))), (7, .int (nI (f - (32 * (io + 1))))), (8, .int (nI (i3 + 1)))] := by rw [show decide (c5 < 13 * io + (i3 + 1)) = true from (by simp only [decide_eq_true_eq]; omega)]; rfl
                                  rw [hl9] at hl
                                  have hw9 : ([(m0, .inr (5, [.int th, .ref mu, .ref mz, .ref mb, .ref mr])), (mu, .inl (cI, 510, .inl (nf (stN U (mt B f) (255 * r) (min c5 (13 * io + i3)))))), (mz, .inl (cI, 2, .inl (nf (uN Z r (min c5 (13 * io + i3)))))), (mb, .inl (cI, 1024, .inl (nf B)))] : va_W) = [(m0, .inr (5, [.int th, .ref mu, .ref mz, .ref mb, .ref mr])), (mu, .inl (cI, 510, .inl (nf (stN U (mt B f) (255 * r) (min c5 (13 * io + (i3 + 1))))))), (mz, .inl (cI, 2, .inl (nf (uN Z r (min c5 (13 * io + (i3 + 1))))))), (mb, .inl (cI, 1024, .inl (nf B)))] := by rw [show min c5 (13 * io + (i3 + 1)) = min c5 (13 * io + i3) by omega]
                                  rw [hw9] at hP hD
                                  exact ih120 (i3 + 1) _ _ _ (by omega) hP hD hS hl
                                · skip
                                  rw [mk_ceq (by omega)] at c_48
                                  first | omega | contradiction
                              · skip
                                rw [mk_ceq (by omega)] at c_47
                                first | omega | contradiction
                            · skip
                              have c_46 := bI_0 c_46
                              simp only [decide_eq_true_eq, decide_eq_false_iff_not] at c_46
                              refine lv_iload hx hb d_Mo_readParts_191 (lv_at hl 0 rfl) ?_
                              refine lv_if_ne (tgt := 200) hx hb d_Mo_readParts_193 (by decide) (fun c_49 => ?_) (fun c_49 => ?_)
                              · skip
                                rw [mk_ceq (by omega)] at c_49
                                refine lv_iconst (v := nI 0) hx hb d_Mo_readParts_200 (by decide) ?_
                                refine lv_istore (lv' := [(5, .int (nI 0)), (9, .int (nI (mt B f (13 * io + i3)))), (0, .ref m0), (1, .int (nI r)), (2, .int (nI f)), (3, .int (nI p9)), (4, .int (nI (suN B f 11))), (6, .int (nI (io + 1))), (7, .int (nI (f - (32 * (io + 1))))), (8, .int (nI i3))]) hx hb d_Mo_readParts_201 hl (by decide) rfl (fun ls hl => ?_)
                                refine lv_iload hx hb d_Mo_readParts_203 (lv_at hl 0 rfl) ?_
                                refine lv_if_ne (tgt := 222) hx hb d_Mo_readParts_205 (by decide) (fun c_50 => ?_) (fun c_50 => ?_)
                                · skip
                                  rw [mk_ceq (by omega)] at c_50
                                  first | omega | contradiction
                                · skip
                                  rw [mk_ceq (by omega)] at c_50
                                  refine lv_aload_n hx hb d_Mo_readParts_208 rfl (lv_at hl 2 rfl) ?_
                                  refine va_get (D := (dC, dI)) (ci := 5) (v := .ref mz) (C := "LongNamesModel") (T := F_Mo) (N := 5) hx hb hts (iw_Mo _) hown hK hP 0 rfl rfl 2 (by decide) (hts _ (List.mem_cons_of_mem _ k_524)) (fun _ h9 => h9) rfl d_Mo_readParts_209 ?_
                                  refine lv_iload_n hx hb d_Mo_readParts_212 rfl (lv_at hl 3 rfl) ?_
                                  refine va_iald hx hb hK hP 2 0 rfl rfl (vp_in_nI (N := 2) (show r < 2 by omega) (by decide)) d_Mo_readParts_213 ?_
                                  refine mk_ti (y := nI (min c5 (13 * io + i3))) (by rw [nI_clamp (by omega)]; exact mk_uat) ?_
                                  refine lv_sipush (v := nI 255) hx hb d_Mo_readParts_214 (by decide) ?_
                                  refine lv_icmp_ne (tgt := 222) hx hb d_Mo_readParts_217 (by decide) (fun c_51 => ?_) (fun c_51 => ?_)
                                  · skip
                                    rw [nI_eq (by omega) (by omega)] at c_51
                                    refine lv_iload hx hb d_Mo_readParts_222 (lv_at hl 0 rfl) ?_
                                    refine lv_if_ne (tgt := 234) hx hb d_Mo_readParts_224 (by decide) (fun c_52 => ?_) (fun c_52 => ?_)
                                    · skip
                                      rw [mk_ceq (by omega)] at c_52
                                      first | omega | contradiction
                                    · skip
                                      rw [mk_ceq (by omega)] at c_52
                                      refine lv_aload_n hx hb d_Mo_readParts_227 rfl (lv_at hl 2 rfl) ?_
                                      refine lv_iload_n hx hb d_Mo_readParts_228 rfl (lv_at hl 3 rfl) ?_
                                      refine lv_iload hx hb d_Mo_readParts_229 (lv_at hl 1 rfl) ?_
                                      refine mk_w0 (wr := [(mb, .inl (cI, 1024, .inl (nf B)))]) (W.runV (As := [.int (nI r), .int (nI (mt B f (13 * io + i3)))]) (rest := []) S ((c_Mo_add l dC dI cI m0 th mu mz mb mr (stN U (mt B f) (255 * r) (min c5 (13 * io + i3))) Z r (min c5 (13 * io + i3)) (mt B f (13 * io + i3)) (by first | assumption | omega) (by first | assumption | omega)) _) (gV 2 hts k_633 k_635 k_21 k_29 k_636 (by decide +kernel) ⟨Nat.le_of_ble_eq_true rfl, Nat.le_of_ble_eq_true rfl⟩) (mk_vM hP hD hK hT hS hA [0, 1, 2] rfl rfl (by decide) (q0 := 0) (ci := 5) rfl rfl) rfl rfl hl.1 rfl (lv_room (Nat.le_of_ble_eq_true rfl)) d_Mo_readParts_231 ⟨Nat.zero_le _, Nat.zero_le _⟩) hP hD hS hA [0, 1, 2] [3] rfl rfl (by decide) (by decide) (fun H locs hP hD hS => ?_)
                                      have hP : va_P (dC, dI) vwCl [(m0, .inr (5, [.int th, .ref mu, .ref mz, .ref mb, .ref mr])), (mu, .inl (cI, 510, .inl (nf (uN (stN U (mt B f) (255 * r) (min c5 (13 * io + i3))) (255 * r + (min c5 (13 * io + i3))) (mt B f (13 * io + i3)))))), (mz, .inl (cI, 2, .inl (nf (uN Z r ((min c5 (13 * io + i3)) + 1))))), (mb, .inl (cI, 1024, .inl (nf B)))] H := hP.sub [1, 2, 3, 0] rfl
                                      have hD : va_D A [(m0, .inr (5, [.int th, .ref mu, .ref mz, .ref mb, .ref mr])), (mu, .inl (cI, 510, .inl (nf (uN (stN U (mt B f) (255 * r) (min c5 (13 * io + i3))) (255 * r + (min c5 (13 * io + i3))) (mt B f (13 * io + i3)))))), (mz, .inl (cI, 2, .inl (nf (uN Z r ((min c5 (13 * io + i3)) + 1))))), (mb, .inl (cI, 1024, .inl (nf B)))] := hD.sub [1, 2, 3, 0] (by decide) rfl
                                      refine lv_iinc (v := nI (i3 + 1)) (lv' := [(8, .int (nI (i3 + 1))), (5, .int (nI 0)), (9, .int (nI (mt B f (13 * io + i3)))), (0, .ref m0), (1, .int (nI r)), (2, .int (nI f)), (3, .int (nI p9)), (4, .int (nI (suN B f 11))), (6, .int (nI (io + 1))), (7, .int (nI (f - (32 * (io + 1)))))]) hx hb d_Mo_readParts_234 hl (k := 9) rfl (mk_i1 i3) (by decide) rfl (fun ls hl => ?_)
                                      refine lv_goto (tgt := 120) hx hb d_Mo_readParts_237 (by decide) ?_
                                      have hl : lv_has ls 10 [(0, .ref m0), (1, .int (nI r)), (2, .int (nI f)), (3, .int (nI p9)), (4, .int (nI (suN B f 11))), (5, .int (nI 0)), (6, .int (nI (io + 1))), (7, .int (nI (f - (32 * (io + 1))))), (8, .int (nI (i3 + 1)))] := lv_sub hl [3, 4, 5, 6, 7, 1, 8, 9, 0] rfl
                                      have hl9 : ([(0, .ref m0), (1, .int (nI r)), (2, .int (nI f)), (3, .int (nI p9)), (4, .int (nI (suN B f 11))), (5, .int (nI 0)), (6, .int (nI (io + 1))), (7, .int (nI (f - (32 * (io + 1))))), (8, .int (nI (i3 + 1)))] : List (Nat × Value)) = [(0, .ref m0), (1, .int (nI r)), (2, .int (nI f)), (3, .int (nI p9)), (4, .int (nI (suN B f 11))), (5, .int (bI (decide (c5 < 13 * io + (i3 + 1))))), (6, .int (nI (io + 1))), (7, .int (nI (f - (32 * (io + 1))))), (8, .int (nI (i3 + 1)))] := by rw [show decide (c5 < 13 * io + (i3 + 1)) = false from (by simp only [decide_eq_false_iff_not]; omega)]; rfl
                                      rw [hl9] at hl
                                      have hw9 : ([(m0, .inr (5, [.int th, .ref mu, .ref mz, .ref mb, .ref mr])), (mu, .inl (cI, 510, .inl (nf (uN (stN U (mt B f) (255 * r) (min c5 (13 * io + i3))) (255 * r + (min c5 (13 * io + i3))) (mt B f (13 * io + i3)))))), (mz, .inl (cI, 2, .inl (nf (uN Z r ((min c5 (13 * io + i3)) + 1))))), (mb, .inl (cI, 1024, .inl (nf B)))] : va_W) = [(m0, .inr (5, [.int th, .ref mu, .ref mz, .ref mb, .ref mr])), (mu, .inl (cI, 510, .inl (nf (stN U (mt B f) (255 * r) (min c5 (13 * io + (i3 + 1))))))), (mz, .inl (cI, 2, .inl (nf (uN Z r (min c5 (13 * io + (i3 + 1))))))), (mb, .inl (cI, 1024, .inl (nf B)))] := by rw [show min c5 (13 * io + i3) = 13 * io + i3 by omega, stN_s (by rfl), show min c5 (13 * io + (i3 + 1)) = 13 * io + i3 + 1 by omega]
                                      rw [hw9] at hP hD
                                      exact ih120 (i3 + 1) _ _ _ (by omega) hP hD hS hl
                                  · skip
                                    rw [nI_eq (by omega) (by omega)] at c_51
                                    first | omega | contradiction
                              · skip
                                rw [mk_ceq (by omega)] at c_49
                                refine lv_iconst (v := nI 1) hx hb d_Mo_readParts_196 (by decide) ?_
                                refine lv_goto (tgt := 201) hx hb d_Mo_readParts_197 (by decide) ?_
                                refine lv_istore (lv' := [(5, .int (nI 1)), (9, .int (nI (mt B f (13 * io + i3)))), (0, .ref m0), (1, .int (nI r)), (2, .int (nI f)), (3, .int (nI p9)), (4, .int (nI (suN B f 11))), (6, .int (nI (io + 1))), (7, .int (nI (f - (32 * (io + 1))))), (8, .int (nI i3))]) hx hb d_Mo_readParts_201 hl (by decide) rfl (fun ls hl => ?_)
                                refine lv_iload hx hb d_Mo_readParts_203 (lv_at hl 0 rfl) ?_
                                refine lv_if_ne (tgt := 222) hx hb d_Mo_readParts_205 (by decide) (fun c_53 => ?_) (fun c_53 => ?_)
                                · skip
                                  rw [mk_ceq (by omega)] at c_53
                                  refine lv_iload hx hb d_Mo_readParts_222 (lv_at hl 0 rfl) ?_
                                  refine lv_if_ne (tgt := 234) hx hb d_Mo_readParts_224 (by decide) (fun c_54 => ?_) (fun c_54 => ?_)
                                  · skip
                                    rw [mk_ceq (by omega)] at c_54
                                    refine lv_iinc (v := nI (i3 + 1)) (lv' := [(8, .int (nI (i3 + 1))), (5, .int (nI 1)), (9, .int (nI (mt B f (13 * io + i3)))), (0, .ref m0), (1, .int (nI r)), (2, .int (nI f)), (3, .int (nI p9)), (4, .int (nI (suN B f 11))), (6, .int (nI (io + 1))), (7, .int (nI (f - (32 * (io + 1)))))]) hx hb d_Mo_readParts_234 hl (k := 9) rfl (mk_i1 i3) (by decide) rfl (fun ls hl => ?_)
                                    refine lv_goto (tgt := 120) hx hb d_Mo_readParts_237 (by decide) ?_
                                    have hl : lv_has ls 10 [(0, .ref m0), (1, .int (nI r)), (2, .int (nI f)), (3, .int (nI p9)), (4, .int (nI (suN B f 11))), (5, .int (nI 1)), (6, .int (nI (io + 1))), (7, .int (nI (f - (32 * (io + 1))))), (8, .int (nI (i3 + 1)))] := lv_sub hl [3, 4, 5, 6, 7, 1, 8, 9, 0] rfl
                                    have hl9 : ([(0, .ref m0), (1, .int (nI r)), (2, .int (nI f)), (3, .int (nI p9)), (4, .int (nI (suN B f 11))), (5, .int (nI 1)), (6, .int (nI (io + 1))), (7, .int (nI (f - (32 * (io + 1))))), (8, .int (nI (i3 + 1)))] : List (Nat × Value)) = [(0, .ref m0), (1, .int (nI r)), (2, .int (nI f)), (3, .int (nI p9)), (4, .int (nI (suN B f 11))), (5, .int (bI (decide (c5 < 13 * io + (i3 + 1))))), (6, .int (nI (io + 1))), (7, .int (nI (f - (32 * (io + 1))))), (8, .int (nI (i3 + 1)))] := by rw [show decide (c5 < 13 * io + (i3 + 1)) = true from (by simp only [decide_eq_true_eq]; omega)]; rfl
                                    rw [hl9] at hl
                                    have hw9 : ([(m0, .inr (5, [.int th, .ref mu, .ref mz, .ref mb, .ref mr])), (mu, .inl (cI, 510, .inl (nf (stN U (mt B f) (255 * r) (min c5 (13 * io + i3)))))), (mz, .inl (cI, 2, .inl (nf (uN Z r (min c5 (13 * io + i3)))))), (mb, .inl (cI, 1024, .inl (nf B)))] : va_W) = [(m0, .inr (5, [.int th, .ref mu, .ref mz, .ref mb, .ref mr])), (mu, .inl (cI, 510, .inl (nf (stN U (mt B f) (255 * r) (min c5 (13 * io + (i3 + 1))))))), (mz, .inl (cI, 2, .inl (nf (uN Z r (min c5 (13 * io + (i3 + 1))))))), (mb, .inl (cI, 1024, .inl (nf B)))] := by rw [show min c5 (13 * io + (i3 + 1)) = min c5 (13 * io + i3) by omega]
                                    rw [hw9] at hP hD
                                    exact ih120 (i3 + 1) _ _ _ (by omega) hP hD hS hl
                                  · skip
                                    rw [mk_ceq (by omega)] at c_54
                                    first | omega | contradiction
                                · skip
                                  rw [mk_ceq (by omega)] at c_53
                                  first | omega | contradiction
                          · skip
                            rw [mk_ceq (by omega)] at c_45
                            first | omega | contradiction
              have hl : lv_has ls 10 [(0, .ref m0), (1, .int (nI r)), (2, .int (nI f)), (3, .int (nI p9)), (4, .int (nI (suN B f 11))), (5, .int (bI (decide (c5 < 13 * io)))), (6, .int (nI (io + 1))), (7, .int (nI (f - (32 * (io + 1))))), (8, .int (nI 0))] := lv_sub hl [1, 2, 3, 4, 5, 6, 7, 8, 0] rfl
              have hl9 : ([(0, .ref m0), (1, .int (nI r)), (2, .int (nI f)), (3, .int (nI p9)), (4, .int (nI (suN B f 11))), (5, .int (bI (decide (c5 < 13 * io)))), (6, .int (nI (io + 1))), (7, .int (nI (f - (32 * (io + 1))))), (8, .int (nI 0))] : List (Nat × Value)) = [(0, .ref m0), (1, .int (nI r)), (2, .int (nI f)), (3, .int (nI p9)), (4, .int (nI (suN B f 11))), (5, .int (bI (decide (c5 < 13 * io + 0)))), (6, .int (nI (io + 1))), (7, .int (nI (f - (32 * (io + 1))))), (8, .int (nI 0))] := by rfl
              rw [hl9] at hl
              have hw9 : ([(m0, .inr (5, [.int th, .ref mu, .ref mz, .ref mb, .ref mr])), (mu, .inl (cI, 510, .inl (nf (stN U (mt B f) (255 * r) (min c5 (13 * io)))))), (mz, .inl (cI, 2, .inl (nf (uN Z r (min c5 (13 * io)))))), (mb, .inl (cI, 1024, .inl (nf B)))] : va_W) = [(m0, .inr (5, [.int th, .ref mu, .ref mz, .ref mb, .ref mr])), (mu, .inl (cI, 510, .inl (nf (stN U (mt B f) (255 * r) (min c5 (13 * io + 0)))))), (mz, .inl (cI, 2, .inl (nf (uN Z r (min c5 (13 * io + 0)))))), (mb, .inl (cI, 1024, .inl (nf B)))] := by rfl
              rw [hw9] at hP hD
              exact lp120 13 0 _ _ _ rfl hP hD hS hl
            · skip
              rw [nI_leI (by omega) (by omega)] at c_4
              first | omega | contradiction
          | succ k2 ih31 =>
            intro i2 H locs ls hi2 hP hD hS hl
            refine lv_iload hx hb d_Mo_readParts_31 (lv_at hl 8 rfl) ?_
            refine lv_bipush (v := nI 28) hx hb d_Mo_readParts_33 (by decide) ?_
            refine lv_icmp_ge (tgt := 117) hx hb d_Mo_readParts_35 (by decide) (fun c_55 => ?_) (fun c_55 => ?_)
            · skip
              rw [nI_leI (by omega) (by omega)] at c_55
              first | omega | contradiction
            · skip
              rw [nI_leI (by omega) (by omega)] at c_55
              refine lv_iload hx hb d_Mo_readParts_38 (lv_at hl 8 rfl) ?_
              refine lv_if_eq (tgt := 64) hx hb d_Mo_readParts_40 (by decide) (fun c_56 => ?_) (fun c_56 => ?_)
              · skip
                rw [mk_ceq (by omega)] at c_56
                refine lv_iconst (v := nI 1) hx hb d_Mo_readParts_64 (by decide) ?_
                refine lv_goto (tgt := 69) hx hb d_Mo_readParts_65 (by decide) ?_
                refine lv_istore (lv' := [(9, .int (nI 1)), (0, .ref m0), (1, .int (nI r)), (2, .int (nI f)), (3, .int (nI p9)), (4, .int (nI (suN B f 11))), (5, .int (bI (decide (c5 < 13 * io)))), (6, .int (nI (io + 1))), (7, .int (nI (f - (32 * (io + 1))))), (8, .int (nI i2))]) hx hb d_Mo_readParts_69 hl (by decide) rfl (fun ls hl => ?_)
                refine lv_iload hx hb d_Mo_readParts_71 (lv_at hl 0 rfl) ?_
                refine lv_if_eq (tgt := 111) hx hb d_Mo_readParts_73 (by decide) (fun c_57 => ?_) (fun c_57 => ?_)
                · skip
                  rw [mk_ceq (by omega)] at c_57
                  first | omega | contradiction
                · skip
                  rw [mk_ceq (by omega)] at c_57
                  refine lv_aload_n hx hb d_Mo_readParts_76 rfl (lv_at hl 1 rfl) ?_
                  refine va_get (D := (dC, dI)) (ci := 5) (v := .ref mb) (C := "LongNamesModel") (T := F_Mo) (N := 5) hx hb hts (iw_Mo _) hown hK hP 0 rfl rfl 3 (by decide) (hts _ (List.mem_cons_of_mem _ k_525)) (fun _ h9 => h9) rfl d_Mo_readParts_77 ?_
                  refine lv_iload hx hb d_Mo_readParts_80 (lv_at hl 8 rfl) ?_
                  refine lv_iload hx hb d_Mo_readParts_82 (lv_at hl 9 rfl) ?_
                  refine lv_iadd hx hb d_Mo_readParts_84 ?_
                  refine mk_ti (y := nI (f - (32 * (io + 1)) + i2)) (nI_add (f - (32 * (io + 1))) i2) ?_
                  refine va_iald hx hb hK hP 3 0 rfl rfl (vp_in_nI (N := 1024) (show f - (32 * (io + 1)) + i2 < 1024 by omega) (by decide)) d_Mo_readParts_85 ?_
                  refine mk_ti (y := nI (B (f - (32 * (io + 1)) + i2))) (by rw [nI_clamp (by omega)]; rfl) ?_
                  have b_58 := hB6 (f - (32 * (io + 1)) + i2)
                  refine lv_iload hx hb d_Mo_readParts_86 (lv_at hl 9 rfl) ?_
                  refine lv_iload hx hb d_Mo_readParts_88 (lv_at hl 7 rfl) ?_
                  refine lv_iload hx hb d_Mo_readParts_90 (lv_at hl 7 rfl) ?_
                  refine lv_iload_n hx hb d_Mo_readParts_92 rfl (lv_at hl 4 rfl) ?_
                  refine lv_icmp_ne (tgt := 100) hx hb d_Mo_readParts_93 (by decide) (fun c_59 => ?_) (fun c_59 => ?_)
                  · skip
                    rw [nI_eq (by omega) (by omega)] at c_59
                    refine lv_iconst (v := nI 0) hx hb d_Mo_readParts_100 (by decide) ?_
                    refine lv_iload hx hb d_Mo_readParts_101 (lv_at hl 5 rfl) ?_
                    refine mk_r1 (W.runS (As := [.int (nI i2), .int (nI (io + 1)), .int (nI 0), .int (nI (suN B f 11))]) (rest := [.int (nI (B (f - (32 * (io + 1)) + i2)))]) S (c_Mo_due l dC dI cI i2 (io + 1) 0 (suN B f 11) (by first | assumption | omega) (by first | assumption | omega)) (gS 4 hts k_615 k_616 k_29 k_617 (by decide +kernel) ⟨Nat.le_of_ble_eq_true rfl, Nat.le_of_ble_eq_true rfl⟩) (mk_sR hP hK hT hS [] rfl) rfl rfl hl.1 rfl (lv_room (Nat.le_of_ble_eq_true rfl)) d_Mo_readParts_103 ⟨Nat.zero_le _, Nat.zero_le _⟩) ?_
                    refine mk_ti (y := nI (duN i2 (io + 1) (if io + 1 = p9 then 1 else 0) (suN B f 11))) (by first | (exfalso; omega) | rw [if_pos (by omega)] | rw [if_neg (by omega)]) ?_
                    have hd9 : duN i2 (io + 1) (if io + 1 = p9 then 1 else 0) (suN B f 11) < 65536 := duN_lt (by omega) hs9
                    refine lv_icmp_eq (tgt := 111) hx hb d_Mo_readParts_106 (by decide) (fun c_60 => ?_) (fun c_60 => ?_)
                    · skip
                      rw [nI_eq (by omega) (by omega)] at c_60
                      refine lv_iinc (v := nI (i2 + 1)) (lv' := [(8, .int (nI (i2 + 1))), (9, .int (nI 1)), (0, .ref m0), (1, .int (nI r)), (2, .int (nI f)), (3, .int (nI p9)), (4, .int (nI (suN B f 11))), (5, .int (bI (decide (c5 < 13 * io)))), (6, .int (nI (io + 1))), (7, .int (nI (f - (32 * (io + 1)))))]) hx hb d_Mo_readParts_111 hl (k := 9) rfl (mk_i1 i2) (by decide) rfl (fun ls hl => ?_)
                      refine lv_goto (tgt := 31) hx hb d_Mo_readParts_114 (by decide) ?_
                      have hl : lv_has ls 10 [(0, .ref m0), (1, .int (nI r)), (2, .int (nI f)), (3, .int (nI p9)), (4, .int (nI (suN B f 11))), (5, .int (bI (decide (c5 < 13 * io)))), (6, .int (nI (io + 1))), (7, .int (nI (f - (32 * (io + 1))))), (8, .int (nI (i2 + 1)))] := lv_sub hl [2, 3, 4, 5, 6, 7, 8, 9, 0] rfl
                      exact ih31 (i2 + 1) _ _ _ (by omega) hP hD hS hl
                    · skip
                      rw [nI_eq (by omega) (by omega)] at c_60
                      exact absurd (hown9 (io + 1) i2 (by omega) (by omega) (by omega) (by simp only [owB, decide_eq_true_eq]; omega)) c_60
                  · skip
                    rw [nI_eq (by omega) (by omega)] at c_59
                    refine lv_iconst (v := nI 1) hx hb d_Mo_readParts_96 (by decide) ?_
                    refine lv_goto (tgt := 101) hx hb d_Mo_readParts_97 (by decide) ?_
                    refine lv_iload hx hb d_Mo_readParts_101 (lv_at hl 5 rfl) ?_
                    refine mk_r1 (W.runS (As := [.int (nI i2), .int (nI (io + 1)), .int (nI 1), .int (nI (suN B f 11))]) (rest := [.int (nI (B (f - (32 * (io + 1)) + i2)))]) S (c_Mo_due l dC dI cI i2 (io + 1) 1 (suN B f 11) (by first | assumption | omega) (by first | assumption | omega)) (gS 4 hts k_615 k_616 k_29 k_617 (by decide +kernel) ⟨Nat.le_of_ble_eq_true rfl, Nat.le_of_ble_eq_true rfl⟩) (mk_sR hP hK hT hS [] rfl) rfl rfl hl.1 rfl (lv_room (Nat.le_of_ble_eq_true rfl)) d_Mo_readParts_103 ⟨Nat.zero_le _, Nat.zero_le _⟩) ?_
                    refine mk_ti (y := nI (duN i2 (io + 1) (if io + 1 = p9 then 1 else 0) (suN B f 11))) (by first | (exfalso; omega) | rw [if_pos (by omega)] | rw [if_neg (by omega)]) ?_
                    have hd9 : duN i2 (io + 1) (if io + 1 = p9 then 1 else 0) (suN B f 11) < 65536 := duN_lt (by omega) hs9
                    refine lv_icmp_eq (tgt := 111) hx hb d_Mo_readParts_106 (by decide) (fun c_61 => ?_) (fun c_61 => ?_)
                    · skip
                      rw [nI_eq (by omega) (by omega)] at c_61
                      refine lv_iinc (v := nI (i2 + 1)) (lv' := [(8, .int (nI (i2 + 1))), (9, .int (nI 1)), (0, .ref m0), (1, .int (nI r)), (2, .int (nI f)), (3, .int (nI p9)), (4, .int (nI (suN B f 11))), (5, .int (bI (decide (c5 < 13 * io)))), (6, .int (nI (io + 1))), (7, .int (nI (f - (32 * (io + 1)))))]) hx hb d_Mo_readParts_111 hl (k := 9) rfl (mk_i1 i2) (by decide) rfl (fun ls hl => ?_)
                      refine lv_goto (tgt := 31) hx hb d_Mo_readParts_114 (by decide) ?_
                      have hl : lv_has ls 10 [(0, .ref m0), (1, .int (nI r)), (2, .int (nI f)), (3, .int (nI p9)), (4, .int (nI (suN B f 11))), (5, .int (bI (decide (c5 < 13 * io)))), (6, .int (nI (io + 1))), (7, .int (nI (f - (32 * (io + 1))))), (8, .int (nI (i2 + 1)))] := lv_sub hl [2, 3, 4, 5, 6, 7, 8, 9, 0] rfl
                      exact ih31 (i2 + 1) _ _ _ (by omega) hP hD hS hl
                    · skip
                      rw [nI_eq (by omega) (by omega)] at c_61
                      exact absurd (hown9 (io + 1) i2 (by omega) (by omega) (by omega) (by simp only [owB, decide_eq_true_eq]; omega)) c_61
              · skip
                rw [mk_ceq (by omega)] at c_56
                refine lv_iload hx hb d_Mo_readParts_43 (lv_at hl 8 rfl) ?_
                refine lv_bipush (v := nI 10) hx hb d_Mo_readParts_45 (by decide) ?_
                refine lv_icmp_le (tgt := 57) hx hb d_Mo_readParts_47 (by decide) (fun c_62 => ?_) (fun c_62 => ?_)
                · skip
                  rw [nI_leI (by omega) (by omega)] at c_62
                  refine lv_iload hx hb d_Mo_readParts_57 (lv_at hl 8 rfl) ?_
                  refine lv_bipush (v := nI 25) hx hb d_Mo_readParts_59 (by decide) ?_
                  refine lv_icmp_le (tgt := 68) hx hb d_Mo_readParts_61 (by decide) (fun c_63 => ?_) (fun c_63 => ?_)
                  · skip
                    rw [nI_leI (by omega) (by omega)] at c_63
                    refine lv_iconst (v := nI 0) hx hb d_Mo_readParts_68 (by decide) ?_
                    refine lv_istore (lv' := [(9, .int (nI 0)), (0, .ref m0), (1, .int (nI r)), (2, .int (nI f)), (3, .int (nI p9)), (4, .int (nI (suN B f 11))), (5, .int (bI (decide (c5 < 13 * io)))), (6, .int (nI (io + 1))), (7, .int (nI (f - (32 * (io + 1))))), (8, .int (nI i2))]) hx hb d_Mo_readParts_69 hl (by decide) rfl (fun ls hl => ?_)
                    refine lv_iload hx hb d_Mo_readParts_71 (lv_at hl 0 rfl) ?_
                    refine lv_if_eq (tgt := 111) hx hb d_Mo_readParts_73 (by decide) (fun c_64 => ?_) (fun c_64 => ?_)
                    · skip
                      rw [mk_ceq (by omega)] at c_64
                      refine lv_iinc (v := nI (i2 + 1)) (lv' := [(8, .int (nI (i2 + 1))), (9, .int (nI 0)), (0, .ref m0), (1, .int (nI r)), (2, .int (nI f)), (3, .int (nI p9)), (4, .int (nI (suN B f 11))), (5, .int (bI (decide (c5 < 13 * io)))), (6, .int (nI (io + 1))), (7, .int (nI (f - (32 * (io + 1)))))]) hx hb d_Mo_readParts_111 hl (k := 9) rfl (mk_i1 i2) (by decide) rfl (fun ls hl => ?_)
                      refine lv_goto (tgt := 31) hx hb d_Mo_readParts_114 (by decide) ?_
                      have hl : lv_has ls 10 [(0, .ref m0), (1, .int (nI r)), (2, .int (nI f)), (3, .int (nI p9)), (4, .int (nI (suN B f 11))), (5, .int (bI (decide (c5 < 13 * io)))), (6, .int (nI (io + 1))), (7, .int (nI (f - (32 * (io + 1))))), (8, .int (nI (i2 + 1)))] := lv_sub hl [2, 3, 4, 5, 6, 7, 8, 9, 0] rfl
                      exact ih31 (i2 + 1) _ _ _ (by omega) hP hD hS hl
                    · skip
                      rw [mk_ceq (by omega)] at c_64
                      first | omega | contradiction
                  · skip
                    rw [nI_leI (by omega) (by omega)] at c_63
                    refine lv_iconst (v := nI 1) hx hb d_Mo_readParts_64 (by decide) ?_
                    refine lv_goto (tgt := 69) hx hb d_Mo_readParts_65 (by decide) ?_
                    refine lv_istore (lv' := [(9, .int (nI 1)), (0, .ref m0), (1, .int (nI r)), (2, .int (nI f)), (3, .int (nI p9)), (4, .int (nI (suN B f 11))), (5, .int (bI (decide (c5 < 13 * io)))), (6, .int (nI (io + 1))), (7, .int (nI (f - (32 * (io + 1))))), (8, .int (nI i2))]) hx hb d_Mo_readParts_69 hl (by decide) rfl (fun ls hl => ?_)
                    refine lv_iload hx hb d_Mo_readParts_71 (lv_at hl 0 rfl) ?_
                    refine lv_if_eq (tgt := 111) hx hb d_Mo_readParts_73 (by decide) (fun c_65 => ?_) (fun c_65 => ?_)
                    · skip
                      rw [mk_ceq (by omega)] at c_65
                      first | omega | contradiction
                    · skip
                      rw [mk_ceq (by omega)] at c_65
                      refine lv_aload_n hx hb d_Mo_readParts_76 rfl (lv_at hl 1 rfl) ?_
                      refine va_get (D := (dC, dI)) (ci := 5) (v := .ref mb) (C := "LongNamesModel") (T := F_Mo) (N := 5) hx hb hts (iw_Mo _) hown hK hP 0 rfl rfl 3 (by decide) (hts _ (List.mem_cons_of_mem _ k_525)) (fun _ h9 => h9) rfl d_Mo_readParts_77 ?_
                      refine lv_iload hx hb d_Mo_readParts_80 (lv_at hl 8 rfl) ?_
                      refine lv_iload hx hb d_Mo_readParts_82 (lv_at hl 9 rfl) ?_
                      refine lv_iadd hx hb d_Mo_readParts_84 ?_
                      refine mk_ti (y := nI (f - (32 * (io + 1)) + i2)) (nI_add (f - (32 * (io + 1))) i2) ?_
                      refine va_iald hx hb hK hP 3 0 rfl rfl (vp_in_nI (N := 1024) (show f - (32 * (io + 1)) + i2 < 1024 by omega) (by decide)) d_Mo_readParts_85 ?_
                      refine mk_ti (y := nI (B (f - (32 * (io + 1)) + i2))) (by rw [nI_clamp (by omega)]; rfl) ?_
                      have b_66 := hB6 (f - (32 * (io + 1)) + i2)
                      refine lv_iload hx hb d_Mo_readParts_86 (lv_at hl 9 rfl) ?_
                      refine lv_iload hx hb d_Mo_readParts_88 (lv_at hl 7 rfl) ?_
                      refine lv_iload hx hb d_Mo_readParts_90 (lv_at hl 7 rfl) ?_
                      refine lv_iload_n hx hb d_Mo_readParts_92 rfl (lv_at hl 4 rfl) ?_
                      refine lv_icmp_ne (tgt := 100) hx hb d_Mo_readParts_93 (by decide) (fun c_67 => ?_) (fun c_67 => ?_)
                      · skip
                        rw [nI_eq (by omega) (by omega)] at c_67
                        refine lv_iconst (v := nI 0) hx hb d_Mo_readParts_100 (by decide) ?_
                        refine lv_iload hx hb d_Mo_readParts_101 (lv_at hl 5 rfl) ?_
                        refine mk_r1 (W.runS (As := [.int (nI i2), .int (nI (io + 1)), .int (nI 0), .int (nI (suN B f 11))]) (rest := [.int (nI (B (f - (32 * (io + 1)) + i2)))]) S (c_Mo_due l dC dI cI i2 (io + 1) 0 (suN B f 11) (by first | assumption | omega) (by first | assumption | omega)) (gS 4 hts k_615 k_616 k_29 k_617 (by decide +kernel) ⟨Nat.le_of_ble_eq_true rfl, Nat.le_of_ble_eq_true rfl⟩) (mk_sR hP hK hT hS [] rfl) rfl rfl hl.1 rfl (lv_room (Nat.le_of_ble_eq_true rfl)) d_Mo_readParts_103 ⟨Nat.zero_le _, Nat.zero_le _⟩) ?_
                        refine mk_ti (y := nI (duN i2 (io + 1) (if io + 1 = p9 then 1 else 0) (suN B f 11))) (by first | (exfalso; omega) | rw [if_pos (by omega)] | rw [if_neg (by omega)]) ?_
                        have hd9 : duN i2 (io + 1) (if io + 1 = p9 then 1 else 0) (suN B f 11) < 65536 := duN_lt (by omega) hs9
                        refine lv_icmp_eq (tgt := 111) hx hb d_Mo_readParts_106 (by decide) (fun c_68 => ?_) (fun c_68 => ?_)
                        · skip
                          rw [nI_eq (by omega) (by omega)] at c_68
                          refine lv_iinc (v := nI (i2 + 1)) (lv' := [(8, .int (nI (i2 + 1))), (9, .int (nI 1)), (0, .ref m0), (1, .int (nI r)), (2, .int (nI f)), (3, .int (nI p9)), (4, .int (nI (suN B f 11))), (5, .int (bI (decide (c5 < 13 * io)))), (6, .int (nI (io + 1))), (7, .int (nI (f - (32 * (io + 1)))))]) hx hb d_Mo_readParts_111 hl (k := 9) rfl (mk_i1 i2) (by decide) rfl (fun ls hl => ?_)
                          refine lv_goto (tgt := 31) hx hb d_Mo_readParts_114 (by decide) ?_
                          have hl : lv_has ls 10 [(0, .ref m0), (1, .int (nI r)), (2, .int (nI f)), (3, .int (nI p9)), (4, .int (nI (suN B f 11))), (5, .int (bI (decide (c5 < 13 * io)))), (6, .int (nI (io + 1))), (7, .int (nI (f - (32 * (io + 1))))), (8, .int (nI (i2 + 1)))] := lv_sub hl [2, 3, 4, 5, 6, 7, 8, 9, 0] rfl
                          exact ih31 (i2 + 1) _ _ _ (by omega) hP hD hS hl
                        · skip
                          rw [nI_eq (by omega) (by omega)] at c_68
                          exact absurd (hown9 (io + 1) i2 (by omega) (by omega) (by omega) (by simp only [owB, decide_eq_true_eq]; omega)) c_68
                      · skip
                        rw [nI_eq (by omega) (by omega)] at c_67
                        refine lv_iconst (v := nI 1) hx hb d_Mo_readParts_96 (by decide) ?_
                        refine lv_goto (tgt := 101) hx hb d_Mo_readParts_97 (by decide) ?_
                        refine lv_iload hx hb d_Mo_readParts_101 (lv_at hl 5 rfl) ?_
                        refine mk_r1 (W.runS (As := [.int (nI i2), .int (nI (io + 1)), .int (nI 1), .int (nI (suN B f 11))]) (rest := [.int (nI (B (f - (32 * (io + 1)) + i2)))]) S (c_Mo_due l dC dI cI i2 (io + 1) 1 (suN B f 11) (by first | assumption | omega) (by first | assumption | omega)) (gS 4 hts k_615 k_616 k_29 k_617 (by decide +kernel) ⟨Nat.le_of_ble_eq_true rfl, Nat.le_of_ble_eq_true rfl⟩) (mk_sR hP hK hT hS [] rfl) rfl rfl hl.1 rfl (lv_room (Nat.le_of_ble_eq_true rfl)) d_Mo_readParts_103 ⟨Nat.zero_le _, Nat.zero_le _⟩) ?_
                        refine mk_ti (y := nI (duN i2 (io + 1) (if io + 1 = p9 then 1 else 0) (suN B f 11))) (by first | (exfalso; omega) | rw [if_pos (by omega)] | rw [if_neg (by omega)]) ?_
                        have hd9 : duN i2 (io + 1) (if io + 1 = p9 then 1 else 0) (suN B f 11) < 65536 := duN_lt (by omega) hs9
                        refine lv_icmp_eq (tgt := 111) hx hb d_Mo_readParts_106 (by decide) (fun c_69 => ?_) (fun c_69 => ?_)
                        · skip
                          rw [nI_eq (by omega) (by omega)] at c_69
                          refine lv_iinc (v := nI (i2 + 1)) (lv' := [(8, .int (nI (i2 + 1))), (9, .int (nI 1)), (0, .ref m0), (1, .int (nI r)), (2, .int (nI f)), (3, .int (nI p9)), (4, .int (nI (suN B f 11))), (5, .int (bI (decide (c5 < 13 * io)))), (6, .int (nI (io + 1))), (7, .int (nI (f - (32 * (io + 1)))))]) hx hb d_Mo_readParts_111 hl (k := 9) rfl (mk_i1 i2) (by decide) rfl (fun ls hl => ?_)
                          refine lv_goto (tgt := 31) hx hb d_Mo_readParts_114 (by decide) ?_
                          have hl : lv_has ls 10 [(0, .ref m0), (1, .int (nI r)), (2, .int (nI f)), (3, .int (nI p9)), (4, .int (nI (suN B f 11))), (5, .int (bI (decide (c5 < 13 * io)))), (6, .int (nI (io + 1))), (7, .int (nI (f - (32 * (io + 1))))), (8, .int (nI (i2 + 1)))] := lv_sub hl [2, 3, 4, 5, 6, 7, 8, 9, 0] rfl
                          exact ih31 (i2 + 1) _ _ _ (by omega) hP hD hS hl
                        · skip
                          rw [nI_eq (by omega) (by omega)] at c_69
                          exact absurd (hown9 (io + 1) i2 (by omega) (by omega) (by omega) (by simp only [owB, decide_eq_true_eq]; omega)) c_69
                · skip
                  rw [nI_leI (by omega) (by omega)] at c_62
                  refine lv_iload hx hb d_Mo_readParts_50 (lv_at hl 8 rfl) ?_
                  refine lv_bipush (v := nI 14) hx hb d_Mo_readParts_52 (by decide) ?_
                  refine lv_icmp_lt (tgt := 64) hx hb d_Mo_readParts_54 (by decide) (fun c_70 => ?_) (fun c_70 => ?_)
                  · skip
                    rw [nI_ltI (by omega) (by omega)] at c_70
                    refine lv_iconst (v := nI 1) hx hb d_Mo_readParts_64 (by decide) ?_
                    refine lv_goto (tgt := 69) hx hb d_Mo_readParts_65 (by decide) ?_
                    refine lv_istore (lv' := [(9, .int (nI 1)), (0, .ref m0), (1, .int (nI r)), (2, .int (nI f)), (3, .int (nI p9)), (4, .int (nI (suN B f 11))), (5, .int (bI (decide (c5 < 13 * io)))), (6, .int (nI (io + 1))), (7, .int (nI (f - (32 * (io + 1))))), (8, .int (nI i2))]) hx hb d_Mo_readParts_69 hl (by decide) rfl (fun ls hl => ?_)
                    refine lv_iload hx hb d_Mo_readParts_71 (lv_at hl 0 rfl) ?_
                    refine lv_if_eq (tgt := 111) hx hb d_Mo_readParts_73 (by decide) (fun c_71 => ?_) (fun c_71 => ?_)
                    · skip
                      rw [mk_ceq (by omega)] at c_71
                      first | omega | contradiction
                    · skip
                      rw [mk_ceq (by omega)] at c_71
                      refine lv_aload_n hx hb d_Mo_readParts_76 rfl (lv_at hl 1 rfl) ?_
                      refine va_get (D := (dC, dI)) (ci := 5) (v := .ref mb) (C := "LongNamesModel") (T := F_Mo) (N := 5) hx hb hts (iw_Mo _) hown hK hP 0 rfl rfl 3 (by decide) (hts _ (List.mem_cons_of_mem _ k_525)) (fun _ h9 => h9) rfl d_Mo_readParts_77 ?_
                      refine lv_iload hx hb d_Mo_readParts_80 (lv_at hl 8 rfl) ?_
                      refine lv_iload hx hb d_Mo_readParts_82 (lv_at hl 9 rfl) ?_
                      refine lv_iadd hx hb d_Mo_readParts_84 ?_
                      refine mk_ti (y := nI (f - (32 * (io + 1)) + i2)) (nI_add (f - (32 * (io + 1))) i2) ?_
                      refine va_iald hx hb hK hP 3 0 rfl rfl (vp_in_nI (N := 1024) (show f - (32 * (io + 1)) + i2 < 1024 by omega) (by decide)) d_Mo_readParts_85 ?_
                      refine mk_ti (y := nI (B (f - (32 * (io + 1)) + i2))) (by rw [nI_clamp (by omega)]; rfl) ?_
                      have b_72 := hB6 (f - (32 * (io + 1)) + i2)
                      refine lv_iload hx hb d_Mo_readParts_86 (lv_at hl 9 rfl) ?_
                      refine lv_iload hx hb d_Mo_readParts_88 (lv_at hl 7 rfl) ?_
                      refine lv_iload hx hb d_Mo_readParts_90 (lv_at hl 7 rfl) ?_
                      refine lv_iload_n hx hb d_Mo_readParts_92 rfl (lv_at hl 4 rfl) ?_
                      refine lv_icmp_ne (tgt := 100) hx hb d_Mo_readParts_93 (by decide) (fun c_73 => ?_) (fun c_73 => ?_)
                      · skip
                        rw [nI_eq (by omega) (by omega)] at c_73
                        refine lv_iconst (v := nI 0) hx hb d_Mo_readParts_100 (by decide) ?_
                        refine lv_iload hx hb d_Mo_readParts_101 (lv_at hl 5 rfl) ?_
                        refine mk_r1 (W.runS (As := [.int (nI i2), .int (nI (io + 1)), .int (nI 0), .int (nI (suN B f 11))]) (rest := [.int (nI (B (f - (32 * (io + 1)) + i2)))]) S (c_Mo_due l dC dI cI i2 (io + 1) 0 (suN B f 11) (by first | assumption | omega) (by first | assumption | omega)) (gS 4 hts k_615 k_616 k_29 k_617 (by decide +kernel) ⟨Nat.le_of_ble_eq_true rfl, Nat.le_of_ble_eq_true rfl⟩) (mk_sR hP hK hT hS [] rfl) rfl rfl hl.1 rfl (lv_room (Nat.le_of_ble_eq_true rfl)) d_Mo_readParts_103 ⟨Nat.zero_le _, Nat.zero_le _⟩) ?_
                        refine mk_ti (y := nI (duN i2 (io + 1) (if io + 1 = p9 then 1 else 0) (suN B f 11))) (by first | (exfalso; omega) | rw [if_pos (by omega)] | rw [if_neg (by omega)]) ?_
                        have hd9 : duN i2 (io + 1) (if io + 1 = p9 then 1 else 0) (suN B f 11) < 65536 := duN_lt (by omega) hs9
                        refine lv_icmp_eq (tgt := 111) hx hb d_Mo_readParts_106 (by decide) (fun c_74 => ?_) (fun c_74 => ?_)
                        · skip
                          rw [nI_eq (by omega) (by omega)] at c_74
                          refine lv_iinc (v := nI (i2 + 1)) (lv' := [(8, .int (nI (i2 + 1))), (9, .int (nI 1)), (0, .ref m0), (1, .int (nI r)), (2, .int (nI f)), (3, .int (nI p9)), (4, .int (nI (suN B f 11))), (5, .int (bI (decide (c5 < 13 * io)))), (6, .int (nI (io + 1))), (7, .int (nI (f - (32 * (io + 1)))))]) hx hb d_Mo_readParts_111 hl (k := 9) rfl (mk_i1 i2) (by decide) rfl (fun ls hl => ?_)
                          refine lv_goto (tgt := 31) hx hb d_Mo_readParts_114 (by decide) ?_
                          have hl : lv_has ls 10 [(0, .ref m0), (1, .int (nI r)), (2, .int (nI f)), (3, .int (nI p9)), (4, .int (nI (suN B f 11))), (5, .int (bI (decide (c5 < 13 * io)))), (6, .int (nI (io + 1))), (7, .int (nI (f - (32 * (io + 1))))), (8, .int (nI (i2 + 1)))] := lv_sub hl [2, 3, 4, 5, 6, 7, 8, 9, 0] rfl
                          exact ih31 (i2 + 1) _ _ _ (by omega) hP hD hS hl
                        · skip
                          rw [nI_eq (by omega) (by omega)] at c_74
                          exact absurd (hown9 (io + 1) i2 (by omega) (by omega) (by omega) (by simp only [owB, decide_eq_true_eq]; omega)) c_74
                      · skip
                        rw [nI_eq (by omega) (by omega)] at c_73
                        refine lv_iconst (v := nI 1) hx hb d_Mo_readParts_96 (by decide) ?_
                        refine lv_goto (tgt := 101) hx hb d_Mo_readParts_97 (by decide) ?_
                        refine lv_iload hx hb d_Mo_readParts_101 (lv_at hl 5 rfl) ?_
                        refine mk_r1 (W.runS (As := [.int (nI i2), .int (nI (io + 1)), .int (nI 1), .int (nI (suN B f 11))]) (rest := [.int (nI (B (f - (32 * (io + 1)) + i2)))]) S (c_Mo_due l dC dI cI i2 (io + 1) 1 (suN B f 11) (by first | assumption | omega) (by first | assumption | omega)) (gS 4 hts k_615 k_616 k_29 k_617 (by decide +kernel) ⟨Nat.le_of_ble_eq_true rfl, Nat.le_of_ble_eq_true rfl⟩) (mk_sR hP hK hT hS [] rfl) rfl rfl hl.1 rfl (lv_room (Nat.le_of_ble_eq_true rfl)) d_Mo_readParts_103 ⟨Nat.zero_le _, Nat.zero_le _⟩) ?_
                        refine mk_ti (y := nI (duN i2 (io + 1) (if io + 1 = p9 then 1 else 0) (suN B f 11))) (by first | (exfalso; omega) | rw [if_pos (by omega)] | rw [if_neg (by omega)]) ?_
                        have hd9 : duN i2 (io + 1) (if io + 1 = p9 then 1 else 0) (suN B f 11) < 65536 := duN_lt (by omega) hs9
                        refine lv_icmp_eq (tgt := 111) hx hb d_Mo_readParts_106 (by decide) (fun c_75 => ?_) (fun c_75 => ?_)
                        · skip
                          rw [nI_eq (by omega) (by omega)] at c_75
                          refine lv_iinc (v := nI (i2 + 1)) (lv' := [(8, .int (nI (i2 + 1))), (9, .int (nI 1)), (0, .ref m0), (1, .int (nI r)), (2, .int (nI f)), (3, .int (nI p9)), (4, .int (nI (suN B f 11))), (5, .int (bI (decide (c5 < 13 * io)))), (6, .int (nI (io + 1))), (7, .int (nI (f - (32 * (io + 1)))))]) hx hb d_Mo_readParts_111 hl (k := 9) rfl (mk_i1 i2) (by decide) rfl (fun ls hl => ?_)
                          refine lv_goto (tgt := 31) hx hb d_Mo_readParts_114 (by decide) ?_
                          have hl : lv_has ls 10 [(0, .ref m0), (1, .int (nI r)), (2, .int (nI f)), (3, .int (nI p9)), (4, .int (nI (suN B f 11))), (5, .int (bI (decide (c5 < 13 * io)))), (6, .int (nI (io + 1))), (7, .int (nI (f - (32 * (io + 1))))), (8, .int (nI (i2 + 1)))] := lv_sub hl [2, 3, 4, 5, 6, 7, 8, 9, 0] rfl
                          exact ih31 (i2 + 1) _ _ _ (by omega) hP hD hS hl
                        · skip
                          rw [nI_eq (by omega) (by omega)] at c_75
                          exact absurd (hown9 (io + 1) i2 (by omega) (by omega) (by omega) (by simp only [owB, decide_eq_true_eq]; omega)) c_75
                  · skip
                    rw [nI_ltI (by omega) (by omega)] at c_70
                    refine lv_iload hx hb d_Mo_readParts_57 (lv_at hl 8 rfl) ?_
                    refine lv_bipush (v := nI 25) hx hb d_Mo_readParts_59 (by decide) ?_
                    refine lv_icmp_le (tgt := 68) hx hb d_Mo_readParts_61 (by decide) (fun c_76 => ?_) (fun c_76 => ?_)
                    · skip
                      rw [nI_leI (by omega) (by omega)] at c_76
                      refine lv_iconst (v := nI 0) hx hb d_Mo_readParts_68 (by decide) ?_
                      refine lv_istore (lv' := [(9, .int (nI 0)), (0, .ref m0), (1, .int (nI r)), (2, .int (nI f)), (3, .int (nI p9)), (4, .int (nI (suN B f 11))), (5, .int (bI (decide (c5 < 13 * io)))), (6, .int (nI (io + 1))), (7, .int (nI (f - (32 * (io + 1))))), (8, .int (nI i2))]) hx hb d_Mo_readParts_69 hl (by decide) rfl (fun ls hl => ?_)
                      refine lv_iload hx hb d_Mo_readParts_71 (lv_at hl 0 rfl) ?_
                      refine lv_if_eq (tgt := 111) hx hb d_Mo_readParts_73 (by decide) (fun c_77 => ?_) (fun c_77 => ?_)
                      · skip
                        rw [mk_ceq (by omega)] at c_77
                        refine lv_iinc (v := nI (i2 + 1)) (lv' := [(8, .int (nI (i2 + 1))), (9, .int (nI 0)), (0, .ref m0), (1, .int (nI r)), (2, .int (nI f)), (3, .int (nI p9)), (4, .int (nI (suN B f 11))), (5, .int (bI (decide (c5 < 13 * io)))), (6, .int (nI (io + 1))), (7, .int (nI (f - (32 * (io + 1)))))]) hx hb d_Mo_readParts_111 hl (k := 9) rfl (mk_i1 i2) (by decide) rfl (fun ls hl => ?_)
                        refine lv_goto (tgt := 31) hx hb d_Mo_readParts_114 (by decide) ?_
                        have hl : lv_has ls 10 [(0, .ref m0), (1, .int (nI r)), (2, .int (nI f)), (3, .int (nI p9)), (4, .int (nI (suN B f 11))), (5, .int (bI (decide (c5 < 13 * io)))), (6, .int (nI (io + 1))), (7, .int (nI (f - (32 * (io + 1))))), (8, .int (nI (i2 + 1)))] := lv_sub hl [2, 3, 4, 5, 6, 7, 8, 9, 0] rfl
                        exact ih31 (i2 + 1) _ _ _ (by omega) hP hD hS hl
                      · skip
                        rw [mk_ceq (by omega)] at c_77
                        first | omega | contradiction
                    · skip
                      rw [nI_leI (by omega) (by omega)] at c_76
                      refine lv_iconst (v := nI 1) hx hb d_Mo_readParts_64 (by decide) ?_
                      refine lv_goto (tgt := 69) hx hb d_Mo_readParts_65 (by decide) ?_
                      refine lv_istore (lv' := [(9, .int (nI 1)), (0, .ref m0), (1, .int (nI r)), (2, .int (nI f)), (3, .int (nI p9)), (4, .int (nI (suN B f 11))), (5, .int (bI (decide (c5 < 13 * io)))), (6, .int (nI (io + 1))), (7, .int (nI (f - (32 * (io + 1))))), (8, .int (nI i2))]) hx hb d_Mo_readParts_69 hl (by decide) rfl (fun ls hl => ?_)
                      refine lv_iload hx hb d_Mo_readParts_71 (lv_at hl 0 rfl) ?_
                      refine lv_if_eq (tgt := 111) hx hb d_Mo_readParts_73 (by decide) (fun c_78 => ?_) (fun c_78 => ?_)
                      · skip
                        rw [mk_ceq (by omega)] at c_78
                        first | omega | contradiction
                      · skip
                        rw [mk_ceq (by omega)] at c_78
                        refine lv_aload_n hx hb d_Mo_readParts_76 rfl (lv_at hl 1 rfl) ?_
                        refine va_get (D := (dC, dI)) (ci := 5) (v := .ref mb) (C := "LongNamesModel") (T := F_Mo) (N := 5) hx hb hts (iw_Mo _) hown hK hP 0 rfl rfl 3 (by decide) (hts _ (List.mem_cons_of_mem _ k_525)) (fun _ h9 => h9) rfl d_Mo_readParts_77 ?_
                        refine lv_iload hx hb d_Mo_readParts_80 (lv_at hl 8 rfl) ?_
                        refine lv_iload hx hb d_Mo_readParts_82 (lv_at hl 9 rfl) ?_
                        refine lv_iadd hx hb d_Mo_readParts_84 ?_
                        refine mk_ti (y := nI (f - (32 * (io + 1)) + i2)) (nI_add (f - (32 * (io + 1))) i2) ?_
                        refine va_iald hx hb hK hP 3 0 rfl rfl (vp_in_nI (N := 1024) (show f - (32 * (io + 1)) + i2 < 1024 by omega) (by decide)) d_Mo_readParts_85 ?_
                        refine mk_ti (y := nI (B (f - (32 * (io + 1)) + i2))) (by rw [nI_clamp (by omega)]; rfl) ?_
                        have b_79 := hB6 (f - (32 * (io + 1)) + i2)
                        refine lv_iload hx hb d_Mo_readParts_86 (lv_at hl 9 rfl) ?_
                        refine lv_iload hx hb d_Mo_readParts_88 (lv_at hl 7 rfl) ?_
                        refine lv_iload hx hb d_Mo_readParts_90 (lv_at hl 7 rfl) ?_
                        refine lv_iload_n hx hb d_Mo_readParts_92 rfl (lv_at hl 4 rfl) ?_
                        refine lv_icmp_ne (tgt := 100) hx hb d_Mo_readParts_93 (by decide) (fun c_80 => ?_) (fun c_80 => ?_)
                        · skip
                          rw [nI_eq (by omega) (by omega)] at c_80
                          refine lv_iconst (v := nI 0) hx hb d_Mo_readParts_100 (by decide) ?_
                          refine lv_iload hx hb d_Mo_readParts_101 (lv_at hl 5 rfl) ?_
                          refine mk_r1 (W.runS (As := [.int (nI i2), .int (nI (io + 1)), .int (nI 0), .int (nI (suN B f 11))]) (rest := [.int (nI (B (f - (32 * (io + 1)) + i2)))]) S (c_Mo_due l dC dI cI i2 (io + 1) 0 (suN B f 11) (by first | assumption | omega) (by first | assumption | omega)) (gS 4 hts k_615 k_616 k_29 k_617 (by decide +kernel) ⟨Nat.le_of_ble_eq_true rfl, Nat.le_of_ble_eq_true rfl⟩) (mk_sR hP hK hT hS [] rfl) rfl rfl hl.1 rfl (lv_room (Nat.le_of_ble_eq_true rfl)) d_Mo_readParts_103 ⟨Nat.zero_le _, Nat.zero_le _⟩) ?_
                          refine mk_ti (y := nI (duN i2 (io + 1) (if io + 1 = p9 then 1 else 0) (suN B f 11))) (by first | (exfalso; omega) | rw [if_pos (by omega)] | rw [if_neg (by omega)]) ?_
                          have hd9 : duN i2 (io + 1) (if io + 1 = p9 then 1 else 0) (suN B f 11) < 65536 := duN_lt (by omega) hs9
                          refine lv_icmp_eq (tgt := 111) hx hb d_Mo_readParts_106 (by decide) (fun c_81 => ?_) (fun c_81 => ?_)
                          · skip
                            rw [nI_eq (by omega) (by omega)] at c_81
                            refine lv_iinc (v := nI (i2 + 1)) (lv' := [(8, .int (nI (i2 + 1))), (9, .int (nI 1)), (0, .ref m0), (1, .int (nI r)), (2, .int (nI f)), (3, .int (nI p9)), (4, .int (nI (suN B f 11))), (5, .int (bI (decide (c5 < 13 * io)))), (6, .int (nI (io + 1))), (7, .int (nI (f - (32 * (io + 1)))))]) hx hb d_Mo_readParts_111 hl (k := 9) rfl (mk_i1 i2) (by decide) rfl (fun ls hl => ?_)
                            refine lv_goto (tgt := 31) hx hb d_Mo_readParts_114 (by decide) ?_
                            have hl : lv_has ls 10 [(0, .ref m0), (1, .int (nI r)), (2, .int (nI f)), (3, .int (nI p9)), (4, .int (nI (suN B f 11))), (5, .int (bI (decide (c5 < 13 * io)))), (6, .int (nI (io + 1))), (7, .int (nI (f - (32 * (io + 1))))), (8, .int (nI (i2 + 1)))] := lv_sub hl [2, 3, 4, 5, 6, 7, 8, 9, 0] rfl
                            exact ih31 (i2 + 1) _ _ _ (by omega) hP hD hS hl
                          · skip
                            rw [nI_eq (by omega) (by omega)] at c_81
                            exact absurd (hown9 (io + 1) i2 (by omega) (by omega) (by omega) (by simp only [owB, decide_eq_true_eq]; omega)) c_81
                        · skip
                          rw [nI_eq (by omega) (by omega)] at c_80
                          refine lv_iconst (v := nI 1) hx hb d_Mo_readParts_96 (by decide) ?_
                          refine lv_goto (tgt := 101) hx hb d_Mo_readParts_97 (by decide) ?_
                          refine lv_iload hx hb d_Mo_readParts_101 (lv_at hl 5 rfl) ?_
                          refine mk_r1 (W.runS (As := [.int (nI i2), .int (nI (io + 1)), .int (nI 1), .int (nI (suN B f 11))]) (rest := [.int (nI (B (f - (32 * (io + 1)) + i2)))]) S (c_Mo_due l dC dI cI i2 (io + 1) 1 (suN B f 11) (by first | assumption | omega) (by first | assumption | omega)) (gS 4 hts k_615 k_616 k_29 k_617 (by decide +kernel) ⟨Nat.le_of_ble_eq_true rfl, Nat.le_of_ble_eq_true rfl⟩) (mk_sR hP hK hT hS [] rfl) rfl rfl hl.1 rfl (lv_room (Nat.le_of_ble_eq_true rfl)) d_Mo_readParts_103 ⟨Nat.zero_le _, Nat.zero_le _⟩) ?_
                          refine mk_ti (y := nI (duN i2 (io + 1) (if io + 1 = p9 then 1 else 0) (suN B f 11))) (by first | (exfalso; omega) | rw [if_pos (by omega)] | rw [if_neg (by omega)]) ?_
                          have hd9 : duN i2 (io + 1) (if io + 1 = p9 then 1 else 0) (suN B f 11) < 65536 := duN_lt (by omega) hs9
                          refine lv_icmp_eq (tgt := 111) hx hb d_Mo_readParts_106 (by decide) (fun c_82 => ?_) (fun c_82 => ?_)
                          · skip
                            rw [nI_eq (by omega) (by omega)] at c_82
                            refine lv_iinc (v := nI (i2 + 1)) (lv' := [(8, .int (nI (i2 + 1))), (9, .int (nI 1)), (0, .ref m0), (1, .int (nI r)), (2, .int (nI f)), (3, .int (nI p9)), (4, .int (nI (suN B f 11))), (5, .int (bI (decide (c5 < 13 * io)))), (6, .int (nI (io + 1))), (7, .int (nI (f - (32 * (io + 1)))))]) hx hb d_Mo_readParts_111 hl (k := 9) rfl (mk_i1 i2) (by decide) rfl (fun ls hl => ?_)
                            refine lv_goto (tgt := 31) hx hb d_Mo_readParts_114 (by decide) ?_
                            have hl : lv_has ls 10 [(0, .ref m0), (1, .int (nI r)), (2, .int (nI f)), (3, .int (nI p9)), (4, .int (nI (suN B f 11))), (5, .int (bI (decide (c5 < 13 * io)))), (6, .int (nI (io + 1))), (7, .int (nI (f - (32 * (io + 1))))), (8, .int (nI (i2 + 1)))] := lv_sub hl [2, 3, 4, 5, 6, 7, 8, 9, 0] rfl
                            exact ih31 (i2 + 1) _ _ _ (by omega) hP hD hS hl
                          · skip
                            rw [nI_eq (by omega) (by omega)] at c_82
                            exact absurd (hown9 (io + 1) i2 (by omega) (by omega) (by omega) (by simp only [owB, decide_eq_true_eq]; omega)) c_82
        have hl : lv_has ls 10 [(0, .ref m0), (1, .int (nI r)), (2, .int (nI f)), (3, .int (nI p9)), (4, .int (nI (suN B f 11))), (5, .int (bI (decide (c5 < 13 * io)))), (6, .int (nI (io + 1))), (7, .int (nI (f - (32 * (io + 1))))), (8, .int (nI 0))] := lv_sub hl [2, 3, 4, 5, 6, 7, 8, 1, 0] rfl
        exact lp31 28 0 _ _ _ rfl hP hD hS hl
  have hl : lv_has ls 10 [(0, .ref m0), (1, .int (nI r)), (2, .int (nI f)), (3, .int (nI p9)), (4, .int (nI (suN B f 11))), (5, .int (nI 0)), (6, .int (nI 1))] := lv_sub hl [3, 4, 5, 6, 2, 1, 0] rfl
  have hl9 : ([(0, .ref m0), (1, .int (nI r)), (2, .int (nI f)), (3, .int (nI p9)), (4, .int (nI (suN B f 11))), (5, .int (nI 0)), (6, .int (nI 1))] : List (Nat × Value)) = [(0, .ref m0), (1, .int (nI r)), (2, .int (nI f)), (3, .int (nI p9)), (4, .int (nI (suN B f 11))), (5, .int (bI (decide (c5 < 13 * 0)))), (6, .int (nI (0 + 1)))] := by rw [show decide (c5 < 13 * 0) = false from (by simp)]; rfl
  rw [hl9] at hl
  have hw9 : ([(m0, .inr (5, [.int th, .ref mu, .ref mz, .ref mb, .ref mr])), (mu, .inl (cI, 510, .inl (nf U))), (mz, .inl (cI, 2, .inl (nf (uN Z r 0)))), (mb, .inl (cI, 1024, .inl (nf B)))] : va_W) = [(m0, .inr (5, [.int th, .ref mu, .ref mz, .ref mb, .ref mr])), (mu, .inl (cI, 510, .inl (nf (stN U (mt B f) (255 * r) (min c5 (13 * 0)))))), (mz, .inl (cI, 2, .inl (nf (uN Z r (min c5 (13 * 0)))))), (mb, .inl (cI, 1024, .inl (nf B)))] := by rw [show min c5 (13 * 0) = 0 by omega, stN_0]
  rw [hw9] at hP hD
  exact lp13 p9 0 _ _ _ (by omega) hP hD hS hl

set_option maxHeartbeats 1000000 in
set_option maxRecDepth 100000 in
theorem c_Mo_rpF (l : Launch) (dC : Nat → ClassId) (dI : Nat → Nat → Nat) (cI : ClassId) (m0 : Nat) (th : Int32) (mu mz mb mr : Nat) (U Z B : Nat → Nat) (r f p9 : Nat) (hU : ∀ j, U j < 65536) (hZ : ∀ j, Z j ≤ 255) (hB6 : ∀ j, B j < 256) (hr : r < 2) (hf : f ≤ 992) (hp1 : 1 ≤ p9) (hp2 : p9 ≤ 20) (hp3 : 32 * p9 ≤ f) (hbad : ∀ c5, c5 ≤ 255 → c5 ≤ 13 * p9 → (∀ t, t < c5 → mt B f t ≠ 0) → (c5 = 13 * p9 ∨ (13 * (p9 - 1) < c5 ∧ c5 < 13 * p9)) → (c5 < 13 * p9 → mt B f c5 = 0) → (∀ t, c5 < t → t < 13 * p9 → mt B f t = 65535) → (∀ p8 b8, 1 ≤ p8 → p8 ≤ p9 → b8 < 28 → owB b8 = true → B (f - 32 * p8 + b8) = duN b8 p8 (if p8 = p9 then 1 else 0) (suN B f 11)) → nameN (mt B f) c5 = false) : mE l y_Mo_readParts w_Mo_readParts ({ frames := 2, cells := 0, slots := 0, locals := 45 } : Room) [.ref m0, .int (nI r), .int (nI f), .int (nI p9)] (dC, dI) vwCl [(cI, .int)] [(m0, .inr (5, [.int th, .ref mu, .ref mz, .ref mb, .ref mr])), (mu, .inl (cI, 510, .inl (nf U))), (mz, .inl (cI, 2, .inl (nf (uN Z r 0)))), (mb, .inl (cI, 1024, .inl (nf B)))] (some (.int (nI 0))) (fun q9 c8 => [(m0, .inr (5, [.int th, .ref mu, .ref mz, .ref mb, .ref mr])), (mu, .inl (cI, 510, .inl (nf (stN U q9 (255 * r) c8)))), (mz, .inl (cI, 2, .inl (nf (uN Z r c8)))), (mb, .inl (cI, 1024, .inl (nf B)))]) := by
  have hB : ∀ j, B j < 65536 := fun j => Nat.lt_trans (hB6 j) (by decide)
  have hs9 := suN_lt B f 11
  refine mk_Ei (cc := b_Mo_readParts) (maxL := 10) (by decide) rfl (Nat.le_of_ble_eq_true rfl) (rfl) ?_
  intro p e s m below meth c Q A ls S hP hK hT hS hl hD hA hret
  obtain ⟨hx, hb, hml, hown, hts⟩ := id S
  have hl : lv_has ls 10 [(0, .ref m0), (1, .int (nI r)), (2, .int (nI f)), (3, .int (nI p9))] := hl
  refine lv_aload_n hx hb d_Mo_readParts_0 rfl (lv_at hl 0 rfl) ?_
  refine lv_iload_n hx hb d_Mo_readParts_1 rfl (lv_at hl 2 rfl) ?_
  refine mk_r1 (W.runV (As := [.int (nI f)]) (rest := []) S (c_Mo_sumOf l dC dI cI m0 th mu mz mb mr B f (by first | assumption | omega) (by first | assumption | omega)) (gV 1 hts k_611 k_613 k_18 k_29 k_614 (by decide +kernel) ⟨Nat.le_of_ble_eq_true rfl, Nat.le_of_ble_eq_true rfl⟩) (mk_vR hP hK hT hS [0, 3] rfl (q0 := 0) (ci := 5) rfl rfl) rfl rfl hl.1 rfl (lv_room (Nat.le_of_ble_eq_true rfl)) d_Mo_readParts_2 ⟨Nat.zero_le _, Nat.zero_le _⟩) ?_
  have b_1 := suN_lt B f 11
  refine lv_istore (lv' := [(4, .int (nI (suN B f 11))), (0, .ref m0), (1, .int (nI r)), (2, .int (nI f)), (3, .int (nI p9))]) hx hb d_Mo_readParts_5 hl (by decide) rfl (fun ls hl => ?_)
  refine lv_iconst (v := nI 0) hx hb d_Mo_readParts_7 (by decide) ?_
  refine lv_istore (lv' := [(5, .int (nI 0)), (4, .int (nI (suN B f 11))), (0, .ref m0), (1, .int (nI r)), (2, .int (nI f)), (3, .int (nI p9))]) hx hb d_Mo_readParts_8 hl (by decide) rfl (fun ls hl => ?_)
  refine lv_iconst (v := nI 1) hx hb d_Mo_readParts_10 (by decide) ?_
  refine lv_istore (lv' := [(6, .int (nI 1)), (5, .int (nI 0)), (4, .int (nI (suN B f 11))), (0, .ref m0), (1, .int (nI r)), (2, .int (nI f)), (3, .int (nI p9))]) hx hb d_Mo_readParts_11 hl (by decide) rfl (fun ls hl => ?_)
  have lp13 : ∀ (k : Nat) (io c9 : Nat) (ov : Bool) (H : Heap) (locs : List Loc) (ls : Array Slot), (io + k = p9) → (c9 ≤ 255 ∧ c9 ≤ 13 * io) → (∀ t, t < c9 → mt B f t ≠ 0) → (ov = false → c9 = 13 * io) → (ov = true → k = 0 ∧ 13 * (io - 1) < c9 ∧ c9 < 13 * io ∧ mt B f c9 = 0 ∧ ∀ t, c9 < t → t < 13 * io → mt B f t = 65535) → (∀ p8 b8, 1 ≤ p8 → p8 ≤ io → b8 < 28 → owB b8 = true → B (f - 32 * p8 + b8) = duN b8 p8 (if p8 = p9 then 1 else 0) (suN B f 11)) → va_P (dC, dI) vwCl [(m0, .inr (5, [.int th, .ref mu, .ref mz, .ref mb, .ref mr])), (mu, .inl (cI, 510, .inl (nf (stN U (mt B f) (255 * r) c9)))), (mz, .inl (cI, 2, .inl (nf (uN Z r c9)))), (mb, .inl (cI, 1024, .inl (nf B)))] H → va_D A [(m0, .inr (5, [.int th, .ref mu, .ref mz, .ref mb, .ref mr])), (mu, .inl (cI, 510, .inl (nf (stN U (mt B f) (255 * r) c9)))), (mz, .inl (cI, 2, .inl (nf (uN Z r c9)))), (mb, .inl (cI, 1024, .inl (nf B)))] → va_S A s.heap H locs → lv_has ls 10 [(0, .ref m0), (1, .int (nI r)), (2, .int (nI f)), (3, .int (nI p9)), (4, .int (nI (suN B f 11))), (5, .int (bI ov)), (6, .int (nI (io + 1)))] → W p l e ({ frames := 2, cells := 0, slots := 0, locals := 45 } : Room) s m ([.ref m0, .int (nI r), .int (nI f), .int (nI p9)] : List Value).toArray below meth c H locs 0 0 Q (F0 m 13 ls []) := by
    intro k
    induction k with
    | zero =>
      intro io c9 ov H locs ls hi hc hn ho0 ho1 hw hP hD hS hl
      have hU1 : ∀ j, (stN U (mt B f) (255 * r) c9) j < 65536 := stN_lt hU (fun j => mt_lt hB6 j)
      have hZ1 : ∀ j, (uN Z r c9) j ≤ 255 := by
                intro j
                have := hZ j
                unfold uN
                split <;> omega
      have hN9 : nameN (mt B f) c9 = false := by
                obtain rfl : io = p9 := by omega
                cases ov with
                | false =>
                  have e9 := ho0 rfl
                  exact hbad c9 hc.1 hc.2 hn (Or.inl e9) (fun h9 => by omega) (fun t h9 h8 => by omega) hw
                | true =>
                  obtain ⟨-, a2, a3, a4, a5⟩ := ho1 rfl
                  exact hbad c9 hc.1 hc.2 hn (Or.inr ⟨a2, a3⟩) (fun _ => a4) a5 hw
      refine lv_iload hx hb d_Mo_readParts_13 (lv_at hl 6 rfl) ?_
      refine lv_iload_n hx hb d_Mo_readParts_15 rfl (lv_at hl 3 rfl) ?_
      refine lv_icmp_gt (tgt := 259) hx hb d_Mo_readParts_16 (by decide) (fun c_2 => ?_) (fun c_2 => ?_)
      · skip
        rw [nI_ltI (by omega) (by omega)] at c_2
        refine lv_aload_n hx hb d_Mo_readParts_259 rfl (lv_at hl 0 rfl) ?_
        refine lv_iload_n hx hb d_Mo_readParts_260 rfl (lv_at hl 1 rfl) ?_
        refine mk_r1 (W.runV (As := [.int (nI r)]) (rest := []) S (c_Mo_name l dC dI cI m0 th mu mz mb mr (stN U (mt B f) (255 * r) c9) (uN Z r c9) r (by first | assumption | omega) (by first | assumption | omega) (by first | assumption | omega)) (gV 1 hts k_558 k_560 k_13 k_29 k_561 (by decide +kernel) ⟨Nat.le_of_ble_eq_true rfl, Nat.le_of_ble_eq_true rfl⟩) (mk_vR hP hK hT hS [0, 1, 2] rfl (q0 := 0) (ci := 5) rfl rfl) rfl rfl hl.1 rfl (lv_room (Nat.le_of_ble_eq_true rfl)) d_Mo_readParts_261 ⟨Nat.zero_le _, Nat.zero_le _⟩) ?_
        exact mk_ti (by rw [nm_fin, hN9]; rfl) (hret _ _ _ _ (mt B f) c9 d_Mo_readParts_264 (fun j => mt_lt hB6 j) (by first | omega | exact hS3.1) hP hD hS)
      · skip
        rw [nI_ltI (by omega) (by omega)] at c_2
        first | omega | contradiction
    | succ k ih13 =>
      intro io c9 ov H locs ls hi hc hn ho0 ho1 hw hP hD hS hl
      obtain rfl : ov = false := by
                cases ov with
                | false => rfl
                | true => exact absurd (ho1 rfl).1 (by omega)
      obtain rfl : c9 = 13 * io := ho0 rfl
      have hl : lv_has ls 10 [(0, .ref m0), (1, .int (nI r)), (2, .int (nI f)), (3, .int (nI p9)), (4, .int (nI (suN B f 11))), (5, .int (nI 0)), (6, .int (nI (io + 1)))] := hl
      have hP : va_P (dC, dI) vwCl [(m0, .inr (5, [.int th, .ref mu, .ref mz, .ref mb, .ref mr])), (mu, .inl (cI, 510, .inl (nf (stN U (mt B f) (255 * r) (13 * io))))), (mz, .inl (cI, 2, .inl (nf (uN Z r (13 * io))))), (mb, .inl (cI, 1024, .inl (nf B)))] H := hP
      have hD : va_D A [(m0, .inr (5, [.int th, .ref mu, .ref mz, .ref mb, .ref mr])), (mu, .inl (cI, 510, .inl (nf (stN U (mt B f) (255 * r) (13 * io))))), (mz, .inl (cI, 2, .inl (nf (uN Z r (13 * io))))), (mb, .inl (cI, 1024, .inl (nf B)))] := hD
      refine lv_iload hx hb d_Mo_readParts_13 (lv_at hl 6 rfl) ?_
      refine lv_iload_n hx hb d_Mo_readParts_15 rfl (lv_at hl 3 rfl) ?_
      refine lv_icmp_gt (tgt := 259) hx hb d_Mo_readParts_16 (by decide) (fun c_3 => ?_) (fun c_3 => ?_)
      · skip
        rw [nI_ltI (by omega) (by omega)] at c_3
        first | omega | contradiction
      · skip
        rw [nI_ltI (by omega) (by omega)] at c_3
        refine lv_iload_n hx hb d_Mo_readParts_19 rfl (lv_at hl 2 rfl) ?_
        refine lv_bipush (v := nI 32) hx hb d_Mo_readParts_20 (by decide) ?_
        refine lv_iload hx hb d_Mo_readParts_22 (lv_at hl 6 rfl) ?_
        refine lv_imul hx hb d_Mo_readParts_24 ?_
        refine mk_ti (y := nI (32 * (io + 1))) (pk_mul 32 (io + 1)) ?_
        refine lv_isub hx hb d_Mo_readParts_25 ?_
        refine mk_ti (y := nI (f - (32 * (io + 1)))) (pk_sub (by omega)) ?_
        refine lv_istore (lv' := [(7, .int (nI (f - (32 * (io + 1))))), (0, .ref m0), (1, .int (nI r)), (2, .int (nI f)), (3, .int (nI p9)), (4, .int (nI (suN B f 11))), (5, .int (nI 0)), (6, .int (nI (io + 1)))]) hx hb d_Mo_readParts_26 hl (by decide) rfl (fun ls hl => ?_)
        refine lv_iconst (v := nI 0) hx hb d_Mo_readParts_28 (by decide) ?_
        refine lv_istore (lv' := [(8, .int (nI 0)), (7, .int (nI (f - (32 * (io + 1))))), (0, .ref m0), (1, .int (nI r)), (2, .int (nI f)), (3, .int (nI p9)), (4, .int (nI (suN B f 11))), (5, .int (nI 0)), (6, .int (nI (io + 1)))]) hx hb d_Mo_readParts_29 hl (by decide) rfl (fun ls hl => ?_)
        have lp31 : ∀ (k2 : Nat) (i2 : Nat) (H : Heap) (locs : List Loc) (ls : Array Slot), (i2 + k2 = 28) → (∀ b8, b8 < i2 → owB b8 = true → B (f - 32 * (io + 1) + b8) = duN b8 (io + 1) (if io + 1 = p9 then 1 else 0) (suN B f 11)) → va_P (dC, dI) vwCl [(m0, .inr (5, [.int th, .ref mu, .ref mz, .ref mb, .ref mr])), (mu, .inl (cI, 510, .inl (nf (stN U (mt B f) (255 * r) (13 * io))))), (mz, .inl (cI, 2, .inl (nf (uN Z r (13 * io))))), (mb, .inl (cI, 1024, .inl (nf B)))] H → va_D A [(m0, .inr (5, [.int th, .ref mu, .ref mz, .ref mb, .ref mr])), (mu, .inl (cI, 510, .inl (nf (stN U (mt B f) (255 * r) (13 * io))))), (mz, .inl (cI, 2, .inl (nf (uN Z r (13 * io))))), (mb, .inl (cI, 1024, .inl (nf B)))] → va_S A s.heap H locs → lv_has ls 10 [(0, .ref m0), (1, .int (nI r)), (2, .int (nI f)), (3, .int (nI p9)), (4, .int (nI (suN B f 11))), (5, .int (nI 0)), (6, .int (nI (io + 1))), (7, .int (nI (f - (32 * (io + 1))))), (8, .int (nI i2))] → W p l e ({ frames := 2, cells := 0, slots := 0, locals := 45 } : Room) s m ([.ref m0, .int (nI r), .int (nI f), .int (nI p9)] : List Value).toArray below meth c H locs 0 0 Q (F0 m 31 ls []) := by
          intro k2
          induction k2 with
          | zero =>
            intro i2 H locs ls hi2 hw2 hP hD hS hl
            refine lv_iload hx hb d_Mo_readParts_31 (lv_at hl 8 rfl) ?_
            refine lv_bipush (v := nI 28) hx hb d_Mo_readParts_33 (by decide) ?_
            refine lv_icmp_ge (tgt := 117) hx hb d_Mo_readParts_35 (by decide) (fun c_4 => ?_) (fun c_4 => ?_)
            · skip
              rw [nI_leI (by omega) (by omega)] at c_4
              refine lv_iconst (v := nI 0) hx hb d_Mo_readParts_117 (by decide) ?_
              refine lv_istore (lv' := [(8, .int (nI 0)), (0, .ref m0), (1, .int (nI r)), (2, .int (nI f)), (3, .int (nI p9)), (4, .int (nI (suN B f 11))), (5, .int (nI 0)), (6, .int (nI (io + 1))), (7, .int (nI (f - (32 * (io + 1)))))]) hx hb d_Mo_readParts_118 hl (by decide) rfl (fun ls hl => ?_)
              have lp120 : ∀ (k3 : Nat) (i3 c7 : Nat) (ov2 : Bool) (H : Heap) (locs : List Loc) (ls : Array Slot), (i3 + k3 = 13) → (rpS B f io c7 ov2 (13 * io + i3)) → va_P (dC, dI) vwCl [(m0, .inr (5, [.int th, .ref mu, .ref mz, .ref mb, .ref mr])), (mu, .inl (cI, 510, .inl (nf (stN U (mt B f) (255 * r) c7)))), (mz, .inl (cI, 2, .inl (nf (uN Z r c7)))), (mb, .inl (cI, 1024, .inl (nf B)))] H → va_D A [(m0, .inr (5, [.int th, .ref mu, .ref mz, .ref mb, .ref mr])), (mu, .inl (cI, 510, .inl (nf (stN U (mt B f) (255 * r) c7)))), (mz, .inl (cI, 2, .inl (nf (uN Z r c7)))), (mb, .inl (cI, 1024, .inl (nf B)))] → va_S A s.heap H locs → lv_has ls 10 [(0, .ref m0), (1, .int (nI r)), (2, .int (nI f)), (3, .int (nI p9)), (4, .int (nI (suN B f 11))), (5, .int (bI ov2)), (6, .int (nI (io + 1))), (7, .int (nI (f - (32 * (io + 1))))), (8, .int (nI i3))] → W p l e ({ frames := 2, cells := 0, slots := 0, locals := 45 } : Room) s m ([.ref m0, .int (nI r), .int (nI f), .int (nI p9)] : List Value).toArray below meth c H locs 0 0 Q (F0 m 120 ls []) := by
                intro k3
                induction k3 with
                | zero =>
                  intro i3 c7 ov2 H locs ls hi3 hS3 hP hD hS hl
                  refine lv_iload hx hb d_Mo_readParts_120 (lv_at hl 8 rfl) ?_
                  refine lv_bipush (v := nI 13) hx hb d_Mo_readParts_122 (by decide) ?_
                  refine lv_icmp_ge (tgt := 240) hx hb d_Mo_readParts_124 (by decide) (fun c_5 => ?_) (fun c_5 => ?_)
                  · skip
                    rw [nI_leI (by omega) (by omega)] at c_5
                    refine lv_iload hx hb d_Mo_readParts_240 (lv_at hl 5 rfl) ?_
                    refine lv_if_eq (tgt := 253) hx hb d_Mo_readParts_242 (by decide) (fun c_6 => ?_) (fun c_6 => ?_)
                    · skip
                      have c_6 := bI_0 c_6
                      refine lv_iinc (v := nI (io + 1 + 1)) (lv' := [(6, .int (nI (io + 1 + 1))), (0, .ref m0), (1, .int (nI r)), (2, .int (nI f)), (3, .int (nI p9)), (4, .int (nI (suN B f 11))), (5, .int (bI ov2)), (7, .int (nI (f - (32 * (io + 1))))), (8, .int (nI i3))]) hx hb d_Mo_readParts_253 hl (k := 6) rfl (mk_i1 (io + 1)) (by decide) rfl (fun ls hl => ?_)
                      refine lv_goto (tgt := 13) hx hb d_Mo_readParts_256 (by decide) ?_
                      have hl : lv_has ls 10 [(0, .ref m0), (1, .int (nI r)), (2, .int (nI f)), (3, .int (nI p9)), (4, .int (nI (suN B f 11))), (5, .int (bI ov2)), (6, .int (nI (io + 1 + 1)))] := lv_sub hl [1, 2, 3, 4, 5, 6, 0] rfl
                      have hl9 : ([(0, .ref m0), (1, .int (nI r)), (2, .int (nI f)), (3, .int (nI p9)), (4, .int (nI (suN B f 11))), (5, .int (bI ov2)), (6, .int (nI (io + 1 + 1)))] : List (Nat × Value)) = [(0, .ref m0), (1, .int (nI r)), (2, .int (nI f)), (3, .int (nI p9)), (4, .int (nI (suN B f 11))), (5, .int (bI ov2)), (6, .int (nI ((io + 1) + 1)))] := by rfl
                      rw [hl9] at hl
                      exact ih13 (io + 1) c7 ov2 _ _ _ (by omega) (rpS_c hS3 (by omega)) hS3.2.1 (fun h9 => (hS3.2.2.1 h9).trans (by omega)) (rpS_e hS3 (by omega) (fun h9 => by first | omega | exact absurd (h9.symm.trans (show ov2 = false by assumption)) (by decide))) (ow_s hw hw2 (by omega)) hP hD hS hl
                    · skip
                      have c_6 := bI_1 c_6
                      refine lv_iload hx hb d_Mo_readParts_245 (lv_at hl 6 rfl) ?_
                      refine lv_iload_n hx hb d_Mo_readParts_247 rfl (lv_at hl 3 rfl) ?_
                      refine lv_icmp_ge (tgt := 253) hx hb d_Mo_readParts_248 (by decide) (fun c_7 => ?_) (fun c_7 => ?_)
                      · skip
                        rw [nI_leI (by omega) (by omega)] at c_7
                        refine lv_iinc (v := nI (io + 1 + 1)) (lv' := [(6, .int (nI (io + 1 + 1))), (0, .ref m0), (1, .int (nI r)), (2, .int (nI f)), (3, .int (nI p9)), (4, .int (nI (suN B f 11))), (5, .int (bI ov2)), (7, .int (nI (f - (32 * (io + 1))))), (8, .int (nI i3))]) hx hb d_Mo_readParts_253 hl (k := 6) rfl (mk_i1 (io + 1)) (by decide) rfl (fun ls hl => ?_)
                        refine lv_goto (tgt := 13) hx hb d_Mo_readParts_256 (by decide) ?_
                        have hl : lv_has ls 10 [(0, .ref m0), (1, .int (nI r)), (2, .int (nI f)), (3, .int (nI p9)), (4, .int (nI (suN B f 11))), (5, .int (bI ov2)), (6, .int (nI (io + 1 + 1)))] := lv_sub hl [1, 2, 3, 4, 5, 6, 0] rfl
                        have hl9 : ([(0, .ref m0), (1, .int (nI r)), (2, .int (nI f)), (3, .int (nI p9)), (4, .int (nI (suN B f 11))), (5, .int (bI ov2)), (6, .int (nI (io + 1 + 1)))] : List (Nat × Value)) = [(0, .ref m0), (1, .int (nI r)), (2, .int (nI f)), (3, .int (nI p9)), (4, .int (nI (suN B f 11))), (5, .int (bI ov2)), (6, .int (nI ((io + 1) + 1)))] := by rfl
                        rw [hl9] at hl
                        exact ih13 (io + 1) c7 ov2 _ _ _ (by omega) (rpS_c hS3 (by omega)) hS3.2.1 (fun h9 => (hS3.2.2.1 h9).trans (by omega)) (rpS_e hS3 (by omega) (fun h9 => by first | omega | exact absurd (h9.symm.trans (show ov2 = false by assumption)) (by decide))) (ow_s hw hw2 (by omega)) hP hD hS hl
                      · skip
                        rw [nI_leI (by omega) (by omega)] at c_7
                        refine lv_iconst (v := nI 0) hx hb d_Mo_readParts_251 (by decide) ?_
                        exact hret _ _ _ _ (mt B f) c7 d_Mo_readParts_252 (fun j => mt_lt hB6 j) (by first | omega | exact hS3.1) hP hD hS
                  · skip
                    rw [nI_leI (by omega) (by omega)] at c_5
                    first | omega | contradiction
                | succ k3 ih120 =>
                  intro i3 c7 ov2 H locs ls hi3 hS3 hP hD hS hl
                  have hm9 := mt_lt (f := f) hB6 (13 * io + i3)
                  have hc7 := hS3.1
                  refine lv_iload hx hb d_Mo_readParts_120 (lv_at hl 8 rfl) ?_
                  refine lv_bipush (v := nI 13) hx hb d_Mo_readParts_122 (by decide) ?_
                  refine lv_icmp_ge (tgt := 240) hx hb d_Mo_readParts_124 (by decide) (fun c_8 => ?_) (fun c_8 => ?_)
                  · skip
                    rw [nI_leI (by omega) (by omega)] at c_8
                    first | omega | contradiction
                  · skip
                    rw [nI_leI (by omega) (by omega)] at c_8
                    refine lv_aload_n hx hb d_Mo_readParts_127 rfl (lv_at hl 0 rfl) ?_
                    refine va_get (D := (dC, dI)) (ci := 5) (v := .ref mb) (C := "LongNamesModel") (T := F_Mo) (N := 5) hx hb hts (iw_Mo _) hown hK hP 0 rfl rfl 3 (by decide) (hts _ (List.mem_cons_of_mem _ k_525)) (fun _ h9 => h9) rfl d_Mo_readParts_128 ?_
                    refine lv_iload hx hb d_Mo_readParts_131 (lv_at hl 7 rfl) ?_
                    refine lv_iload hx hb d_Mo_readParts_133 (lv_at hl 8 rfl) ?_
                    refine mk_r1 (W.runS (As := [.int (nI i3)]) (rest := [.int (nI (f - (32 * (io + 1)))), .ref mb]) S (c_Mo_place l dC dI cI i3 (by first | assumption | omega)) (gS 1 hts k_618 k_619 k_29 k_620 (by decide +kernel) ⟨Nat.le_of_ble_eq_true rfl, Nat.le_of_ble_eq_true rfl⟩) (mk_sR hP hK hT hS [] rfl) rfl rfl hl.1 rfl (lv_room (Nat.le_of_ble_eq_true rfl)) d_Mo_readParts_135 ⟨Nat.zero_le _, Nat.zero_le _⟩) ?_
                    have b_9 := plN_le (show i3 < 13 by omega)
                    refine lv_iadd hx hb d_Mo_readParts_138 ?_
                    refine mk_ti (y := nI (f - (32 * (io + 1)) + plN i3)) (nI_add (f - (32 * (io + 1))) (plN i3)) ?_
                    refine va_iald hx hb hK hP 3 0 rfl rfl (vp_in_nI (N := 1024) (show f - (32 * (io + 1)) + plN i3 < 1024 by omega) (by decide)) d_Mo_readParts_139 ?_
                    refine mk_ti (y := nI (B (f - (32 * (io + 1)) + plN i3))) (by rw [nI_clamp (by omega)]; rfl) ?_
                    have b_10 := hB6 (f - (32 * (io + 1)) + plN i3)
                    refine lv_sipush (v := nI 256) hx hb d_Mo_readParts_140 (by decide) ?_
                    refine lv_aload_n hx hb d_Mo_readParts_143 rfl (lv_at hl 0 rfl) ?_
                    refine va_get (D := (dC, dI)) (ci := 5) (v := .ref mb) (C := "LongNamesModel") (T := F_Mo) (N := 5) hx hb hts (iw_Mo _) hown hK hP 0 rfl rfl 3 (by decide) (hts _ (List.mem_cons_of_mem _ k_525)) (fun _ h9 => h9) rfl d_Mo_readParts_144 ?_
                    refine lv_iload hx hb d_Mo_readParts_147 (lv_at hl 7 rfl) ?_
                    refine lv_iload hx hb d_Mo_readParts_149 (lv_at hl 8 rfl) ?_
                    refine mk_r1 (W.runS (As := [.int (nI i3)]) (rest := [.int (nI (f - (32 * (io + 1)))), .ref mb, .int (nI 256), .int (nI (B (f - (32 * (io + 1)) + plN i3)))]) S (c_Mo_place l dC dI cI i3 (by first | assumption | omega)) (gS 1 hts k_618 k_619 k_29 k_620 (by decide +kernel) ⟨Nat.le_of_ble_eq_true rfl, Nat.le_of_ble_eq_true rfl⟩) (mk_sR hP hK hT hS [] rfl) rfl rfl hl.1 rfl (lv_room (Nat.le_of_ble_eq_true rfl)) d_Mo_readParts_151 ⟨Nat.zero_le _, Nat.zero_le _⟩) ?_
                    have b_11 := plN_le (show i3 < 13 by omega)
                    refine lv_iadd hx hb d_Mo_readParts_154 ?_
                    refine mk_ti (y := nI (f - (32 * (io + 1)) + plN i3)) (nI_add (f - (32 * (io + 1))) (plN i3)) ?_
                    refine lv_iconst (v := nI 1) hx hb d_Mo_readParts_155 (by decide) ?_
                    refine lv_iadd hx hb d_Mo_readParts_156 ?_
                    refine mk_ti (y := nI (f - (32 * (io + 1)) + plN i3 + 1)) (nI_add (f - (32 * (io + 1)) + plN i3) 1) ?_
                    refine va_iald hx hb hK hP 3 0 rfl rfl (vp_in_nI (N := 1024) (show f - (32 * (io + 1)) + plN i3 + 1 < 1024 by omega) (by decide)) d_Mo_readParts_157 ?_
                    refine mk_ti (y := nI (B (f - (32 * (io + 1)) + plN i3 + 1))) (by rw [nI_clamp (by omega)]; rfl) ?_
                    have b_12 := hB6 (f - (32 * (io + 1)) + plN i3 + 1)
                    refine lv_imul hx hb d_Mo_readParts_158 ?_
                    refine mk_ti (y := nI (256 * (B (f - (32 * (io + 1)) + plN i3 + 1)))) (pk_mul 256 (B (f - (32 * (io + 1)) + plN i3 + 1))) ?_
                    refine lv_iadd hx hb d_Mo_readParts_159 ?_
                    refine mk_ti (y := nI (mt B f (13 * io + i3))) (by rw [nI_add]; congr 1; exact (mt_at (by omega)).symm) ?_
                    refine lv_istore (lv' := [(9, .int (nI (mt B f (13 * io + i3)))), (0, .ref m0), (1, .int (nI r)), (2, .int (nI f)), (3, .int (nI p9)), (4, .int (nI (suN B f 11))), (5, .int (bI ov2)), (6, .int (nI (io + 1))), (7, .int (nI (f - (32 * (io + 1))))), (8, .int (nI i3))]) hx hb d_Mo_readParts_160 hl (by decide) rfl (fun ls hl => ?_)
                    refine lv_iload hx hb d_Mo_readParts_162 (lv_at hl 6 rfl) ?_
                    refine lv_if_eq (tgt := 174) hx hb d_Mo_readParts_164 (by decide) (fun c_13 => ?_) (fun c_13 => ?_)
                    · skip
                      have c_13 := bI_0 c_13
                      refine lv_iload hx hb d_Mo_readParts_174 (lv_at hl 0 rfl) ?_
                      refine lv_if_ne (tgt := 186) hx hb d_Mo_readParts_176 (by decide) (fun c_14 => ?_) (fun c_14 => ?_)
                      · skip
                        rw [mk_ceq (by omega)] at c_14
                        refine lv_iload hx hb d_Mo_readParts_186 (lv_at hl 6 rfl) ?_
                        refine lv_if_ne (tgt := 196) hx hb d_Mo_readParts_188 (by decide) (fun c_15 => ?_) (fun c_15 => ?_)
                        · skip
                          have c_15 := bI_1 c_15
                          refine lv_iconst (v := nI 1) hx hb d_Mo_readParts_196 (by decide) ?_
                          refine lv_goto (tgt := 201) hx hb d_Mo_readParts_197 (by decide) ?_
                          refine lv_istore (lv' := [(5, .int (nI 1)), (9, .int (nI (mt B f (13 * io + i3)))), (0, .ref m0), (1, .int (nI r)), (2, .int (nI f)), (3, .int (nI p9)), (4, .int (nI (suN B f 11))), (6, .int (nI (io + 1))), (7, .int (nI (f - (32 * (io + 1))))), (8, .int (nI i3))]) hx hb d_Mo_readParts_201 hl (by decide) rfl (fun ls hl => ?_)
                          refine lv_iload hx hb d_Mo_readParts_203 (lv_at hl 0 rfl) ?_
                          refine lv_if_ne (tgt := 222) hx hb d_Mo_readParts_205 (by decide) (fun c_16 => ?_) (fun c_16 => ?_)
                          · skip
                            rw [mk_ceq (by omega)] at c_16
                            refine lv_iload hx hb d_Mo_readParts_222 (lv_at hl 0 rfl) ?_
                            refine lv_if_ne (tgt := 234) hx hb d_Mo_readParts_224 (by decide) (fun c_17 => ?_) (fun c_17 => ?_)
                            · skip
                              rw [mk_ceq (by omega)] at c_17
                              refine lv_iinc (v := nI (i3 + 1)) (lv' := [(8, .int (nI (i3 + 1))), (5, .int (nI 1)), (9, .int (nI (mt B f (13 * io + i3)))), (0, .ref m0), (1, .int (nI r)), (2, .int (nI f)), (3, .int (nI p9)), (4, .int (nI (suN B f 11))), (6, .int (nI (io + 1))), (7, .int (nI (f - (32 * (io + 1)))))]) hx hb d_Mo_readParts_234 hl (k := 9) rfl (mk_i1 i3) (by decide) rfl (fun ls hl => ?_)
                              refine lv_goto (tgt := 120) hx hb d_Mo_readParts_237 (by decide) ?_
                              have hl : lv_has ls 10 [(0, .ref m0), (1, .int (nI r)), (2, .int (nI f)), (3, .int (nI p9)), (4, .int (nI (suN B f 11))), (5, .int (nI 1)), (6, .int (nI (io + 1))), (7, .int (nI (f - (32 * (io + 1))))), (8, .int (nI (i3 + 1)))] := lv_sub hl [3, 4, 5, 6, 7, 1, 8, 9, 0] rfl
                              have hl9 : ([(0, .ref m0), (1, .int (nI r)), (2, .int (nI f)), (3, .int (nI p9)), (4, .int (nI (suN B f 11))), (5, .int (nI 1)), (6, .int (nI (io + 1))), (7, .int (nI (f - (32 * (io + 1))))), (8, .int (nI (i3 + 1)))] : List (Nat × Value)) = [(0, .ref m0), (1, .int (nI r)), (2, .int (nI f)), (3, .int (nI p9)), (4, .int (nI (suN B f 11))), (5, .int (bI true)), (6, .int (nI (io + 1))), (7, .int (nI (f - (32 * (io + 1))))), (8, .int (nI (i3 + 1)))] := by rfl
                              rw [hl9] at hl
                              exact ih120 (i3 + 1) c7 true _ _ _ (by omega) (by first | exact rpS_o (T := 13 * io + i3) hS3 (by assumption) (by omega) | exact rpS_z (T := 13 * io + i3) hS3 (by assumption) (by omega) (by omega) | (exfalso; simp_all; done)) hP hD hS hl
                            · skip
                              rw [mk_ceq (by omega)] at c_17
                              first | omega | contradiction
                          · skip
                            rw [mk_ceq (by omega)] at c_16
                            first | omega | contradiction
                        · skip
                          have c_15 := bI_0 c_15
                          refine lv_iload hx hb d_Mo_readParts_191 (lv_at hl 0 rfl) ?_
                          refine lv_if_ne (tgt := 200) hx hb d_Mo_readParts_193 (by decide) (fun c_18 => ?_) (fun c_18 => ?_)
                          · skip
                            rw [mk_ceq (by omega)] at c_18
                            refine lv_iconst (v := nI 0) hx hb d_Mo_readParts_200 (by decide) ?_
                            refine lv_istore (lv' := [(5, .int (nI 0)), (9, .int (nI (mt B f (13 * io + i3)))), (0, .ref m0), (1, .int (nI r)), (2, .int (nI f)), (3, .int (nI p9)), (4, .int (nI (suN B f 11))), (6, .int (nI (io + 1))), (7, .int (nI (f - (32 * (io + 1))))), (8, .int (nI i3))]) hx hb d_Mo_readParts_201 hl (by decide) rfl (fun ls hl => ?_)
                            refine lv_iload hx hb d_Mo_readParts_203 (lv_at hl 0 rfl) ?_
                            refine lv_if_ne (tgt := 222) hx hb d_Mo_readParts_205 (by decide) (fun c_19 => ?_) (fun c_19 => ?_)
                            · skip
                              rw [mk_ceq (by omega)] at c_19
                              first | omega | contradiction
                            · skip
                              rw [mk_ceq (by omega)] at c_19
                              refine lv_aload_n hx hb d_Mo_readParts_208 rfl (lv_at hl 2 rfl) ?_
                              refine va_get (D := (dC, dI)) (ci := 5) (v := .ref mz) (C := "LongNamesModel") (T := F_Mo) (N := 5) hx hb hts (iw_Mo _) hown hK hP 0 rfl rfl 2 (by decide) (hts _ (List.mem_cons_of_mem _ k_524)) (fun _ h9 => h9) rfl d_Mo_readParts_209 ?_
                              refine lv_iload_n hx hb d_Mo_readParts_212 rfl (lv_at hl 3 rfl) ?_
                              refine va_iald hx hb hK hP 2 0 rfl rfl (vp_in_nI (N := 2) (show r < 2 by omega) (by decide)) d_Mo_readParts_213 ?_
                              refine mk_ti (y := nI c7) (by rw [nI_clamp (by omega)]; exact mk_uat) ?_
                              refine lv_sipush (v := nI 255) hx hb d_Mo_readParts_214 (by decide) ?_
                              refine lv_icmp_ne (tgt := 222) hx hb d_Mo_readParts_217 (by decide) (fun c_20 => ?_) (fun c_20 => ?_)
                              · skip
                                rw [nI_eq (by omega) (by omega)] at c_20
                                refine lv_iload hx hb d_Mo_readParts_222 (lv_at hl 0 rfl) ?_
                                refine lv_if_ne (tgt := 234) hx hb d_Mo_readParts_224 (by decide) (fun c_21 => ?_) (fun c_21 => ?_)
                                · skip
                                  rw [mk_ceq (by omega)] at c_21
                                  first | omega | contradiction
                                · skip
                                  rw [mk_ceq (by omega)] at c_21
                                  refine lv_aload_n hx hb d_Mo_readParts_227 rfl (lv_at hl 2 rfl) ?_
                                  refine lv_iload_n hx hb d_Mo_readParts_228 rfl (lv_at hl 3 rfl) ?_
                                  refine lv_iload hx hb d_Mo_readParts_229 (lv_at hl 1 rfl) ?_
                                  refine mk_w0 (wr := [(mb, .inl (cI, 1024, .inl (nf B)))]) (W.runV (As := [.int (nI r), .int (nI (mt B f (13 * io + i3)))]) (rest := []) S ((c_Mo_add l dC dI cI m0 th mu mz mb mr (stN U (mt B f) (255 * r) c7) Z r c7 (mt B f (13 * io + i3)) (by first | assumption | omega) (by first | assumption | omega)) _) (gV 2 hts k_633 k_635 k_21 k_29 k_636 (by decide +kernel) ⟨Nat.le_of_ble_eq_true rfl, Nat.le_of_ble_eq_true rfl⟩) (mk_vM hP hD hK hT hS hA [0, 1, 2] rfl rfl (by decide) (q0 := 0) (ci := 5) rfl rfl) rfl rfl hl.1 rfl (lv_room (Nat.le_of_ble_eq_true rfl)) d_Mo_readParts_231 ⟨Nat.zero_le _, Nat.zero_le _⟩) hP hD hS hA [0, 1, 2] [3] rfl rfl (by decide) (by decide) (fun H locs hP hD hS => ?_)
                                  have hP : va_P (dC, dI) vwCl [(m0, .inr (5, [.int th, .ref mu, .ref mz, .ref mb, .ref mr])), (mu, .inl (cI, 510, .inl (nf (uN (stN U (mt B f) (255 * r) c7) (255 * r + c7) (mt B f (13 * io + i3)))))), (mz, .inl (cI, 2, .inl (nf (uN Z r (c7 + 1))))), (mb, .inl (cI, 1024, .inl (nf B)))] H := hP.sub [1, 2, 3, 0] rfl
                                  have hD : va_D A [(m0, .inr (5, [.int th, .ref mu, .ref mz, .ref mb, .ref mr])), (mu, .inl (cI, 510, .inl (nf (uN (stN U (mt B f) (255 * r) c7) (255 * r + c7) (mt B f (13 * io + i3)))))), (mz, .inl (cI, 2, .inl (nf (uN Z r (c7 + 1))))), (mb, .inl (cI, 1024, .inl (nf B)))] := hD.sub [1, 2, 3, 0] (by decide) rfl
                                  refine lv_iinc (v := nI (i3 + 1)) (lv' := [(8, .int (nI (i3 + 1))), (5, .int (nI 0)), (9, .int (nI (mt B f (13 * io + i3)))), (0, .ref m0), (1, .int (nI r)), (2, .int (nI f)), (3, .int (nI p9)), (4, .int (nI (suN B f 11))), (6, .int (nI (io + 1))), (7, .int (nI (f - (32 * (io + 1)))))]) hx hb d_Mo_readParts_234 hl (k := 9) rfl (mk_i1 i3) (by decide) rfl (fun ls hl => ?_)
                                  refine lv_goto (tgt := 120) hx hb d_Mo_readParts_237 (by decide) ?_
                                  have hl : lv_has ls 10 [(0, .ref m0), (1, .int (nI r)), (2, .int (nI f)), (3, .int (nI p9)), (4, .int (nI (suN B f 11))), (5, .int (nI 0)), (6, .int (nI (io + 1))), (7, .int (nI (f - (32 * (io + 1))))), (8, .int (nI (i3 + 1)))] := lv_sub hl [3, 4, 5, 6, 7, 1, 8, 9, 0] rfl
                                  have hl9 : ([(0, .ref m0), (1, .int (nI r)), (2, .int (nI f)), (3, .int (nI p9)), (4, .int (nI (suN B f 11))), (5, .int (nI 0)), (6, .int (nI (io + 1))), (7, .int (nI (f - (32 * (io + 1))))), (8, .int (nI (i3 + 1)))] : List (Nat × Value)) = [(0, .ref m0), (1, .int (nI r)), (2, .int (nI f)), (3, .int (nI p9)), (4, .int (nI (suN B f 11))), (5, .int (bI false)), (6, .int (nI (io + 1))), (7, .int (nI (f - (32 * (io + 1))))), (8, .int (nI (i3 + 1)))] := by rfl
                                  rw [hl9] at hl
                                  have hw9 : ([(m0, .inr (5, [.int th, .ref mu, .ref mz, .ref mb, .ref mr])), (mu, .inl (cI, 510, .inl (nf (uN (stN U (mt B f) (255 * r) c7) (255 * r + c7) (mt B f (13 * io + i3)))))), (mz, .inl (cI, 2, .inl (nf (uN Z r (c7 + 1))))), (mb, .inl (cI, 1024, .inl (nf B)))] : va_W) = [(m0, .inr (5, [.int th, .ref mu, .ref mz, .ref mb, .ref mr])), (mu, .inl (cI, 510, .inl (nf (stN U (mt B f) (255 * r) (c7 + 1))))), (mz, .inl (cI, 2, .inl (nf (uN Z r (c7 + 1))))), (mb, .inl (cI, 1024, .inl (nf B)))] := by rw [stN_s (by rw [hS3.2.2.1 (by assumption)])]
                                  rw [hw9] at hP hD
                                  exact ih120 (i3 + 1) (c7 + 1) false _ _ _ (by omega) (by first | exact rpS_a (T := 13 * io + i3) hS3 (by assumption) (by assumption) (by assumption) | (exfalso; simp_all; done)) hP hD hS hl
                              · skip
                                rw [nI_eq (by omega) (by omega)] at c_20
                                refine lv_iconst (v := nI 0) hx hb d_Mo_readParts_220 (by decide) ?_
                                exact hret _ _ _ _ (mt B f) c7 d_Mo_readParts_221 (fun j => mt_lt hB6 j) (by first | omega | exact hS3.1) hP hD hS
                          · skip
                            rw [mk_ceq (by omega)] at c_18
                            refine lv_iconst (v := nI 1) hx hb d_Mo_readParts_196 (by decide) ?_
                            refine lv_goto (tgt := 201) hx hb d_Mo_readParts_197 (by decide) ?_
                            refine lv_istore (lv' := [(5, .int (nI 1)), (9, .int (nI (mt B f (13 * io + i3)))), (0, .ref m0), (1, .int (nI r)), (2, .int (nI f)), (3, .int (nI p9)), (4, .int (nI (suN B f 11))), (6, .int (nI (io + 1))), (7, .int (nI (f - (32 * (io + 1))))), (8, .int (nI i3))]) hx hb d_Mo_readParts_201 hl (by decide) rfl (fun ls hl => ?_)
                            refine lv_iload hx hb d_Mo_readParts_203 (lv_at hl 0 rfl) ?_
                            refine lv_if_ne (tgt := 222) hx hb d_Mo_readParts_205 (by decide) (fun c_22 => ?_) (fun c_22 => ?_)
                            · skip
                              rw [mk_ceq (by omega)] at c_22
                              refine lv_iload hx hb d_Mo_readParts_222 (lv_at hl 0 rfl) ?_
                              refine lv_if_ne (tgt := 234) hx hb d_Mo_readParts_224 (by decide) (fun c_23 => ?_) (fun c_23 => ?_)
                              · skip
                                rw [mk_ceq (by omega)] at c_23
                                refine lv_iinc (v := nI (i3 + 1)) (lv' := [(8, .int (nI (i3 + 1))), (5, .int (nI 1)), (9, .int (nI (mt B f (13 * io + i3)))), (0, .ref m0), (1, .int (nI r)), (2, .int (nI f)), (3, .int (nI p9)), (4, .int (nI (suN B f 11))), (6, .int (nI (io + 1))), (7, .int (nI (f - (32 * (io + 1)))))]) hx hb d_Mo_readParts_234 hl (k := 9) rfl (mk_i1 i3) (by decide) rfl (fun ls hl => ?_)
                                refine lv_goto (tgt := 120) hx hb d_Mo_readParts_237 (by decide) ?_
                                have hl : lv_has ls 10 [(0, .ref m0), (1, .int (nI r)), (2, .int (nI f)), (3, .int (nI p9)), (4, .int (nI (suN B f 11))), (5, .int (nI 1)), (6, .int (nI (io + 1))), (7, .int (nI (f - (32 * (io + 1))))), (8, .int (nI (i3 + 1)))] := lv_sub hl [3, 4, 5, 6, 7, 1, 8, 9, 0] rfl
                                have hl9 : ([(0, .ref m0), (1, .int (nI r)), (2, .int (nI f)), (3, .int (nI p9)), (4, .int (nI (suN B f 11))), (5, .int (nI 1)), (6, .int (nI (io + 1))), (7, .int (nI (f - (32 * (io + 1))))), (8, .int (nI (i3 + 1)))] : List (Nat × Value)) = [(0, .ref m0), (1, .int (nI r)), (2, .int (nI f)), (3, .int (nI p9)), (4, .int (nI (suN B f 11))), (5, .int (bI true)), (6, .int (nI (io + 1))), (7, .int (nI (f - (32 * (io + 1))))), (8, .int (nI (i3 + 1)))] := by rfl
                                rw [hl9] at hl
                                exact ih120 (i3 + 1) c7 true _ _ _ (by omega) (by first | exact rpS_o (T := 13 * io + i3) hS3 (by assumption) (by omega) | exact rpS_z (T := 13 * io + i3) hS3 (by assumption) (by omega) (by omega) | (exfalso; simp_all; done)) hP hD hS hl
                              · skip
                                rw [mk_ceq (by omega)] at c_23
                                first | omega | contradiction
                            · skip
                              rw [mk_ceq (by omega)] at c_22
                              first | omega | contradiction
                      · skip
                        rw [mk_ceq (by omega)] at c_14
                        refine lv_iload hx hb d_Mo_readParts_179 (lv_at hl 9 rfl) ?_
                        refine lv_if_ne (tgt := 186) hx hb d_Mo_readParts_181 (by decide) (fun c_24 => ?_) (fun c_24 => ?_)
                        · skip
                          rw [mk_ceq (by omega)] at c_24
                          refine lv_iload hx hb d_Mo_readParts_186 (lv_at hl 6 rfl) ?_
                          refine lv_if_ne (tgt := 196) hx hb d_Mo_readParts_188 (by decide) (fun c_25 => ?_) (fun c_25 => ?_)
                          · skip
                            have c_25 := bI_1 c_25
                            refine lv_iconst (v := nI 1) hx hb d_Mo_readParts_196 (by decide) ?_
                            refine lv_goto (tgt := 201) hx hb d_Mo_readParts_197 (by decide) ?_
                            refine lv_istore (lv' := [(5, .int (nI 1)), (9, .int (nI (mt B f (13 * io + i3)))), (0, .ref m0), (1, .int (nI r)), (2, .int (nI f)), (3, .int (nI p9)), (4, .int (nI (suN B f 11))), (6, .int (nI (io + 1))), (7, .int (nI (f - (32 * (io + 1))))), (8, .int (nI i3))]) hx hb d_Mo_readParts_201 hl (by decide) rfl (fun ls hl => ?_)
                            refine lv_iload hx hb d_Mo_readParts_203 (lv_at hl 0 rfl) ?_
                            refine lv_if_ne (tgt := 222) hx hb d_Mo_readParts_205 (by decide) (fun c_26 => ?_) (fun c_26 => ?_)
                            · skip
                              rw [mk_ceq (by omega)] at c_26
                              refine lv_iload hx hb d_Mo_readParts_222 (lv_at hl 0 rfl) ?_
                              refine lv_if_ne (tgt := 234) hx hb d_Mo_readParts_224 (by decide) (fun c_27 => ?_) (fun c_27 => ?_)
                              · skip
                                rw [mk_ceq (by omega)] at c_27
                                refine lv_iinc (v := nI (i3 + 1)) (lv' := [(8, .int (nI (i3 + 1))), (5, .int (nI 1)), (9, .int (nI (mt B f (13 * io + i3)))), (0, .ref m0), (1, .int (nI r)), (2, .int (nI f)), (3, .int (nI p9)), (4, .int (nI (suN B f 11))), (6, .int (nI (io + 1))), (7, .int (nI (f - (32 * (io + 1)))))]) hx hb d_Mo_readParts_234 hl (k := 9) rfl (mk_i1 i3) (by decide) rfl (fun ls hl => ?_)
                                refine lv_goto (tgt := 120) hx hb d_Mo_readParts_237 (by decide) ?_
                                have hl : lv_has ls 10 [(0, .ref m0), (1, .int (nI r)), (2, .int (nI f)), (3, .int (nI p9)), (4, .int (nI (suN B f 11))), (5, .int (nI 1)), (6, .int (nI (io + 1))), (7, .int (nI (f - (32 * (io + 1))))), (8, .int (nI (i3 + 1)))] := lv_sub hl [3, 4, 5, 6, 7, 1, 8, 9, 0] rfl
                                have hl9 : ([(0, .ref m0), (1, .int (nI r)), (2, .int (nI f)), (3, .int (nI p9)), (4, .int (nI (suN B f 11))), (5, .int (nI 1)), (6, .int (nI (io + 1))), (7, .int (nI (f - (32 * (io + 1))))), (8, .int (nI (i3 + 1)))] : List (Nat × Value)) = [(0, .ref m0), (1, .int (nI r)), (2, .int (nI f)), (3, .int (nI p9)), (4, .int (nI (suN B f 11))), (5, .int (bI true)), (6, .int (nI (io + 1))), (7, .int (nI (f - (32 * (io + 1))))), (8, .int (nI (i3 + 1)))] := by rfl
                                rw [hl9] at hl
                                exact ih120 (i3 + 1) c7 true _ _ _ (by omega) (by first | exact rpS_o (T := 13 * io + i3) hS3 (by assumption) (by omega) | exact rpS_z (T := 13 * io + i3) hS3 (by assumption) (by omega) (by omega) | (exfalso; simp_all; done)) hP hD hS hl
                              · skip
                                rw [mk_ceq (by omega)] at c_27
                                first | omega | contradiction
                            · skip
                              rw [mk_ceq (by omega)] at c_26
                              first | omega | contradiction
                          · skip
                            have c_25 := bI_0 c_25
                            refine lv_iload hx hb d_Mo_readParts_191 (lv_at hl 0 rfl) ?_
                            refine lv_if_ne (tgt := 200) hx hb d_Mo_readParts_193 (by decide) (fun c_28 => ?_) (fun c_28 => ?_)
                            · skip
                              rw [mk_ceq (by omega)] at c_28
                              refine lv_iconst (v := nI 0) hx hb d_Mo_readParts_200 (by decide) ?_
                              refine lv_istore (lv' := [(5, .int (nI 0)), (9, .int (nI (mt B f (13 * io + i3)))), (0, .ref m0), (1, .int (nI r)), (2, .int (nI f)), (3, .int (nI p9)), (4, .int (nI (suN B f 11))), (6, .int (nI (io + 1))), (7, .int (nI (f - (32 * (io + 1))))), (8, .int (nI i3))]) hx hb d_Mo_readParts_201 hl (by decide) rfl (fun ls hl => ?_)
                              refine lv_iload hx hb d_Mo_readParts_203 (lv_at hl 0 rfl) ?_
                              refine lv_if_ne (tgt := 222) hx hb d_Mo_readParts_205 (by decide) (fun c_29 => ?_) (fun c_29 => ?_)
                              · skip
                                rw [mk_ceq (by omega)] at c_29
                                first | omega | contradiction
                              · skip
                                rw [mk_ceq (by omega)] at c_29
                                refine lv_aload_n hx hb d_Mo_readParts_208 rfl (lv_at hl 2 rfl) ?_
                                refine va_get (D := (dC, dI)) (ci := 5) (v := .ref mz) (C := "LongNamesModel") (T := F_Mo) (N := 5) hx hb hts (iw_Mo _) hown hK hP 0 rfl rfl 2 (by decide) (hts _ (List.mem_cons_of_mem _ k_524)) (fun _ h9 => h9) rfl d_Mo_readParts_209 ?_
                                refine lv_iload_n hx hb d_Mo_readParts_212 rfl (lv_at hl 3 rfl) ?_
                                refine va_iald hx hb hK hP 2 0 rfl rfl (vp_in_nI (N := 2) (show r < 2 by omega) (by decide)) d_Mo_readParts_213 ?_
                                refine mk_ti (y := nI c7) (by rw [nI_clamp (by omega)]; exact mk_uat) ?_
                                refine lv_sipush (v := nI 255) hx hb d_Mo_readParts_214 (by decide) ?_
                                refine lv_icmp_ne (tgt := 222) hx hb d_Mo_readParts_217 (by decide) (fun c_30 => ?_) (fun c_30 => ?_)
                                · skip
                                  rw [nI_eq (by omega) (by omega)] at c_30
                                  refine lv_iload hx hb d_Mo_readParts_222 (lv_at hl 0 rfl) ?_
                                  refine lv_if_ne (tgt := 234) hx hb d_Mo_readParts_224 (by decide) (fun c_31 => ?_) (fun c_31 => ?_)
                                  · skip
                                    rw [mk_ceq (by omega)] at c_31
                                    first | omega | contradiction
                                  · skip
                                    rw [mk_ceq (by omega)] at c_31
                                    refine lv_aload_n hx hb d_Mo_readParts_227 rfl (lv_at hl 2 rfl) ?_
                                    refine lv_iload_n hx hb d_Mo_readParts_228 rfl (lv_at hl 3 rfl) ?_
                                    refine lv_iload hx hb d_Mo_readParts_229 (lv_at hl 1 rfl) ?_
                                    refine mk_w0 (wr := [(mb, .inl (cI, 1024, .inl (nf B)))]) (W.runV (As := [.int (nI r), .int (nI (mt B f (13 * io + i3)))]) (rest := []) S ((c_Mo_add l dC dI cI m0 th mu mz mb mr (stN U (mt B f) (255 * r) c7) Z r c7 (mt B f (13 * io + i3)) (by first | assumption | omega) (by first | assumption | omega)) _) (gV 2 hts k_633 k_635 k_21 k_29 k_636 (by decide +kernel) ⟨Nat.le_of_ble_eq_true rfl, Nat.le_of_ble_eq_true rfl⟩) (mk_vM hP hD hK hT hS hA [0, 1, 2] rfl rfl (by decide) (q0 := 0) (ci := 5) rfl rfl) rfl rfl hl.1 rfl (lv_room (Nat.le_of_ble_eq_true rfl)) d_Mo_readParts_231 ⟨Nat.zero_le _, Nat.zero_le _⟩) hP hD hS hA [0, 1, 2] [3] rfl rfl (by decide) (by decide) (fun H locs hP hD hS => ?_)
                                    have hP : va_P (dC, dI) vwCl [(m0, .inr (5, [.int th, .ref mu, .ref mz, .ref mb, .ref mr])), (mu, .inl (cI, 510, .inl (nf (uN (stN U (mt B f) (255 * r) c7) (255 * r + c7) (mt B f (13 * io + i3)))))), (mz, .inl (cI, 2, .inl (nf (uN Z r (c7 + 1))))), (mb, .inl (cI, 1024, .inl (nf B)))] H := hP.sub [1, 2, 3, 0] rfl
                                    have hD : va_D A [(m0, .inr (5, [.int th, .ref mu, .ref mz, .ref mb, .ref mr])), (mu, .inl (cI, 510, .inl (nf (uN (stN U (mt B f) (255 * r) c7) (255 * r + c7) (mt B f (13 * io + i3)))))), (mz, .inl (cI, 2, .inl (nf (uN Z r (c7 + 1))))), (mb, .inl (cI, 1024, .inl (nf B)))] := hD.sub [1, 2, 3, 0] (by decide) rfl
                                    refine lv_iinc (v := nI (i3 + 1)) (lv' := [(8, .int (nI (i3 + 1))), (5, .int (nI 0)), (9, .int (nI (mt B f (13 * io + i3)))), (0, .ref m0), (1, .int (nI r)), (2, .int (nI f)), (3, .int (nI p9)), (4, .int (nI (suN B f 11))), (6, .int (nI (io + 1))), (7, .int (nI (f - (32 * (io + 1)))))]) hx hb d_Mo_readParts_234 hl (k := 9) rfl (mk_i1 i3) (by decide) rfl (fun ls hl => ?_)
                                    refine lv_goto (tgt := 120) hx hb d_Mo_readParts_237 (by decide) ?_
                                    have hl : lv_has ls 10 [(0, .ref m0), (1, .int (nI r)), (2, .int (nI f)), (3, .int (nI p9)), (4, .int (nI (suN B f 11))), (5, .int (nI 0)), (6, .int (nI (io + 1))), (7, .int (nI (f - (32 * (io + 1))))), (8, .int (nI (i3 + 1)))] := lv_sub hl [3, 4, 5, 6, 7, 1, 8, 9, 0] rfl
                                    have hl9 : ([(0, .ref m0), (1, .int (nI r)), (2, .int (nI f)), (3, .int (nI p9)), (4, .int (nI (suN B f 11))), (5, .int (nI 0)), (6, .int (nI (io + 1))), (7, .int (nI (f - (32 * (io + 1))))), (8, .int (nI (i3 + 1)))] : List (Nat × Value)) = [(0, .ref m0), (1, .int (nI r)), (2, .int (nI f)), (3, .int (nI p9)), (4, .int (nI (suN B f 11))), (5, .int (bI false)), (6, .int (nI (io + 1))), (7, .int (nI (f - (32 * (io + 1))))), (8, .int (nI (i3 + 1)))] := by rfl
                                    rw [hl9] at hl
                                    have hw9 : ([(m0, .inr (5, [.int th, .ref mu, .ref mz, .ref mb, .ref mr])), (mu, .inl (cI, 510, .inl (nf (uN (stN U (mt B f) (255 * r) c7) (255 * r + c7) (mt B f (13 * io + i3)))))), (mz, .inl (cI, 2, .inl (nf (uN Z r (c7 + 1))))), (mb, .inl (cI, 1024, .inl (nf B)))] : va_W) = [(m0, .inr (5, [.int th, .ref mu, .ref mz, .ref mb, .ref mr])), (mu, .inl (cI, 510, .inl (nf (stN U (mt B f) (255 * r) (c7 + 1))))), (mz, .inl (cI, 2, .inl (nf (uN Z r (c7 + 1))))), (mb, .inl (cI, 1024, .inl (nf B)))] := by rw [stN_s (by rw [hS3.2.2.1 (by assumption)])]
                                    rw [hw9] at hP hD
                                    exact ih120 (i3 + 1) (c7 + 1) false _ _ _ (by omega) (by first | exact rpS_a (T := 13 * io + i3) hS3 (by assumption) (by assumption) (by assumption) | (exfalso; simp_all; done)) hP hD hS hl
                                · skip
                                  rw [nI_eq (by omega) (by omega)] at c_30
                                  refine lv_iconst (v := nI 0) hx hb d_Mo_readParts_220 (by decide) ?_
                                  exact hret _ _ _ _ (mt B f) c7 d_Mo_readParts_221 (fun j => mt_lt hB6 j) (by first | omega | exact hS3.1) hP hD hS
                            · skip
                              rw [mk_ceq (by omega)] at c_28
                              refine lv_iconst (v := nI 1) hx hb d_Mo_readParts_196 (by decide) ?_
                              refine lv_goto (tgt := 201) hx hb d_Mo_readParts_197 (by decide) ?_
                              refine lv_istore (lv' := [(5, .int (nI 1)), (9, .int (nI (mt B f (13 * io + i3)))), (0, .ref m0), (1, .int (nI r)), (2, .int (nI f)), (3, .int (nI p9)), (4, .int (nI (suN B f 11))), (6, .int (nI (io + 1))), (7, .int (nI (f - (32 * (io + 1))))), (8, .int (nI i3))]) hx hb d_Mo_readParts_201 hl (by decide) rfl (fun ls hl => ?_)
                              refine lv_iload hx hb d_Mo_readParts_203 (lv_at hl 0 rfl) ?_
                              refine lv_if_ne (tgt := 222) hx hb d_Mo_readParts_205 (by decide) (fun c_32 => ?_) (fun c_32 => ?_)
                              · skip
                                rw [mk_ceq (by omega)] at c_32
                                refine lv_iload hx hb d_Mo_readParts_222 (lv_at hl 0 rfl) ?_
                                refine lv_if_ne (tgt := 234) hx hb d_Mo_readParts_224 (by decide) (fun c_33 => ?_) (fun c_33 => ?_)
                                · skip
                                  rw [mk_ceq (by omega)] at c_33
                                  refine lv_iinc (v := nI (i3 + 1)) (lv' := [(8, .int (nI (i3 + 1))), (5, .int (nI 1)), (9, .int (nI (mt B f (13 * io + i3)))), (0, .ref m0), (1, .int (nI r)), (2, .int (nI f)), (3, .int (nI p9)), (4, .int (nI (suN B f 11))), (6, .int (nI (io + 1))), (7, .int (nI (f - (32 * (io + 1)))))]) hx hb d_Mo_readParts_234 hl (k := 9) rfl (mk_i1 i3) (by decide) rfl (fun ls hl => ?_)
                                  refine lv_goto (tgt := 120) hx hb d_Mo_readParts_237 (by decide) ?_
                                  have hl : lv_has ls 10 [(0, .ref m0), (1, .int (nI r)), (2, .int (nI f)), (3, .int (nI p9)), (4, .int (nI (suN B f 11))), (5, .int (nI 1)), (6, .int (nI (io + 1))), (7, .int (nI (f - (32 * (io + 1))))), (8, .int (nI (i3 + 1)))] := lv_sub hl [3, 4, 5, 6, 7, 1, 8, 9, 0] rfl
                                  have hl9 : ([(0, .ref m0), (1, .int (nI r)), (2, .int (nI f)), (3, .int (nI p9)), (4, .int (nI (suN B f 11))), (5, .int (nI 1)), (6, .int (nI (io + 1))), (7, .int (nI (f - (32 * (io + 1))))), (8, .int (nI (i3 + 1)))] : List (Nat × Value)) = [(0, .ref m0), (1, .int (nI r)), (2, .int (nI f)), (3, .int (nI p9)), (4, .int (nI (suN B f 11))), (5, .int (bI true)), (6, .int (nI (io + 1))), (7, .int (nI (f - (32 * (io + 1))))), (8, .int (nI (i3 + 1)))] := by rfl
                                  rw [hl9] at hl
                                  exact ih120 (i3 + 1) c7 true _ _ _ (by omega) (by first | exact rpS_o (T := 13 * io + i3) hS3 (by assumption) (by omega) | exact rpS_z (T := 13 * io + i3) hS3 (by assumption) (by omega) (by omega) | (exfalso; simp_all; done)) hP hD hS hl
                                · skip
                                  rw [mk_ceq (by omega)] at c_33
                                  first | omega | contradiction
                              · skip
                                rw [mk_ceq (by omega)] at c_32
                                first | omega | contradiction
                        · skip
                          rw [mk_ceq (by omega)] at c_24
                          refine lv_iconst (v := nI 0) hx hb d_Mo_readParts_184 (by decide) ?_
                          exact hret _ _ _ _ (mt B f) c7 d_Mo_readParts_185 (fun j => mt_lt hB6 j) (by first | omega | exact hS3.1) hP hD hS
                    · skip
                      have c_13 := bI_1 c_13
                      refine lv_iload hx hb d_Mo_readParts_167 (lv_at hl 0 rfl) ?_
                      refine lv_ldc (v := nI 65535) hx hb hown (hts _ (List.mem_cons_of_mem _ k_549)) d_Mo_readParts_169 ?_
                      refine lv_icmp_ne (tgt := 184) hx hb d_Mo_readParts_171 (by decide) (fun c_34 => ?_) (fun c_34 => ?_)
                      · skip
                        rw [nI_eq (by omega) (by omega)] at c_34
                        refine lv_iconst (v := nI 0) hx hb d_Mo_readParts_184 (by decide) ?_
                        exact hret _ _ _ _ (mt B f) c7 d_Mo_readParts_185 (fun j => mt_lt hB6 j) (by first | omega | exact hS3.1) hP hD hS
                      · skip
                        rw [nI_eq (by omega) (by omega)] at c_34
                        refine lv_iload hx hb d_Mo_readParts_174 (lv_at hl 0 rfl) ?_
                        refine lv_if_ne (tgt := 186) hx hb d_Mo_readParts_176 (by decide) (fun c_35 => ?_) (fun c_35 => ?_)
                        · skip
                          rw [mk_ceq (by omega)] at c_35
                          refine lv_iload hx hb d_Mo_readParts_186 (lv_at hl 6 rfl) ?_
                          refine lv_if_ne (tgt := 196) hx hb d_Mo_readParts_188 (by decide) (fun c_36 => ?_) (fun c_36 => ?_)
                          · skip
                            have c_36 := bI_1 c_36
                            refine lv_iconst (v := nI 1) hx hb d_Mo_readParts_196 (by decide) ?_
                            refine lv_goto (tgt := 201) hx hb d_Mo_readParts_197 (by decide) ?_
                            refine lv_istore (lv' := [(5, .int (nI 1)), (9, .int (nI (mt B f (13 * io + i3)))), (0, .ref m0), (1, .int (nI r)), (2, .int (nI f)), (3, .int (nI p9)), (4, .int (nI (suN B f 11))), (6, .int (nI (io + 1))), (7, .int (nI (f - (32 * (io + 1))))), (8, .int (nI i3))]) hx hb d_Mo_readParts_201 hl (by decide) rfl (fun ls hl => ?_)
                            refine lv_iload hx hb d_Mo_readParts_203 (lv_at hl 0 rfl) ?_
                            refine lv_if_ne (tgt := 222) hx hb d_Mo_readParts_205 (by decide) (fun c_37 => ?_) (fun c_37 => ?_)
                            · skip
                              rw [mk_ceq (by omega)] at c_37
                              refine lv_iload hx hb d_Mo_readParts_222 (lv_at hl 0 rfl) ?_
                              refine lv_if_ne (tgt := 234) hx hb d_Mo_readParts_224 (by decide) (fun c_38 => ?_) (fun c_38 => ?_)
                              · skip
                                rw [mk_ceq (by omega)] at c_38
                                refine lv_iinc (v := nI (i3 + 1)) (lv' := [(8, .int (nI (i3 + 1))), (5, .int (nI 1)), (9, .int (nI (mt B f (13 * io + i3)))), (0, .ref m0), (1, .int (nI r)), (2, .int (nI f)), (3, .int (nI p9)), (4, .int (nI (suN B f 11))), (6, .int (nI (io + 1))), (7, .int (nI (f - (32 * (io + 1)))))]) hx hb d_Mo_readParts_234 hl (k := 9) rfl (mk_i1 i3) (by decide) rfl (fun ls hl => ?_)
                                refine lv_goto (tgt := 120) hx hb d_Mo_readParts_237 (by decide) ?_
                                have hl : lv_has ls 10 [(0, .ref m0), (1, .int (nI r)), (2, .int (nI f)), (3, .int (nI p9)), (4, .int (nI (suN B f 11))), (5, .int (nI 1)), (6, .int (nI (io + 1))), (7, .int (nI (f - (32 * (io + 1))))), (8, .int (nI (i3 + 1)))] := lv_sub hl [3, 4, 5, 6, 7, 1, 8, 9, 0] rfl
                                have hl9 : ([(0, .ref m0), (1, .int (nI r)), (2, .int (nI f)), (3, .int (nI p9)), (4, .int (nI (suN B f 11))), (5, .int (nI 1)), (6, .int (nI (io + 1))), (7, .int (nI (f - (32 * (io + 1))))), (8, .int (nI (i3 + 1)))] : List (Nat × Value)) = [(0, .ref m0), (1, .int (nI r)), (2, .int (nI f)), (3, .int (nI p9)), (4, .int (nI (suN B f 11))), (5, .int (bI true)), (6, .int (nI (io + 1))), (7, .int (nI (f - (32 * (io + 1))))), (8, .int (nI (i3 + 1)))] := by rfl
                                rw [hl9] at hl
                                exact ih120 (i3 + 1) c7 true _ _ _ (by omega) (by first | exact rpS_o (T := 13 * io + i3) hS3 (by assumption) (by omega) | exact rpS_z (T := 13 * io + i3) hS3 (by assumption) (by omega) (by omega) | (exfalso; simp_all; done)) hP hD hS hl
                              · skip
                                rw [mk_ceq (by omega)] at c_38
                                first | omega | contradiction
                            · skip
                              rw [mk_ceq (by omega)] at c_37
                              first | omega | contradiction
                          · skip
                            have c_36 := bI_0 c_36
                            refine lv_iload hx hb d_Mo_readParts_191 (lv_at hl 0 rfl) ?_
                            refine lv_if_ne (tgt := 200) hx hb d_Mo_readParts_193 (by decide) (fun c_39 => ?_) (fun c_39 => ?_)
                            · skip
                              rw [mk_ceq (by omega)] at c_39
                              refine lv_iconst (v := nI 0) hx hb d_Mo_readParts_200 (by decide) ?_
                              refine lv_istore (lv' := [(5, .int (nI 0)), (9, .int (nI (mt B f (13 * io + i3)))), (0, .ref m0), (1, .int (nI r)), (2, .int (nI f)), (3, .int (nI p9)), (4, .int (nI (suN B f 11))), (6, .int (nI (io + 1))), (7, .int (nI (f - (32 * (io + 1))))), (8, .int (nI i3))]) hx hb d_Mo_readParts_201 hl (by decide) rfl (fun ls hl => ?_)
                              refine lv_iload hx hb d_Mo_readParts_203 (lv_at hl 0 rfl) ?_
                              refine lv_if_ne (tgt := 222) hx hb d_Mo_readParts_205 (by decide) (fun c_40 => ?_) (fun c_40 => ?_)
                              · skip
                                rw [mk_ceq (by omega)] at c_40
                                first | omega | contradiction
                              · skip
                                rw [mk_ceq (by omega)] at c_40
                                refine lv_aload_n hx hb d_Mo_readParts_208 rfl (lv_at hl 2 rfl) ?_
                                refine va_get (D := (dC, dI)) (ci := 5) (v := .ref mz) (C := "LongNamesModel") (T := F_Mo) (N := 5) hx hb hts (iw_Mo _) hown hK hP 0 rfl rfl 2 (by decide) (hts _ (List.mem_cons_of_mem _ k_524)) (fun _ h9 => h9) rfl d_Mo_readParts_209 ?_
                                refine lv_iload_n hx hb d_Mo_readParts_212 rfl (lv_at hl 3 rfl) ?_
                                refine va_iald hx hb hK hP 2 0 rfl rfl (vp_in_nI (N := 2) (show r < 2 by omega) (by decide)) d_Mo_readParts_213 ?_
                                refine mk_ti (y := nI c7) (by rw [nI_clamp (by omega)]; exact mk_uat) ?_
                                refine lv_sipush (v := nI 255) hx hb d_Mo_readParts_214 (by decide) ?_
                                refine lv_icmp_ne (tgt := 222) hx hb d_Mo_readParts_217 (by decide) (fun c_41 => ?_) (fun c_41 => ?_)
                                · skip
                                  rw [nI_eq (by omega) (by omega)] at c_41
                                  refine lv_iload hx hb d_Mo_readParts_222 (lv_at hl 0 rfl) ?_
                                  refine lv_if_ne (tgt := 234) hx hb d_Mo_readParts_224 (by decide) (fun c_42 => ?_) (fun c_42 => ?_)
                                  · skip
                                    rw [mk_ceq (by omega)] at c_42
                                    first | omega | contradiction
                                  · skip
                                    rw [mk_ceq (by omega)] at c_42
                                    refine lv_aload_n hx hb d_Mo_readParts_227 rfl (lv_at hl 2 rfl) ?_
                                    refine lv_iload_n hx hb d_Mo_readParts_228 rfl (lv_at hl 3 rfl) ?_
                                    refine lv_iload hx hb d_Mo_readParts_229 (lv_at hl 1 rfl) ?_
                                    refine mk_w0 (wr := [(mb, .inl (cI, 1024, .inl (nf B)))]) (W.runV (As := [.int (nI r), .int (nI (mt B f (13 * io + i3)))]) (rest := []) S ((c_Mo_add l dC dI cI m0 th mu mz mb mr (stN U (mt B f) (255 * r) c7) Z r c7 (mt B f (13 * io + i3)) (by first | assumption | omega) (by first | assumption | omega)) _) (gV 2 hts k_633 k_635 k_21 k_29 k_636 (by decide +kernel) ⟨Nat.le_of_ble_eq_true rfl, Nat.le_of_ble_eq_true rfl⟩) (mk_vM hP hD hK hT hS hA [0, 1, 2] rfl rfl (by decide) (q0 := 0) (ci := 5) rfl rfl) rfl rfl hl.1 rfl (lv_room (Nat.le_of_ble_eq_true rfl)) d_Mo_readParts_231 ⟨Nat.zero_le _, Nat.zero_le _⟩) hP hD hS hA [0, 1, 2] [3] rfl rfl (by decide) (by decide) (fun H locs hP hD hS => ?_)
                                    have hP : va_P (dC, dI) vwCl [(m0, .inr (5, [.int th, .ref mu, .ref mz, .ref mb, .ref mr])), (mu, .inl (cI, 510, .inl (nf (uN (stN U (mt B f) (255 * r) c7) (255 * r + c7) (mt B f (13 * io + i3)))))), (mz, .inl (cI, 2, .inl (nf (uN Z r (c7 + 1))))), (mb, .inl (cI, 1024, .inl (nf B)))] H := hP.sub [1, 2, 3, 0] rfl
                                    have hD : va_D A [(m0, .inr (5, [.int th, .ref mu, .ref mz, .ref mb, .ref mr])), (mu, .inl (cI, 510, .inl (nf (uN (stN U (mt B f) (255 * r) c7) (255 * r + c7) (mt B f (13 * io + i3)))))), (mz, .inl (cI, 2, .inl (nf (uN Z r (c7 + 1))))), (mb, .inl (cI, 1024, .inl (nf B)))] := hD.sub [1, 2, 3, 0] (by decide) rfl
                                    refine lv_iinc (v := nI (i3 + 1)) (lv' := [(8, .int (nI (i3 + 1))), (5, .int (nI 0)), (9, .int (nI (mt B f (13 * io + i3)))), (0, .ref m0), (1, .int (nI r)), (2, .int (nI f)), (3, .int (nI p9)), (4, .int (nI (suN B f 11))), (6, .int (nI (io + 1))), (7, .int (nI (f - (32 * (io + 1)))))]) hx hb d_Mo_readParts_234 hl (k := 9) rfl (mk_i1 i3) (by decide) rfl (fun ls hl => ?_)
                                    refine lv_goto (tgt := 120) hx hb d_Mo_readParts_237 (by decide) ?_
                                    have hl : lv_has ls 10 [(0, .ref m0), (1, .int (nI r)), (2, .int (nI f)), (3, .int (nI p9)), (4, .int (nI (suN B f 11))), (5, .int (nI 0)), (6, .int (nI (io + 1))), (7, .int (nI (f - (32 * (io + 1))))), (8, .int (nI (i3 + 1)))] := lv_sub hl [3, 4, 5, 6, 7, 1, 8, 9, 0] rfl
                                    have hl9 : ([(0, .ref m0), (1, .int (nI r)), (2, .int (nI f)), (3, .int (nI p9)), (4, .int (nI (suN B f 11))), (5, .int (nI 0)), (6, .int (nI (io + 1))), (7, .int (nI (f - (32 * (io + 1))))), (8, .int (nI (i3 + 1)))] : List (Nat × Value)) = [(0, .ref m0), (1, .int (nI r)), (2, .int (nI f)), (3, .int (nI p9)), (4, .int (nI (suN B f 11))), (5, .int (bI false)), (6, .int (nI (io + 1))), (7, .int (nI (f - (32 * (io + 1))))), (8, .int (nI (i3 + 1)))] := by rfl
                                    rw [hl9] at hl
                                    have hw9 : ([(m0, .inr (5, [.int th, .ref mu, .ref mz, .ref mb, .ref mr])), (mu, .inl (cI, 510, .inl (nf (uN (stN U (mt B f) (255 * r) c7) (255 * r + c7) (mt B f (13 * io + i3)))))), (mz, .inl (cI, 2, .inl (nf (uN Z r (c7 + 1))))), (mb, .inl (cI, 1024, .inl (nf B)))] : va_W) = [(m0, .inr (5, [.int th, .ref mu, .ref mz, .ref mb, .ref mr])), (mu, .inl (cI, 510, .inl (nf (stN U (mt B f) (255 * r) (c7 + 1))))), (mz, .inl (cI, 2, .inl (nf (uN Z r (c7 + 1))))), (mb, .inl (cI, 1024, .inl (nf B)))] := by rw [stN_s (by rw [hS3.2.2.1 (by assumption)])]
                                    rw [hw9] at hP hD
                                    exact ih120 (i3 + 1) (c7 + 1) false _ _ _ (by omega) (by first | exact rpS_a (T := 13 * io + i3) hS3 (by assumption) (by assumption) (by assumption) | (exfalso; simp_all; done)) hP hD hS hl
                                · skip
                                  rw [nI_eq (by omega) (by omega)] at c_41
                                  refine lv_iconst (v := nI 0) hx hb d_Mo_readParts_220 (by decide) ?_
                                  exact hret _ _ _ _ (mt B f) c7 d_Mo_readParts_221 (fun j => mt_lt hB6 j) (by first | omega | exact hS3.1) hP hD hS
                            · skip
                              rw [mk_ceq (by omega)] at c_39
                              refine lv_iconst (v := nI 1) hx hb d_Mo_readParts_196 (by decide) ?_
                              refine lv_goto (tgt := 201) hx hb d_Mo_readParts_197 (by decide) ?_
                              refine lv_istore (lv' := [(5, .int (nI 1)), (9, .int (nI (mt B f (13 * io + i3)))), (0, .ref m0), (1, .int (nI r)), (2, .int (nI f)), (3, .int (nI p9)), (4, .int (nI (suN B f 11))), (6, .int (nI (io + 1))), (7, .int (nI (f - (32 * (io + 1))))), (8, .int (nI i3))]) hx hb d_Mo_readParts_201 hl (by decide) rfl (fun ls hl => ?_)
                              refine lv_iload hx hb d_Mo_readParts_203 (lv_at hl 0 rfl) ?_
                              refine lv_if_ne (tgt := 222) hx hb d_Mo_readParts_205 (by decide) (fun c_43 => ?_) (fun c_43 => ?_)
                              · skip
                                rw [mk_ceq (by omega)] at c_43
                                refine lv_iload hx hb d_Mo_readParts_222 (lv_at hl 0 rfl) ?_
                                refine lv_if_ne (tgt := 234) hx hb d_Mo_readParts_224 (by decide) (fun c_44 => ?_) (fun c_44 => ?_)
                                · skip
                                  rw [mk_ceq (by omega)] at c_44
                                  refine lv_iinc (v := nI (i3 + 1)) (lv' := [(8, .int (nI (i3 + 1))), (5, .int (nI 1)), (9, .int (nI (mt B f (13 * io + i3)))), (0, .ref m0), (1, .int (nI r)), (2, .int (nI f)), (3, .int (nI p9)), (4, .int (nI (suN B f 11))), (6, .int (nI (io + 1))), (7, .int (nI (f - (32 * (io + 1)))))]) hx hb d_Mo_readParts_234 hl (k := 9) rfl (mk_i1 i3) (by decide) rfl (fun ls hl => ?_)
                                  refine lv_goto (tgt := 120) hx hb d_Mo_readParts_237 (by decide) ?_
                                  have hl : lv_has ls 10 [(0, .ref m0), (1, .int (nI r)), (2, .int (nI f)), (3, .int (nI p9)), (4, .int (nI (suN B f 11))), (5, .int (nI 1)), (6, .int (nI (io + 1))), (7, .int (nI (f - (32 * (io + 1))))), (8, .int (nI (i3 + 1)))] := lv_sub hl [3, 4, 5, 6, 7, 1, 8, 9, 0] rfl
                                  have hl9 : ([(0, .ref m0), (1, .int (nI r)), (2, .int (nI f)), (3, .int (nI p9)), (4, .int (nI (suN B f 11))), (5, .int (nI 1)), (6, .int (nI (io + 1))), (7, .int (nI (f - (32 * (io + 1))))), (8, .int (nI (i3 + 1)))] : List (Nat × Value)) = [(0, .ref m0), (1, .int (nI r)), (2, .int (nI f)), (3, .int (nI p9)), (4, .int (nI (suN B f 11))), (5, .int (bI true)), (6, .int (nI (io + 1))), (7, .int (nI (f - (32 * (io + 1))))), (8, .int (nI (i3 + 1)))] := by rfl
                                  rw [hl9] at hl
                                  exact ih120 (i3 + 1) c7 true _ _ _ (by omega) (by first | exact rpS_o (T := 13 * io + i3) hS3 (by assumption) (by omega) | exact rpS_z (T := 13 * io + i3) hS3 (by assumption) (by omega) (by omega) | (exfalso; simp_all; done)) hP hD hS hl
                                · skip
                                  rw [mk_ceq (by omega)] at c_44
                                  first | omega | contradiction
                              · skip
                                rw [mk_ceq (by omega)] at c_43
                                first | omega | contradiction
                        · skip
                          rw [mk_ceq (by omega)] at c_35
                          refine lv_iload hx hb d_Mo_readParts_179 (lv_at hl 9 rfl) ?_
                          refine lv_if_ne (tgt := 186) hx hb d_Mo_readParts_181 (by decide) (fun c_45 => ?_) (fun c_45 => ?_)
                          · skip
                            rw [mk_ceq (by omega)] at c_45
                            refine lv_iload hx hb d_Mo_readParts_186 (lv_at hl 6 rfl) ?_
                            refine lv_if_ne (tgt := 196) hx hb d_Mo_readParts_188 (by decide) (fun c_46 => ?_) (fun c_46 => ?_)
                            · skip
                              have c_46 := bI_1 c_46
                              refine lv_iconst (v := nI 1) hx hb d_Mo_readParts_196 (by decide) ?_
                              refine lv_goto (tgt := 201) hx hb d_Mo_readParts_197 (by decide) ?_
                              refine lv_istore (lv' := [(5, .int (nI 1)), (9, .int (nI (mt B f (13 * io + i3)))), (0, .ref m0), (1, .int (nI r)), (2, .int (nI f)), (3, .int (nI p9)), (4, .int (nI (suN B f 11))), (6, .int (nI (io + 1))), (7, .int (nI (f - (32 * (io + 1))))), (8, .int (nI i3))]) hx hb d_Mo_readParts_201 hl (by decide) rfl (fun ls hl => ?_)
                              refine lv_iload hx hb d_Mo_readParts_203 (lv_at hl 0 rfl) ?_
                              refine lv_if_ne (tgt := 222) hx hb d_Mo_readParts_205 (by decide) (fun c_47 => ?_) (fun c_47 => ?_)
                              · skip
                                rw [mk_ceq (by omega)] at c_47
                                refine lv_iload hx hb d_Mo_readParts_222 (lv_at hl 0 rfl) ?_
                                refine lv_if_ne (tgt := 234) hx hb d_Mo_readParts_224 (by decide) (fun c_48 => ?_) (fun c_48 => ?_)
                                · skip
                                  rw [mk_ceq (by omega)] at c_48
                                  refine lv_iinc (v := nI (i3 + 1)) (lv' := [(8, .int (nI (i3 + 1))), (5, .int (nI 1)), (9, .int (nI (mt B f (13 * io + i3)))), (0, .ref m0), (1, .int (nI r)), (2, .int (nI f)), (3, .int (nI p9)), (4, .int (nI (suN B f 11))), (6, .int (nI (io + 1))), (7, .int (nI (f - (32 * (io + 1)))))]) hx hb d_Mo_readParts_234 hl (k := 9) rfl (mk_i1 i3) (by decide) rfl (fun ls hl => ?_)
                                  refine lv_goto (tgt := 120) hx hb d_Mo_readParts_237 (by decide) ?_
                                  have hl : lv_has ls 10 [(0, .ref m0), (1, .int (nI r)), (2, .int (nI f)), (3, .int (nI p9)), (4, .int (nI (suN B f 11))), (5, .int (nI 1)), (6, .int (nI (io + 1))), (7, .int (nI (f - (32 * (io + 1))))), (8, .int (nI (i3 + 1)))] := lv_sub hl [3, 4, 5, 6, 7, 1, 8, 9, 0] rfl
                                  have hl9 : ([(0, .ref m0), (1, .int (nI r)), (2, .int (nI f)), (3, .int (nI p9)), (4, .int (nI (suN B f 11))), (5, .int (nI 1)), (6, .int (nI (io + 1))), (7, .int (nI (f - (32 * (io + 1))))), (8, .int (nI (i3 + 1)))] : List (Nat × Value)) = [(0, .ref m0), (1, .int (nI r)), (2, .int (nI f)), (3, .int (nI p9)), (4, .int (nI (suN B f 11))), (5, .int (bI true)), (6, .int (nI (io + 1))), (7, .int (nI (f - (32 * (io + 1))))), (8, .int (nI (i3 + 1)))] := by rfl
                                  rw [hl9] at hl
                                  exact ih120 (i3 + 1) c7 true _ _ _ (by omega) (by first | exact rpS_o (T := 13 * io + i3) hS3 (by assumption) (by omega) | exact rpS_z (T := 13 * io + i3) hS3 (by assumption) (by omega) (by omega) | (exfalso; simp_all; done)) hP hD hS hl
                                · skip
                                  rw [mk_ceq (by omega)] at c_48
                                  first | omega | contradiction
                              · skip
                                rw [mk_ceq (by omega)] at c_47
                                first | omega | contradiction
                            · skip
                              have c_46 := bI_0 c_46
                              refine lv_iload hx hb d_Mo_readParts_191 (lv_at hl 0 rfl) ?_
                              refine lv_if_ne (tgt := 200) hx hb d_Mo_readParts_193 (by decide) (fun c_49 => ?_) (fun c_49 => ?_)
                              · skip
                                rw [mk_ceq (by omega)] at c_49
                                refine lv_iconst (v := nI 0) hx hb d_Mo_readParts_200 (by decide) ?_
                                refine lv_istore (lv' := [(5, .int (nI 0)), (9, .int (nI (mt B f (13 * io + i3)))), (0, .ref m0), (1, .int (nI r)), (2, .int (nI f)), (3, .int (nI p9)), (4, .int (nI (suN B f 11))), (6, .int (nI (io + 1))), (7, .int (nI (f - (32 * (io + 1))))), (8, .int (nI i3))]) hx hb d_Mo_readParts_201 hl (by decide) rfl (fun ls hl => ?_)
                                refine lv_iload hx hb d_Mo_readParts_203 (lv_at hl 0 rfl) ?_
                                refine lv_if_ne (tgt := 222) hx hb d_Mo_readParts_205 (by decide) (fun c_50 => ?_) (fun c_50 => ?_)
                                · skip
                                  rw [mk_ceq (by omega)] at c_50
                                  first | omega | contradiction
                                · skip
                                  rw [mk_ceq (by omega)] at c_50
                                  refine lv_aload_n hx hb d_Mo_readParts_208 rfl (lv_at hl 2 rfl) ?_
                                  refine va_get (D := (dC, dI)) (ci := 5) (v := .ref mz) (C := "LongNamesModel") (T := F_Mo) (N := 5) hx hb hts (iw_Mo _) hown hK hP 0 rfl rfl 2 (by decide) (hts _ (List.mem_cons_of_mem _ k_524)) (fun _ h9 => h9) rfl d_Mo_readParts_209 ?_
                                  refine lv_iload_n hx hb d_Mo_readParts_212 rfl (lv_at hl 3 rfl) ?_
                                  refine va_iald hx hb hK hP 2 0 rfl rfl (vp_in_nI (N := 2) (show r < 2 by omega) (by decide)) d_Mo_readParts_213 ?_
                                  refine mk_ti (y := nI c7) (by rw [nI_clamp (by omega)]; exact mk_uat) ?_
                                  refine lv_sipush (v := nI 255) hx hb d_Mo_readParts_214 (by decide) ?_
                                  refine lv_icmp_ne (tgt := 222) hx hb d_Mo_readParts_217 (by decide) (fun c_51 => ?_) (fun c_51 => ?_)
                                  · skip
                                    rw [nI_eq (by omega) (by omega)] at c_51
                                    refine lv_iload hx hb d_Mo_readParts_222 (lv_at hl 0 rfl) ?_
                                    refine lv_if_ne (tgt := 234) hx hb d_Mo_readParts_224 (by decide) (fun c_52 => ?_) (fun c_52 => ?_)
                                    · skip
                                      rw [mk_ceq (by omega)] at c_52
                                      first | omega | contradiction
                                    · skip
                                      rw [mk_ceq (by omega)] at c_52
                                      refine lv_aload_n hx hb d_Mo_readParts_227 rfl (lv_at hl 2 rfl) ?_
                                      refine lv_iload_n hx hb d_Mo_readParts_228 rfl (lv_at hl 3 rfl) ?_
                                      refine lv_iload hx hb d_Mo_readParts_229 (lv_at hl 1 rfl) ?_
                                      refine mk_w0 (wr := [(mb, .inl (cI, 1024, .inl (nf B)))]) (W.runV (As := [.int (nI r), .int (nI (mt B f (13 * io + i3)))]) (rest := []) S ((c_Mo_add l dC dI cI m0 th mu mz mb mr (stN U (mt B f) (255 * r) c7) Z r c7 (mt B f (13 * io + i3)) (by first | assumption | omega) (by first | assumption | omega)) _) (gV 2 hts k_633 k_635 k_21 k_29 k_636 (by decide +kernel) ⟨Nat.le_of_ble_eq_true rfl, Nat.le_of_ble_eq_true rfl⟩) (mk_vM hP hD hK hT hS hA [0, 1, 2] rfl rfl (by decide) (q0 := 0) (ci := 5) rfl rfl) rfl rfl hl.1 rfl (lv_room (Nat.le_of_ble_eq_true rfl)) d_Mo_readParts_231 ⟨Nat.zero_le _, Nat.zero_le _⟩) hP hD hS hA [0, 1, 2] [3] rfl rfl (by decide) (by decide) (fun H locs hP hD hS => ?_)
                                      have hP : va_P (dC, dI) vwCl [(m0, .inr (5, [.int th, .ref mu, .ref mz, .ref mb, .ref mr])), (mu, .inl (cI, 510, .inl (nf (uN (stN U (mt B f) (255 * r) c7) (255 * r + c7) (mt B f (13 * io + i3)))))), (mz, .inl (cI, 2, .inl (nf (uN Z r (c7 + 1))))), (mb, .inl (cI, 1024, .inl (nf B)))] H := hP.sub [1, 2, 3, 0] rfl
                                      have hD : va_D A [(m0, .inr (5, [.int th, .ref mu, .ref mz, .ref mb, .ref mr])), (mu, .inl (cI, 510, .inl (nf (uN (stN U (mt B f) (255 * r) c7) (255 * r + c7) (mt B f (13 * io + i3)))))), (mz, .inl (cI, 2, .inl (nf (uN Z r (c7 + 1))))), (mb, .inl (cI, 1024, .inl (nf B)))] := hD.sub [1, 2, 3, 0] (by decide) rfl
                                      refine lv_iinc (v := nI (i3 + 1)) (lv' := [(8, .int (nI (i3 + 1))), (5, .int (nI 0)), (9, .int (nI (mt B f (13 * io + i3)))), (0, .ref m0), (1, .int (nI r)), (2, .int (nI f)), (3, .int (nI p9)), (4, .int (nI (suN B f 11))), (6, .int (nI (io + 1))), (7, .int (nI (f - (32 * (io + 1)))))]) hx hb d_Mo_readParts_234 hl (k := 9) rfl (mk_i1 i3) (by decide) rfl (fun ls hl => ?_)
                                      refine lv_goto (tgt := 120) hx hb d_Mo_readParts_237 (by decide) ?_
                                      have hl : lv_has ls 10 [(0, .ref m0), (1, .int (nI r)), (2, .int (nI f)), (3, .int (nI p9)), (4, .int (nI (suN B f 11))), (5, .int (nI 0)), (6, .int (nI (io + 1))), (7, .int (nI (f - (32 * (io + 1))))), (8, .int (nI (i3 + 1)))] := lv_sub hl [3, 4, 5, 6, 7, 1, 8, 9, 0] rfl
                                      have hl9 : ([(0, .ref m0), (1, .int (nI r)), (2, .int (nI f)), (3, .int (nI p9)), (4, .int (nI (suN B f 11))), (5, .int (nI 0)), (6, .int (nI (io + 1))), (7, .int (nI (f - (32 * (io + 1))))), (8, .int (nI (i3 + 1)))] : List (Nat × Value)) = [(0, .ref m0), (1, .int (nI r)), (2, .int (nI f)), (3, .int (nI p9)), (4, .int (nI (suN B f 11))), (5, .int (bI false)), (6, .int (nI (io + 1))), (7, .int (nI (f - (32 * (io + 1))))), (8, .int (nI (i3 + 1)))] := by rfl
                                      rw [hl9] at hl
                                      have hw9 : ([(m0, .inr (5, [.int th, .ref mu, .ref mz, .ref mb, .ref mr])), (mu, .inl (cI, 510, .inl (nf (uN (stN U (mt B f) (255 * r) c7) (255 * r + c7) (mt B f (13 * io + i3)))))), (mz, .inl (cI, 2, .inl (nf (uN Z r (c7 + 1))))), (mb, .inl (cI, 1024, .inl (nf B)))] : va_W) = [(m0, .inr (5, [.int th, .ref mu, .ref mz, .ref mb, .ref mr])), (mu, .inl (cI, 510, .inl (nf (stN U (mt B f) (255 * r) (c7 + 1))))), (mz, .inl (cI, 2, .inl (nf (uN Z r (c7 + 1))))), (mb, .inl (cI, 1024, .inl (nf B)))] := by rw [stN_s (by rw [hS3.2.2.1 (by assumption)])]
                                      rw [hw9] at hP hD
                                      exact ih120 (i3 + 1) (c7 + 1) false _ _ _ (by omega) (by first | exact rpS_a (T := 13 * io + i3) hS3 (by assumption) (by assumption) (by assumption) | (exfalso; simp_all; done)) hP hD hS hl
                                  · skip
                                    rw [nI_eq (by omega) (by omega)] at c_51
                                    refine lv_iconst (v := nI 0) hx hb d_Mo_readParts_220 (by decide) ?_
                                    exact hret _ _ _ _ (mt B f) c7 d_Mo_readParts_221 (fun j => mt_lt hB6 j) (by first | omega | exact hS3.1) hP hD hS
                              · skip
                                rw [mk_ceq (by omega)] at c_49
                                refine lv_iconst (v := nI 1) hx hb d_Mo_readParts_196 (by decide) ?_
                                refine lv_goto (tgt := 201) hx hb d_Mo_readParts_197 (by decide) ?_
                                refine lv_istore (lv' := [(5, .int (nI 1)), (9, .int (nI (mt B f (13 * io + i3)))), (0, .ref m0), (1, .int (nI r)), (2, .int (nI f)), (3, .int (nI p9)), (4, .int (nI (suN B f 11))), (6, .int (nI (io + 1))), (7, .int (nI (f - (32 * (io + 1))))), (8, .int (nI i3))]) hx hb d_Mo_readParts_201 hl (by decide) rfl (fun ls hl => ?_)
                                refine lv_iload hx hb d_Mo_readParts_203 (lv_at hl 0 rfl) ?_
                                refine lv_if_ne (tgt := 222) hx hb d_Mo_readParts_205 (by decide) (fun c_53 => ?_) (fun c_53 => ?_)
                                · skip
                                  rw [mk_ceq (by omega)] at c_53
                                  refine lv_iload hx hb d_Mo_readParts_222 (lv_at hl 0 rfl) ?_
                                  refine lv_if_ne (tgt := 234) hx hb d_Mo_readParts_224 (by decide) (fun c_54 => ?_) (fun c_54 => ?_)
                                  · skip
                                    rw [mk_ceq (by omega)] at c_54
                                    refine lv_iinc (v := nI (i3 + 1)) (lv' := [(8, .int (nI (i3 + 1))), (5, .int (nI 1)), (9, .int (nI (mt B f (13 * io + i3)))), (0, .ref m0), (1, .int (nI r)), (2, .int (nI f)), (3, .int (nI p9)), (4, .int (nI (suN B f 11))), (6, .int (nI (io + 1))), (7, .int (nI (f - (32 * (io + 1)))))]) hx hb d_Mo_readParts_234 hl (k := 9) rfl (mk_i1 i3) (by decide) rfl (fun ls hl => ?_)
                                    refine lv_goto (tgt := 120) hx hb d_Mo_readParts_237 (by decide) ?_
                                    have hl : lv_has ls 10 [(0, .ref m0), (1, .int (nI r)), (2, .int (nI f)), (3, .int (nI p9)), (4, .int (nI (suN B f 11))), (5, .int (nI 1)), (6, .int (nI (io + 1))), (7, .int (nI (f - (32 * (io + 1))))), (8, .int (nI (i3 + 1)))] := lv_sub hl [3, 4, 5, 6, 7, 1, 8, 9, 0] rfl
                                    have hl9 : ([(0, .ref m0), (1, .int (nI r)), (2, .int (nI f)), (3, .int (nI p9)), (4, .int (nI (suN B f 11))), (5, .int (nI 1)), (6, .int (nI (io + 1))), (7, .int (nI (f - (32 * (io + 1))))), (8, .int (nI (i3 + 1)))] : List (Nat × Value)) = [(0, .ref m0), (1, .int (nI r)), (2, .int (nI f)), (3, .int (nI p9)), (4, .int (nI (suN B f 11))), (5, .int (bI true)), (6, .int (nI (io + 1))), (7, .int (nI (f - (32 * (io + 1))))), (8, .int (nI (i3 + 1)))] := by rfl
                                    rw [hl9] at hl
                                    exact ih120 (i3 + 1) c7 true _ _ _ (by omega) (by first | exact rpS_o (T := 13 * io + i3) hS3 (by assumption) (by omega) | exact rpS_z (T := 13 * io + i3) hS3 (by assumption) (by omega) (by omega) | (exfalso; simp_all; done)) hP hD hS hl
                                  · skip
                                    rw [mk_ceq (by omega)] at c_54
                                    first | omega | contradiction
                                · skip
                                  rw [mk_ceq (by omega)] at c_53
                                  first | omega | contradiction
                          · skip
                            rw [mk_ceq (by omega)] at c_45
                            refine lv_iconst (v := nI 0) hx hb d_Mo_readParts_184 (by decide) ?_
                            exact hret _ _ _ _ (mt B f) c7 d_Mo_readParts_185 (fun j => mt_lt hB6 j) (by first | omega | exact hS3.1) hP hD hS
              have hl : lv_has ls 10 [(0, .ref m0), (1, .int (nI r)), (2, .int (nI f)), (3, .int (nI p9)), (4, .int (nI (suN B f 11))), (5, .int (nI 0)), (6, .int (nI (io + 1))), (7, .int (nI (f - (32 * (io + 1))))), (8, .int (nI 0))] := lv_sub hl [1, 2, 3, 4, 5, 6, 7, 8, 0] rfl
              have hl9 : ([(0, .ref m0), (1, .int (nI r)), (2, .int (nI f)), (3, .int (nI p9)), (4, .int (nI (suN B f 11))), (5, .int (nI 0)), (6, .int (nI (io + 1))), (7, .int (nI (f - (32 * (io + 1))))), (8, .int (nI 0))] : List (Nat × Value)) = [(0, .ref m0), (1, .int (nI r)), (2, .int (nI f)), (3, .int (nI p9)), (4, .int (nI (suN B f 11))), (5, .int (bI false)), (6, .int (nI (io + 1))), (7, .int (nI (f - (32 * (io + 1))))), (8, .int (nI 0))] := by rfl
              rw [hl9] at hl
              exact lp120 13 0 (13 * io) false _ _ _ rfl ⟨hc.1, hn, fun _ => rfl, fun h9 => absurd h9 (by decide)⟩ hP hD hS hl
            · skip
              rw [nI_leI (by omega) (by omega)] at c_4
              first | omega | contradiction
          | succ k2 ih31 =>
            intro i2 H locs ls hi2 hw2 hP hD hS hl
            refine lv_iload hx hb d_Mo_readParts_31 (lv_at hl 8 rfl) ?_
            refine lv_bipush (v := nI 28) hx hb d_Mo_readParts_33 (by decide) ?_
            refine lv_icmp_ge (tgt := 117) hx hb d_Mo_readParts_35 (by decide) (fun c_55 => ?_) (fun c_55 => ?_)
            · skip
              rw [nI_leI (by omega) (by omega)] at c_55
              first | omega | contradiction
            · skip
              rw [nI_leI (by omega) (by omega)] at c_55
              refine lv_iload hx hb d_Mo_readParts_38 (lv_at hl 8 rfl) ?_
              refine lv_if_eq (tgt := 64) hx hb d_Mo_readParts_40 (by decide) (fun c_56 => ?_) (fun c_56 => ?_)
              · skip
                rw [mk_ceq (by omega)] at c_56
                refine lv_iconst (v := nI 1) hx hb d_Mo_readParts_64 (by decide) ?_
                refine lv_goto (tgt := 69) hx hb d_Mo_readParts_65 (by decide) ?_
                refine lv_istore (lv' := [(9, .int (nI 1)), (0, .ref m0), (1, .int (nI r)), (2, .int (nI f)), (3, .int (nI p9)), (4, .int (nI (suN B f 11))), (5, .int (nI 0)), (6, .int (nI (io + 1))), (7, .int (nI (f - (32 * (io + 1))))), (8, .int (nI i2))]) hx hb d_Mo_readParts_69 hl (by decide) rfl (fun ls hl => ?_)
                refine lv_iload hx hb d_Mo_readParts_71 (lv_at hl 0 rfl) ?_
                refine lv_if_eq (tgt := 111) hx hb d_Mo_readParts_73 (by decide) (fun c_57 => ?_) (fun c_57 => ?_)
                · skip
                  rw [mk_ceq (by omega)] at c_57
                  first | omega | contradiction
                · skip
                  rw [mk_ceq (by omega)] at c_57
                  refine lv_aload_n hx hb d_Mo_readParts_76 rfl (lv_at hl 1 rfl) ?_
                  refine va_get (D := (dC, dI)) (ci := 5) (v := .ref mb) (C := "LongNamesModel") (T := F_Mo) (N := 5) hx hb hts (iw_Mo _) hown hK hP 0 rfl rfl 3 (by decide) (hts _ (List.mem_cons_of_mem _ k_525)) (fun _ h9 => h9) rfl d_Mo_readParts_77 ?_
                  refine lv_iload hx hb d_Mo_readParts_80 (lv_at hl 8 rfl) ?_
                  refine lv_iload hx hb d_Mo_readParts_82 (lv_at hl 9 rfl) ?_
                  refine lv_iadd hx hb d_Mo_readParts_84 ?_
                  refine mk_ti (y := nI (f - (32 * (io + 1)) + i2)) (nI_add (f - (32 * (io + 1))) i2) ?_
                  refine va_iald hx hb hK hP 3 0 rfl rfl (vp_in_nI (N := 1024) (show f - (32 * (io + 1)) + i2 < 1024 by omega) (by decide)) d_Mo_readParts_85 ?_
                  refine mk_ti (y := nI (B (f - (32 * (io + 1)) + i2))) (by rw [nI_clamp (by omega)]; rfl) ?_
                  have b_58 := hB6 (f - (32 * (io + 1)) + i2)
                  refine lv_iload hx hb d_Mo_readParts_86 (lv_at hl 9 rfl) ?_
                  refine lv_iload hx hb d_Mo_readParts_88 (lv_at hl 7 rfl) ?_
                  refine lv_iload hx hb d_Mo_readParts_90 (lv_at hl 7 rfl) ?_
                  refine lv_iload_n hx hb d_Mo_readParts_92 rfl (lv_at hl 4 rfl) ?_
                  refine lv_icmp_ne (tgt := 100) hx hb d_Mo_readParts_93 (by decide) (fun c_59 => ?_) (fun c_59 => ?_)
                  · skip
                    rw [nI_eq (by omega) (by omega)] at c_59
                    refine lv_iconst (v := nI 0) hx hb d_Mo_readParts_100 (by decide) ?_
                    refine lv_iload hx hb d_Mo_readParts_101 (lv_at hl 5 rfl) ?_
                    refine mk_r1 (W.runS (As := [.int (nI i2), .int (nI (io + 1)), .int (nI 0), .int (nI (suN B f 11))]) (rest := [.int (nI (B (f - (32 * (io + 1)) + i2)))]) S (c_Mo_due l dC dI cI i2 (io + 1) 0 (suN B f 11) (by first | assumption | omega) (by first | assumption | omega)) (gS 4 hts k_615 k_616 k_29 k_617 (by decide +kernel) ⟨Nat.le_of_ble_eq_true rfl, Nat.le_of_ble_eq_true rfl⟩) (mk_sR hP hK hT hS [] rfl) rfl rfl hl.1 rfl (lv_room (Nat.le_of_ble_eq_true rfl)) d_Mo_readParts_103 ⟨Nat.zero_le _, Nat.zero_le _⟩) ?_
                    refine mk_ti (y := nI (duN i2 (io + 1) (if io + 1 = p9 then 1 else 0) (suN B f 11))) (by first | (exfalso; omega) | rw [if_pos (by omega)] | rw [if_neg (by omega)]) ?_
                    have hd9 : duN i2 (io + 1) (if io + 1 = p9 then 1 else 0) (suN B f 11) < 65536 := duN_lt (by omega) hs9
                    refine lv_icmp_eq (tgt := 111) hx hb d_Mo_readParts_106 (by decide) (fun c_60 => ?_) (fun c_60 => ?_)
                    · skip
                      rw [nI_eq (by omega) (by omega)] at c_60
                      refine lv_iinc (v := nI (i2 + 1)) (lv' := [(8, .int (nI (i2 + 1))), (9, .int (nI 1)), (0, .ref m0), (1, .int (nI r)), (2, .int (nI f)), (3, .int (nI p9)), (4, .int (nI (suN B f 11))), (5, .int (nI 0)), (6, .int (nI (io + 1))), (7, .int (nI (f - (32 * (io + 1)))))]) hx hb d_Mo_readParts_111 hl (k := 9) rfl (mk_i1 i2) (by decide) rfl (fun ls hl => ?_)
                      refine lv_goto (tgt := 31) hx hb d_Mo_readParts_114 (by decide) ?_
                      have hl : lv_has ls 10 [(0, .ref m0), (1, .int (nI r)), (2, .int (nI f)), (3, .int (nI p9)), (4, .int (nI (suN B f 11))), (5, .int (nI 0)), (6, .int (nI (io + 1))), (7, .int (nI (f - (32 * (io + 1))))), (8, .int (nI (i2 + 1)))] := lv_sub hl [2, 3, 4, 5, 6, 7, 8, 9, 0] rfl
                      exact ih31 (i2 + 1) _ _ _ (by omega) (ow_2 hw2 (by first | (intro _; assumption) | (intro h9; simp only [owB, decide_eq_true_eq] at h9; omega))) hP hD hS hl
                    · skip
                      rw [nI_eq (by omega) (by omega)] at c_60
                      refine lv_iconst (v := nI 0) hx hb d_Mo_readParts_109 (by decide) ?_
                      exact hret _ _ _ _ (mt B f) (13 * io) d_Mo_readParts_110 (fun j => mt_lt hB6 j) (by first | omega | exact hS3.1) hP hD hS
                  · skip
                    rw [nI_eq (by omega) (by omega)] at c_59
                    refine lv_iconst (v := nI 1) hx hb d_Mo_readParts_96 (by decide) ?_
                    refine lv_goto (tgt := 101) hx hb d_Mo_readParts_97 (by decide) ?_
                    refine lv_iload hx hb d_Mo_readParts_101 (lv_at hl 5 rfl) ?_
                    refine mk_r1 (W.runS (As := [.int (nI i2), .int (nI (io + 1)), .int (nI 1), .int (nI (suN B f 11))]) (rest := [.int (nI (B (f - (32 * (io + 1)) + i2)))]) S (c_Mo_due l dC dI cI i2 (io + 1) 1 (suN B f 11) (by first | assumption | omega) (by first | assumption | omega)) (gS 4 hts k_615 k_616 k_29 k_617 (by decide +kernel) ⟨Nat.le_of_ble_eq_true rfl, Nat.le_of_ble_eq_true rfl⟩) (mk_sR hP hK hT hS [] rfl) rfl rfl hl.1 rfl (lv_room (Nat.le_of_ble_eq_true rfl)) d_Mo_readParts_103 ⟨Nat.zero_le _, Nat.zero_le _⟩) ?_
                    refine mk_ti (y := nI (duN i2 (io + 1) (if io + 1 = p9 then 1 else 0) (suN B f 11))) (by first | (exfalso; omega) | rw [if_pos (by omega)] | rw [if_neg (by omega)]) ?_
                    have hd9 : duN i2 (io + 1) (if io + 1 = p9 then 1 else 0) (suN B f 11) < 65536 := duN_lt (by omega) hs9
                    refine lv_icmp_eq (tgt := 111) hx hb d_Mo_readParts_106 (by decide) (fun c_61 => ?_) (fun c_61 => ?_)
                    · skip
                      rw [nI_eq (by omega) (by omega)] at c_61
                      refine lv_iinc (v := nI (i2 + 1)) (lv' := [(8, .int (nI (i2 + 1))), (9, .int (nI 1)), (0, .ref m0), (1, .int (nI r)), (2, .int (nI f)), (3, .int (nI p9)), (4, .int (nI (suN B f 11))), (5, .int (nI 0)), (6, .int (nI (io + 1))), (7, .int (nI (f - (32 * (io + 1)))))]) hx hb d_Mo_readParts_111 hl (k := 9) rfl (mk_i1 i2) (by decide) rfl (fun ls hl => ?_)
                      refine lv_goto (tgt := 31) hx hb d_Mo_readParts_114 (by decide) ?_
                      have hl : lv_has ls 10 [(0, .ref m0), (1, .int (nI r)), (2, .int (nI f)), (3, .int (nI p9)), (4, .int (nI (suN B f 11))), (5, .int (nI 0)), (6, .int (nI (io + 1))), (7, .int (nI (f - (32 * (io + 1))))), (8, .int (nI (i2 + 1)))] := lv_sub hl [2, 3, 4, 5, 6, 7, 8, 9, 0] rfl
                      exact ih31 (i2 + 1) _ _ _ (by omega) (ow_2 hw2 (by first | (intro _; assumption) | (intro h9; simp only [owB, decide_eq_true_eq] at h9; omega))) hP hD hS hl
                    · skip
                      rw [nI_eq (by omega) (by omega)] at c_61
                      refine lv_iconst (v := nI 0) hx hb d_Mo_readParts_109 (by decide) ?_
                      exact hret _ _ _ _ (mt B f) (13 * io) d_Mo_readParts_110 (fun j => mt_lt hB6 j) (by first | omega | exact hS3.1) hP hD hS
              · skip
                rw [mk_ceq (by omega)] at c_56
                refine lv_iload hx hb d_Mo_readParts_43 (lv_at hl 8 rfl) ?_
                refine lv_bipush (v := nI 10) hx hb d_Mo_readParts_45 (by decide) ?_
                refine lv_icmp_le (tgt := 57) hx hb d_Mo_readParts_47 (by decide) (fun c_62 => ?_) (fun c_62 => ?_)
                · skip
                  rw [nI_leI (by omega) (by omega)] at c_62
                  refine lv_iload hx hb d_Mo_readParts_57 (lv_at hl 8 rfl) ?_
                  refine lv_bipush (v := nI 25) hx hb d_Mo_readParts_59 (by decide) ?_
                  refine lv_icmp_le (tgt := 68) hx hb d_Mo_readParts_61 (by decide) (fun c_63 => ?_) (fun c_63 => ?_)
                  · skip
                    rw [nI_leI (by omega) (by omega)] at c_63
                    refine lv_iconst (v := nI 0) hx hb d_Mo_readParts_68 (by decide) ?_
                    refine lv_istore (lv' := [(9, .int (nI 0)), (0, .ref m0), (1, .int (nI r)), (2, .int (nI f)), (3, .int (nI p9)), (4, .int (nI (suN B f 11))), (5, .int (nI 0)), (6, .int (nI (io + 1))), (7, .int (nI (f - (32 * (io + 1))))), (8, .int (nI i2))]) hx hb d_Mo_readParts_69 hl (by decide) rfl (fun ls hl => ?_)
                    refine lv_iload hx hb d_Mo_readParts_71 (lv_at hl 0 rfl) ?_
                    refine lv_if_eq (tgt := 111) hx hb d_Mo_readParts_73 (by decide) (fun c_64 => ?_) (fun c_64 => ?_)
                    · skip
                      rw [mk_ceq (by omega)] at c_64
                      refine lv_iinc (v := nI (i2 + 1)) (lv' := [(8, .int (nI (i2 + 1))), (9, .int (nI 0)), (0, .ref m0), (1, .int (nI r)), (2, .int (nI f)), (3, .int (nI p9)), (4, .int (nI (suN B f 11))), (5, .int (nI 0)), (6, .int (nI (io + 1))), (7, .int (nI (f - (32 * (io + 1)))))]) hx hb d_Mo_readParts_111 hl (k := 9) rfl (mk_i1 i2) (by decide) rfl (fun ls hl => ?_)
                      refine lv_goto (tgt := 31) hx hb d_Mo_readParts_114 (by decide) ?_
                      have hl : lv_has ls 10 [(0, .ref m0), (1, .int (nI r)), (2, .int (nI f)), (3, .int (nI p9)), (4, .int (nI (suN B f 11))), (5, .int (nI 0)), (6, .int (nI (io + 1))), (7, .int (nI (f - (32 * (io + 1))))), (8, .int (nI (i2 + 1)))] := lv_sub hl [2, 3, 4, 5, 6, 7, 8, 9, 0] rfl
                      exact ih31 (i2 + 1) _ _ _ (by omega) (ow_2 hw2 (by first | (intro _; assumption) | (intro h9; simp only [owB, decide_eq_true_eq] at h9; omega))) hP hD hS hl
                    · skip
                      rw [mk_ceq (by omega)] at c_64
                      first | omega | contradiction
                  · skip
                    rw [nI_leI (by omega) (by omega)] at c_63
                    refine lv_iconst (v := nI 1) hx hb d_Mo_readParts_64 (by decide) ?_
                    refine lv_goto (tgt := 69) hx hb d_Mo_readParts_65 (by decide) ?_
                    refine lv_istore (lv' := [(9, .int (nI 1)), (0, .ref m0), (1, .int (nI r)), (2, .int (nI f)), (3, .int (nI p9)), (4, .int (nI (suN B f 11))), (5, .int (nI 0)), (6, .int (nI (io + 1))), (7, .int (nI (f - (32 * (io + 1))))), (8, .int (nI i2))]) hx hb d_Mo_readParts_69 hl (by decide) rfl (fun ls hl => ?_)
                    refine lv_iload hx hb d_Mo_readParts_71 (lv_at hl 0 rfl) ?_
                    refine lv_if_eq (tgt := 111) hx hb d_Mo_readParts_73 (by decide) (fun c_65 => ?_) (fun c_65 => ?_)
                    · skip
                      rw [mk_ceq (by omega)] at c_65
                      first | omega | contradiction
                    · skip
                      rw [mk_ceq (by omega)] at c_65
                      refine lv_aload_n hx hb d_Mo_readParts_76 rfl (lv_at hl 1 rfl) ?_
                      refine va_get (D := (dC, dI)) (ci := 5) (v := .ref mb) (C := "LongNamesModel") (T := F_Mo) (N := 5) hx hb hts (iw_Mo _) hown hK hP 0 rfl rfl 3 (by decide) (hts _ (List.mem_cons_of_mem _ k_525)) (fun _ h9 => h9) rfl d_Mo_readParts_77 ?_
                      refine lv_iload hx hb d_Mo_readParts_80 (lv_at hl 8 rfl) ?_
                      refine lv_iload hx hb d_Mo_readParts_82 (lv_at hl 9 rfl) ?_
                      refine lv_iadd hx hb d_Mo_readParts_84 ?_
                      refine mk_ti (y := nI (f - (32 * (io + 1)) + i2)) (nI_add (f - (32 * (io + 1))) i2) ?_
                      refine va_iald hx hb hK hP 3 0 rfl rfl (vp_in_nI (N := 1024) (show f - (32 * (io + 1)) + i2 < 1024 by omega) (by decide)) d_Mo_readParts_85 ?_
                      refine mk_ti (y := nI (B (f - (32 * (io + 1)) + i2))) (by rw [nI_clamp (by omega)]; rfl) ?_
                      have b_66 := hB6 (f - (32 * (io + 1)) + i2)
                      refine lv_iload hx hb d_Mo_readParts_86 (lv_at hl 9 rfl) ?_
                      refine lv_iload hx hb d_Mo_readParts_88 (lv_at hl 7 rfl) ?_
                      refine lv_iload hx hb d_Mo_readParts_90 (lv_at hl 7 rfl) ?_
                      refine lv_iload_n hx hb d_Mo_readParts_92 rfl (lv_at hl 4 rfl) ?_
                      refine lv_icmp_ne (tgt := 100) hx hb d_Mo_readParts_93 (by decide) (fun c_67 => ?_) (fun c_67 => ?_)
                      · skip
                        rw [nI_eq (by omega) (by omega)] at c_67
                        refine lv_iconst (v := nI 0) hx hb d_Mo_readParts_100 (by decide) ?_
                        refine lv_iload hx hb d_Mo_readParts_101 (lv_at hl 5 rfl) ?_
                        refine mk_r1 (W.runS (As := [.int (nI i2), .int (nI (io + 1)), .int (nI 0), .int (nI (suN B f 11))]) (rest := [.int (nI (B (f - (32 * (io + 1)) + i2)))]) S (c_Mo_due l dC dI cI i2 (io + 1) 0 (suN B f 11) (by first | assumption | omega) (by first | assumption | omega)) (gS 4 hts k_615 k_616 k_29 k_617 (by decide +kernel) ⟨Nat.le_of_ble_eq_true rfl, Nat.le_of_ble_eq_true rfl⟩) (mk_sR hP hK hT hS [] rfl) rfl rfl hl.1 rfl (lv_room (Nat.le_of_ble_eq_true rfl)) d_Mo_readParts_103 ⟨Nat.zero_le _, Nat.zero_le _⟩) ?_
                        refine mk_ti (y := nI (duN i2 (io + 1) (if io + 1 = p9 then 1 else 0) (suN B f 11))) (by first | (exfalso; omega) | rw [if_pos (by omega)] | rw [if_neg (by omega)]) ?_
                        have hd9 : duN i2 (io + 1) (if io + 1 = p9 then 1 else 0) (suN B f 11) < 65536 := duN_lt (by omega) hs9
                        refine lv_icmp_eq (tgt := 111) hx hb d_Mo_readParts_106 (by decide) (fun c_68 => ?_) (fun c_68 => ?_)
                        · skip
                          rw [nI_eq (by omega) (by omega)] at c_68
                          refine lv_iinc (v := nI (i2 + 1)) (lv' := [(8, .int (nI (i2 + 1))), (9, .int (nI 1)), (0, .ref m0), (1, .int (nI r)), (2, .int (nI f)), (3, .int (nI p9)), (4, .int (nI (suN B f 11))), (5, .int (nI 0)), (6, .int (nI (io + 1))), (7, .int (nI (f - (32 * (io + 1)))))]) hx hb d_Mo_readParts_111 hl (k := 9) rfl (mk_i1 i2) (by decide) rfl (fun ls hl => ?_)
                          refine lv_goto (tgt := 31) hx hb d_Mo_readParts_114 (by decide) ?_
                          have hl : lv_has ls 10 [(0, .ref m0), (1, .int (nI r)), (2, .int (nI f)), (3, .int (nI p9)), (4, .int (nI (suN B f 11))), (5, .int (nI 0)), (6, .int (nI (io + 1))), (7, .int (nI (f - (32 * (io + 1))))), (8, .int (nI (i2 + 1)))] := lv_sub hl [2, 3, 4, 5, 6, 7, 8, 9, 0] rfl
                          exact ih31 (i2 + 1) _ _ _ (by omega) (ow_2 hw2 (by first | (intro _; assumption) | (intro h9; simp only [owB, decide_eq_true_eq] at h9; omega))) hP hD hS hl
                        · skip
                          rw [nI_eq (by omega) (by omega)] at c_68
                          refine lv_iconst (v := nI 0) hx hb d_Mo_readParts_109 (by decide) ?_
                          exact hret _ _ _ _ (mt B f) (13 * io) d_Mo_readParts_110 (fun j => mt_lt hB6 j) (by first | omega | exact hS3.1) hP hD hS
                      · skip
                        rw [nI_eq (by omega) (by omega)] at c_67
                        refine lv_iconst (v := nI 1) hx hb d_Mo_readParts_96 (by decide) ?_
                        refine lv_goto (tgt := 101) hx hb d_Mo_readParts_97 (by decide) ?_
                        refine lv_iload hx hb d_Mo_readParts_101 (lv_at hl 5 rfl) ?_
                        refine mk_r1 (W.runS (As := [.int (nI i2), .int (nI (io + 1)), .int (nI 1), .int (nI (suN B f 11))]) (rest := [.int (nI (B (f - (32 * (io + 1)) + i2)))]) S (c_Mo_due l dC dI cI i2 (io + 1) 1 (suN B f 11) (by first | assumption | omega) (by first | assumption | omega)) (gS 4 hts k_615 k_616 k_29 k_617 (by decide +kernel) ⟨Nat.le_of_ble_eq_true rfl, Nat.le_of_ble_eq_true rfl⟩) (mk_sR hP hK hT hS [] rfl) rfl rfl hl.1 rfl (lv_room (Nat.le_of_ble_eq_true rfl)) d_Mo_readParts_103 ⟨Nat.zero_le _, Nat.zero_le _⟩) ?_
                        refine mk_ti (y := nI (duN i2 (io + 1) (if io + 1 = p9 then 1 else 0) (suN B f 11))) (by first | (exfalso; omega) | rw [if_pos (by omega)] | rw [if_neg (by omega)]) ?_
                        have hd9 : duN i2 (io + 1) (if io + 1 = p9 then 1 else 0) (suN B f 11) < 65536 := duN_lt (by omega) hs9
                        refine lv_icmp_eq (tgt := 111) hx hb d_Mo_readParts_106 (by decide) (fun c_69 => ?_) (fun c_69 => ?_)
                        · skip
                          rw [nI_eq (by omega) (by omega)] at c_69
                          refine lv_iinc (v := nI (i2 + 1)) (lv' := [(8, .int (nI (i2 + 1))), (9, .int (nI 1)), (0, .ref m0), (1, .int (nI r)), (2, .int (nI f)), (3, .int (nI p9)), (4, .int (nI (suN B f 11))), (5, .int (nI 0)), (6, .int (nI (io + 1))), (7, .int (nI (f - (32 * (io + 1)))))]) hx hb d_Mo_readParts_111 hl (k := 9) rfl (mk_i1 i2) (by decide) rfl (fun ls hl => ?_)
                          refine lv_goto (tgt := 31) hx hb d_Mo_readParts_114 (by decide) ?_
                          have hl : lv_has ls 10 [(0, .ref m0), (1, .int (nI r)), (2, .int (nI f)), (3, .int (nI p9)), (4, .int (nI (suN B f 11))), (5, .int (nI 0)), (6, .int (nI (io + 1))), (7, .int (nI (f - (32 * (io + 1))))), (8, .int (nI (i2 + 1)))] := lv_sub hl [2, 3, 4, 5, 6, 7, 8, 9, 0] rfl
                          exact ih31 (i2 + 1) _ _ _ (by omega) (ow_2 hw2 (by first | (intro _; assumption) | (intro h9; simp only [owB, decide_eq_true_eq] at h9; omega))) hP hD hS hl
                        · skip
                          rw [nI_eq (by omega) (by omega)] at c_69
                          refine lv_iconst (v := nI 0) hx hb d_Mo_readParts_109 (by decide) ?_
                          exact hret _ _ _ _ (mt B f) (13 * io) d_Mo_readParts_110 (fun j => mt_lt hB6 j) (by first | omega | exact hS3.1) hP hD hS
                · skip
                  rw [nI_leI (by omega) (by omega)] at c_62
                  refine lv_iload hx hb d_Mo_readParts_50 (lv_at hl 8 rfl) ?_
                  refine lv_bipush (v := nI 14) hx hb d_Mo_readParts_52 (by decide) ?_
                  refine lv_icmp_lt (tgt := 64) hx hb d_Mo_readParts_54 (by decide) (fun c_70 => ?_) (fun c_70 => ?_)
                  · skip
                    rw [nI_ltI (by omega) (by omega)] at c_70
                    refine lv_iconst (v := nI 1) hx hb d_Mo_readParts_64 (by decide) ?_
                    refine lv_goto (tgt := 69) hx hb d_Mo_readParts_65 (by decide) ?_
                    refine lv_istore (lv' := [(9, .int (nI 1)), (0, .ref m0), (1, .int (nI r)), (2, .int (nI f)), (3, .int (nI p9)), (4, .int (nI (suN B f 11))), (5, .int (nI 0)), (6, .int (nI (io + 1))), (7, .int (nI (f - (32 * (io + 1))))), (8, .int (nI i2))]) hx hb d_Mo_readParts_69 hl (by decide) rfl (fun ls hl => ?_)
                    refine lv_iload hx hb d_Mo_readParts_71 (lv_at hl 0 rfl) ?_
                    refine lv_if_eq (tgt := 111) hx hb d_Mo_readParts_73 (by decide) (fun c_71 => ?_) (fun c_71 => ?_)
                    · skip
                      rw [mk_ceq (by omega)] at c_71
                      first | omega | contradiction
                    · skip
                      rw [mk_ceq (by omega)] at c_71
                      refine lv_aload_n hx hb d_Mo_readParts_76 rfl (lv_at hl 1 rfl) ?_
                      refine va_get (D := (dC, dI)) (ci := 5) (v := .ref mb) (C := "LongNamesModel") (T := F_Mo) (N := 5) hx hb hts (iw_Mo _) hown hK hP 0 rfl rfl 3 (by decide) (hts _ (List.mem_cons_of_mem _ k_525)) (fun _ h9 => h9) rfl d_Mo_readParts_77 ?_
                      refine lv_iload hx hb d_Mo_readParts_80 (lv_at hl 8 rfl) ?_
                      refine lv_iload hx hb d_Mo_readParts_82 (lv_at hl 9 rfl) ?_
                      refine lv_iadd hx hb d_Mo_readParts_84 ?_
                      refine mk_ti (y := nI (f - (32 * (io + 1)) + i2)) (nI_add (f - (32 * (io + 1))) i2) ?_
                      refine va_iald hx hb hK hP 3 0 rfl rfl (vp_in_nI (N := 1024) (show f - (32 * (io + 1)) + i2 < 1024 by omega) (by decide)) d_Mo_readParts_85 ?_
                      refine mk_ti (y := nI (B (f - (32 * (io + 1)) + i2))) (by rw [nI_clamp (by omega)]; rfl) ?_
                      have b_72 := hB6 (f - (32 * (io + 1)) + i2)
                      refine lv_iload hx hb d_Mo_readParts_86 (lv_at hl 9 rfl) ?_
                      refine lv_iload hx hb d_Mo_readParts_88 (lv_at hl 7 rfl) ?_
                      refine lv_iload hx hb d_Mo_readParts_90 (lv_at hl 7 rfl) ?_
                      refine lv_iload_n hx hb d_Mo_readParts_92 rfl (lv_at hl 4 rfl) ?_
                      refine lv_icmp_ne (tgt := 100) hx hb d_Mo_readParts_93 (by decide) (fun c_73 => ?_) (fun c_73 => ?_)
                      · skip
                        rw [nI_eq (by omega) (by omega)] at c_73
                        refine lv_iconst (v := nI 0) hx hb d_Mo_readParts_100 (by decide) ?_
                        refine lv_iload hx hb d_Mo_readParts_101 (lv_at hl 5 rfl) ?_
                        refine mk_r1 (W.runS (As := [.int (nI i2), .int (nI (io + 1)), .int (nI 0), .int (nI (suN B f 11))]) (rest := [.int (nI (B (f - (32 * (io + 1)) + i2)))]) S (c_Mo_due l dC dI cI i2 (io + 1) 0 (suN B f 11) (by first | assumption | omega) (by first | assumption | omega)) (gS 4 hts k_615 k_616 k_29 k_617 (by decide +kernel) ⟨Nat.le_of_ble_eq_true rfl, Nat.le_of_ble_eq_true rfl⟩) (mk_sR hP hK hT hS [] rfl) rfl rfl hl.1 rfl (lv_room (Nat.le_of_ble_eq_true rfl)) d_Mo_readParts_103 ⟨Nat.zero_le _, Nat.zero_le _⟩) ?_
                        refine mk_ti (y := nI (duN i2 (io + 1) (if io + 1 = p9 then 1 else 0) (suN B f 11))) (by first | (exfalso; omega) | rw [if_pos (by omega)] | rw [if_neg (by omega)]) ?_
                        have hd9 : duN i2 (io + 1) (if io + 1 = p9 then 1 else 0) (suN B f 11) < 65536 := duN_lt (by omega) hs9
                        refine lv_icmp_eq (tgt := 111) hx hb d_Mo_readParts_106 (by decide) (fun c_74 => ?_) (fun c_74 => ?_)
                        · skip
                          rw [nI_eq (by omega) (by omega)] at c_74
                          refine lv_iinc (v := nI (i2 + 1)) (lv' := [(8, .int (nI (i2 + 1))), (9, .int (nI 1)), (0, .ref m0), (1, .int (nI r)), (2, .int (nI f)), (3, .int (nI p9)), (4, .int (nI (suN B f 11))), (5, .int (nI 0)), (6, .int (nI (io + 1))), (7, .int (nI (f - (32 * (io + 1)))))]) hx hb d_Mo_readParts_111 hl (k := 9) rfl (mk_i1 i2) (by decide) rfl (fun ls hl => ?_)
                          refine lv_goto (tgt := 31) hx hb d_Mo_readParts_114 (by decide) ?_
                          have hl : lv_has ls 10 [(0, .ref m0), (1, .int (nI r)), (2, .int (nI f)), (3, .int (nI p9)), (4, .int (nI (suN B f 11))), (5, .int (nI 0)), (6, .int (nI (io + 1))), (7, .int (nI (f - (32 * (io + 1))))), (8, .int (nI (i2 + 1)))] := lv_sub hl [2, 3, 4, 5, 6, 7, 8, 9, 0] rfl
                          exact ih31 (i2 + 1) _ _ _ (by omega) (ow_2 hw2 (by first | (intro _; assumption) | (intro h9; simp only [owB, decide_eq_true_eq] at h9; omega))) hP hD hS hl
                        · skip
                          rw [nI_eq (by omega) (by omega)] at c_74
                          refine lv_iconst (v := nI 0) hx hb d_Mo_readParts_109 (by decide) ?_
                          exact hret _ _ _ _ (mt B f) (13 * io) d_Mo_readParts_110 (fun j => mt_lt hB6 j) (by first | omega | exact hS3.1) hP hD hS
                      · skip
                        rw [nI_eq (by omega) (by omega)] at c_73
                        refine lv_iconst (v := nI 1) hx hb d_Mo_readParts_96 (by decide) ?_
                        refine lv_goto (tgt := 101) hx hb d_Mo_readParts_97 (by decide) ?_
                        refine lv_iload hx hb d_Mo_readParts_101 (lv_at hl 5 rfl) ?_
                        refine mk_r1 (W.runS (As := [.int (nI i2), .int (nI (io + 1)), .int (nI 1), .int (nI (suN B f 11))]) (rest := [.int (nI (B (f - (32 * (io + 1)) + i2)))]) S (c_Mo_due l dC dI cI i2 (io + 1) 1 (suN B f 11) (by first | assumption | omega) (by first | assumption | omega)) (gS 4 hts k_615 k_616 k_29 k_617 (by decide +kernel) ⟨Nat.le_of_ble_eq_true rfl, Nat.le_of_ble_eq_true rfl⟩) (mk_sR hP hK hT hS [] rfl) rfl rfl hl.1 rfl (lv_room (Nat.le_of_ble_eq_true rfl)) d_Mo_readParts_103 ⟨Nat.zero_le _, Nat.zero_le _⟩) ?_
                        refine mk_ti (y := nI (duN i2 (io + 1) (if io + 1 = p9 then 1 else 0) (suN B f 11))) (by first | (exfalso; omega) | rw [if_pos (by omega)] | rw [if_neg (by omega)]) ?_
                        have hd9 : duN i2 (io + 1) (if io + 1 = p9 then 1 else 0) (suN B f 11) < 65536 := duN_lt (by omega) hs9
                        refine lv_icmp_eq (tgt := 111) hx hb d_Mo_readParts_106 (by decide) (fun c_75 => ?_) (fun c_75 => ?_)
                        · skip
                          rw [nI_eq (by omega) (by omega)] at c_75
                          refine lv_iinc (v := nI (i2 + 1)) (lv' := [(8, .int (nI (i2 + 1))), (9, .int (nI 1)), (0, .ref m0), (1, .int (nI r)), (2, .int (nI f)), (3, .int (nI p9)), (4, .int (nI (suN B f 11))), (5, .int (nI 0)), (6, .int (nI (io + 1))), (7, .int (nI (f - (32 * (io + 1)))))]) hx hb d_Mo_readParts_111 hl (k := 9) rfl (mk_i1 i2) (by decide) rfl (fun ls hl => ?_)
                          refine lv_goto (tgt := 31) hx hb d_Mo_readParts_114 (by decide) ?_
                          have hl : lv_has ls 10 [(0, .ref m0), (1, .int (nI r)), (2, .int (nI f)), (3, .int (nI p9)), (4, .int (nI (suN B f 11))), (5, .int (nI 0)), (6, .int (nI (io + 1))), (7, .int (nI (f - (32 * (io + 1))))), (8, .int (nI (i2 + 1)))] := lv_sub hl [2, 3, 4, 5, 6, 7, 8, 9, 0] rfl
                          exact ih31 (i2 + 1) _ _ _ (by omega) (ow_2 hw2 (by first | (intro _; assumption) | (intro h9; simp only [owB, decide_eq_true_eq] at h9; omega))) hP hD hS hl
                        · skip
                          rw [nI_eq (by omega) (by omega)] at c_75
                          refine lv_iconst (v := nI 0) hx hb d_Mo_readParts_109 (by decide) ?_
                          exact hret _ _ _ _ (mt B f) (13 * io) d_Mo_readParts_110 (fun j => mt_lt hB6 j) (by first | omega | exact hS3.1) hP hD hS
                  · skip
                    rw [nI_ltI (by omega) (by omega)] at c_70
                    refine lv_iload hx hb d_Mo_readParts_57 (lv_at hl 8 rfl) ?_
                    refine lv_bipush (v := nI 25) hx hb d_Mo_readParts_59 (by decide) ?_
                    refine lv_icmp_le (tgt := 68) hx hb d_Mo_readParts_61 (by decide) (fun c_76 => ?_) (fun c_76 => ?_)
                    · skip
                      rw [nI_leI (by omega) (by omega)] at c_76
                      refine lv_iconst (v := nI 0) hx hb d_Mo_readParts_68 (by decide) ?_
                      refine lv_istore (lv' := [(9, .int (nI 0)), (0, .ref m0), (1, .int (nI r)), (2, .int (nI f)), (3, .int (nI p9)), (4, .int (nI (suN B f 11))), (5, .int (nI 0)), (6, .int (nI (io + 1))), (7, .int (nI (f - (32 * (io + 1))))), (8, .int (nI i2))]) hx hb d_Mo_readParts_69 hl (by decide) rfl (fun ls hl => ?_)
                      refine lv_iload hx hb d_Mo_readParts_71 (lv_at hl 0 rfl) ?_
                      refine lv_if_eq (tgt := 111) hx hb d_Mo_readParts_73 (by decide) (fun c_77 => ?_) (fun c_77 => ?_)
                      · skip
                        rw [mk_ceq (by omega)] at c_77
                        refine lv_iinc (v := nI (i2 + 1)) (lv' := [(8, .int (nI (i2 + 1))), (9, .int (nI 0)), (0, .ref m0), (1, .int (nI r)), (2, .int (nI f)), (3, .int (nI p9)), (4, .int (nI (suN B f 11))), (5, .int (nI 0)), (6, .int (nI (io + 1))), (7, .int (nI (f - (32 * (io + 1)))))]) hx hb d_Mo_readParts_111 hl (k := 9) rfl (mk_i1 i2) (by decide) rfl (fun ls hl => ?_)
                        refine lv_goto (tgt := 31) hx hb d_Mo_readParts_114 (by decide) ?_
                        have hl : lv_has ls 10 [(0, .ref m0), (1, .int (nI r)), (2, .int (nI f)), (3, .int (nI p9)), (4, .int (nI (suN B f 11))), (5, .int (nI 0)), (6, .int (nI (io + 1))), (7, .int (nI (f - (32 * (io + 1))))), (8, .int (nI (i2 + 1)))] := lv_sub hl [2, 3, 4, 5, 6, 7, 8, 9, 0] rfl
                        exact ih31 (i2 + 1) _ _ _ (by omega) (ow_2 hw2 (by first | (intro _; assumption) | (intro h9; simp only [owB, decide_eq_true_eq] at h9; omega))) hP hD hS hl
                      · skip
                        rw [mk_ceq (by omega)] at c_77
                        first | omega | contradiction
                    · skip
                      rw [nI_leI (by omega) (by omega)] at c_76
                      refine lv_iconst (v := nI 1) hx hb d_Mo_readParts_64 (by decide) ?_
                      refine lv_goto (tgt := 69) hx hb d_Mo_readParts_65 (by decide) ?_
                      refine lv_istore (lv' := [(9, .int (nI 1)), (0, .ref m0), (1, .int (nI r)), (2, .int (nI f)), (3, .int (nI p9)), (4, .int (nI (suN B f 11))), (5, .int (nI 0)), (6, .int (nI (io + 1))), (7, .int (nI (f - (32 * (io + 1))))), (8, .int (nI i2))]) hx hb d_Mo_readParts_69 hl (by decide) rfl (fun ls hl => ?_)
                      refine lv_iload hx hb d_Mo_readParts_71 (lv_at hl 0 rfl) ?_
                      refine lv_if_eq (tgt := 111) hx hb d_Mo_readParts_73 (by decide) (fun c_78 => ?_) (fun c_78 => ?_)
                      · skip
                        rw [mk_ceq (by omega)] at c_78
                        first | omega | contradiction
                      · skip
                        rw [mk_ceq (by omega)] at c_78
                        refine lv_aload_n hx hb d_Mo_readParts_76 rfl (lv_at hl 1 rfl) ?_
                        refine va_get (D := (dC, dI)) (ci := 5) (v := .ref mb) (C := "LongNamesModel") (T := F_Mo) (N := 5) hx hb hts (iw_Mo _) hown hK hP 0 rfl rfl 3 (by decide) (hts _ (List.mem_cons_of_mem _ k_525)) (fun _ h9 => h9) rfl d_Mo_readParts_77 ?_
                        refine lv_iload hx hb d_Mo_readParts_80 (lv_at hl 8 rfl) ?_
                        refine lv_iload hx hb d_Mo_readParts_82 (lv_at hl 9 rfl) ?_
                        refine lv_iadd hx hb d_Mo_readParts_84 ?_
                        refine mk_ti (y := nI (f - (32 * (io + 1)) + i2)) (nI_add (f - (32 * (io + 1))) i2) ?_
                        refine va_iald hx hb hK hP 3 0 rfl rfl (vp_in_nI (N := 1024) (show f - (32 * (io + 1)) + i2 < 1024 by omega) (by decide)) d_Mo_readParts_85 ?_
                        refine mk_ti (y := nI (B (f - (32 * (io + 1)) + i2))) (by rw [nI_clamp (by omega)]; rfl) ?_
                        have b_79 := hB6 (f - (32 * (io + 1)) + i2)
                        refine lv_iload hx hb d_Mo_readParts_86 (lv_at hl 9 rfl) ?_
                        refine lv_iload hx hb d_Mo_readParts_88 (lv_at hl 7 rfl) ?_
                        refine lv_iload hx hb d_Mo_readParts_90 (lv_at hl 7 rfl) ?_
                        refine lv_iload_n hx hb d_Mo_readParts_92 rfl (lv_at hl 4 rfl) ?_
                        refine lv_icmp_ne (tgt := 100) hx hb d_Mo_readParts_93 (by decide) (fun c_80 => ?_) (fun c_80 => ?_)
                        · skip
                          rw [nI_eq (by omega) (by omega)] at c_80
                          refine lv_iconst (v := nI 0) hx hb d_Mo_readParts_100 (by decide) ?_
                          refine lv_iload hx hb d_Mo_readParts_101 (lv_at hl 5 rfl) ?_
                          refine mk_r1 (W.runS (As := [.int (nI i2), .int (nI (io + 1)), .int (nI 0), .int (nI (suN B f 11))]) (rest := [.int (nI (B (f - (32 * (io + 1)) + i2)))]) S (c_Mo_due l dC dI cI i2 (io + 1) 0 (suN B f 11) (by first | assumption | omega) (by first | assumption | omega)) (gS 4 hts k_615 k_616 k_29 k_617 (by decide +kernel) ⟨Nat.le_of_ble_eq_true rfl, Nat.le_of_ble_eq_true rfl⟩) (mk_sR hP hK hT hS [] rfl) rfl rfl hl.1 rfl (lv_room (Nat.le_of_ble_eq_true rfl)) d_Mo_readParts_103 ⟨Nat.zero_le _, Nat.zero_le _⟩) ?_
                          refine mk_ti (y := nI (duN i2 (io + 1) (if io + 1 = p9 then 1 else 0) (suN B f 11))) (by first | (exfalso; omega) | rw [if_pos (by omega)] | rw [if_neg (by omega)]) ?_
                          have hd9 : duN i2 (io + 1) (if io + 1 = p9 then 1 else 0) (suN B f 11) < 65536 := duN_lt (by omega) hs9
                          refine lv_icmp_eq (tgt := 111) hx hb d_Mo_readParts_106 (by decide) (fun c_81 => ?_) (fun c_81 => ?_)
                          · skip
                            rw [nI_eq (by omega) (by omega)] at c_81
                            refine lv_iinc (v := nI (i2 + 1)) (lv' := [(8, .int (nI (i2 + 1))), (9, .int (nI 1)), (0, .ref m0), (1, .int (nI r)), (2, .int (nI f)), (3, .int (nI p9)), (4, .int (nI (suN B f 11))), (5, .int (nI 0)), (6, .int (nI (io + 1))), (7, .int (nI (f - (32 * (io + 1)))))]) hx hb d_Mo_readParts_111 hl (k := 9) rfl (mk_i1 i2) (by decide) rfl (fun ls hl => ?_)
                            refine lv_goto (tgt := 31) hx hb d_Mo_readParts_114 (by decide) ?_
                            have hl : lv_has ls 10 [(0, .ref m0), (1, .int (nI r)), (2, .int (nI f)), (3, .int (nI p9)), (4, .int (nI (suN B f 11))), (5, .int (nI 0)), (6, .int (nI (io + 1))), (7, .int (nI (f - (32 * (io + 1))))), (8, .int (nI (i2 + 1)))] := lv_sub hl [2, 3, 4, 5, 6, 7, 8, 9, 0] rfl
                            exact ih31 (i2 + 1) _ _ _ (by omega) (ow_2 hw2 (by first | (intro _; assumption) | (intro h9; simp only [owB, decide_eq_true_eq] at h9; omega))) hP hD hS hl
                          · skip
                            rw [nI_eq (by omega) (by omega)] at c_81
                            refine lv_iconst (v := nI 0) hx hb d_Mo_readParts_109 (by decide) ?_
                            exact hret _ _ _ _ (mt B f) (13 * io) d_Mo_readParts_110 (fun j => mt_lt hB6 j) (by first | omega | exact hS3.1) hP hD hS
                        · skip
                          rw [nI_eq (by omega) (by omega)] at c_80
                          refine lv_iconst (v := nI 1) hx hb d_Mo_readParts_96 (by decide) ?_
                          refine lv_goto (tgt := 101) hx hb d_Mo_readParts_97 (by decide) ?_
                          refine lv_iload hx hb d_Mo_readParts_101 (lv_at hl 5 rfl) ?_
                          refine mk_r1 (W.runS (As := [.int (nI i2), .int (nI (io + 1)), .int (nI 1), .int (nI (suN B f 11))]) (rest := [.int (nI (B (f - (32 * (io + 1)) + i2)))]) S (c_Mo_due l dC dI cI i2 (io + 1) 1 (suN B f 11) (by first | assumption | omega) (by first | assumption | omega)) (gS 4 hts k_615 k_616 k_29 k_617 (by decide +kernel) ⟨Nat.le_of_ble_eq_true rfl, Nat.le_of_ble_eq_true rfl⟩) (mk_sR hP hK hT hS [] rfl) rfl rfl hl.1 rfl (lv_room (Nat.le_of_ble_eq_true rfl)) d_Mo_readParts_103 ⟨Nat.zero_le _, Nat.zero_le _⟩) ?_
                          refine mk_ti (y := nI (duN i2 (io + 1) (if io + 1 = p9 then 1 else 0) (suN B f 11))) (by first | (exfalso; omega) | rw [if_pos (by omega)] | rw [if_neg (by omega)]) ?_
                          have hd9 : duN i2 (io + 1) (if io + 1 = p9 then 1 else 0) (suN B f 11) < 65536 := duN_lt (by omega) hs9
                          refine lv_icmp_eq (tgt := 111) hx hb d_Mo_readParts_106 (by decide) (fun c_82 => ?_) (fun c_82 => ?_)
                          · skip
                            rw [nI_eq (by omega) (by omega)] at c_82
                            refine lv_iinc (v := nI (i2 + 1)) (lv' := [(8, .int (nI (i2 + 1))), (9, .int (nI 1)), (0, .ref m0), (1, .int (nI r)), (2, .int (nI f)), (3, .int (nI p9)), (4, .int (nI (suN B f 11))), (5, .int (nI 0)), (6, .int (nI (io + 1))), (7, .int (nI (f - (32 * (io + 1)))))]) hx hb d_Mo_readParts_111 hl (k := 9) rfl (mk_i1 i2) (by decide) rfl (fun ls hl => ?_)
                            refine lv_goto (tgt := 31) hx hb d_Mo_readParts_114 (by decide) ?_
                            have hl : lv_has ls 10 [(0, .ref m0), (1, .int (nI r)), (2, .int (nI f)), (3, .int (nI p9)), (4, .int (nI (suN B f 11))), (5, .int (nI 0)), (6, .int (nI (io + 1))), (7, .int (nI (f - (32 * (io + 1))))), (8, .int (nI (i2 + 1)))] := lv_sub hl [2, 3, 4, 5, 6, 7, 8, 9, 0] rfl
                            exact ih31 (i2 + 1) _ _ _ (by omega) (ow_2 hw2 (by first | (intro _; assumption) | (intro h9; simp only [owB, decide_eq_true_eq] at h9; omega))) hP hD hS hl
                          · skip
                            rw [nI_eq (by omega) (by omega)] at c_82
                            refine lv_iconst (v := nI 0) hx hb d_Mo_readParts_109 (by decide) ?_
                            exact hret _ _ _ _ (mt B f) (13 * io) d_Mo_readParts_110 (fun j => mt_lt hB6 j) (by first | omega | exact hS3.1) hP hD hS
        have hl : lv_has ls 10 [(0, .ref m0), (1, .int (nI r)), (2, .int (nI f)), (3, .int (nI p9)), (4, .int (nI (suN B f 11))), (5, .int (nI 0)), (6, .int (nI (io + 1))), (7, .int (nI (f - (32 * (io + 1))))), (8, .int (nI 0))] := lv_sub hl [2, 3, 4, 5, 6, 7, 8, 1, 0] rfl
        exact lp31 28 0 _ _ _ rfl (fun b8 h9 => by omega) hP hD hS hl
  have hl : lv_has ls 10 [(0, .ref m0), (1, .int (nI r)), (2, .int (nI f)), (3, .int (nI p9)), (4, .int (nI (suN B f 11))), (5, .int (nI 0)), (6, .int (nI 1))] := lv_sub hl [3, 4, 5, 6, 2, 1, 0] rfl
  have hl9 : ([(0, .ref m0), (1, .int (nI r)), (2, .int (nI f)), (3, .int (nI p9)), (4, .int (nI (suN B f 11))), (5, .int (nI 0)), (6, .int (nI 1))] : List (Nat × Value)) = [(0, .ref m0), (1, .int (nI r)), (2, .int (nI f)), (3, .int (nI p9)), (4, .int (nI (suN B f 11))), (5, .int (bI false)), (6, .int (nI (0 + 1)))] := by rfl
  rw [hl9] at hl
  have hw9 : ([(m0, .inr (5, [.int th, .ref mu, .ref mz, .ref mb, .ref mr])), (mu, .inl (cI, 510, .inl (nf U))), (mz, .inl (cI, 2, .inl (nf (uN Z r 0)))), (mb, .inl (cI, 1024, .inl (nf B)))] : va_W) = [(m0, .inr (5, [.int th, .ref mu, .ref mz, .ref mb, .ref mr])), (mu, .inl (cI, 510, .inl (nf (stN U (mt B f) (255 * r) 0)))), (mz, .inl (cI, 2, .inl (nf (uN Z r 0)))), (mb, .inl (cI, 1024, .inl (nf B)))] := by rw [stN_0]
  rw [hw9] at hP hD
  exact lp13 p9 0 0 false _ _ _ (by omega) ⟨by omega, by omega⟩ (fun t h9 => by omega) (fun _ => rfl) (fun h9 => absurd h9 (by decide)) (fun p8 b8 h9 h8 => by omega) hP hD hS hl

