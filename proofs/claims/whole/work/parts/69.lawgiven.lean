/-! what the Statement gives of the start -/
theorem lw_mem {w : Cond} {i : Nat} (h : lw_tbl[i]? = some w) : w ∈ lw_tbl := List.mem_of_getElem? h
def lw_want : List Cond := [.arrayOf (.static "LongNames$Days" "MONTHS" "[I") .int, .eq (.length (.static "LongNames$Days" "MONTHS" "[I")) (.int 12), .eq (.elem (.static "LongNames$Days" "MONTHS" "[I") (.int 0)) (.int 31), .eq (.elem (.static "LongNames$Days" "MONTHS" "[I") (.int 1)) (.int 28), .eq (.elem (.static "LongNames$Days" "MONTHS" "[I") (.int 2)) (.int 31), .eq (.elem (.static "LongNames$Days" "MONTHS" "[I") (.int 3)) (.int 30), .eq (.elem (.static "LongNames$Days" "MONTHS" "[I") (.int 4)) (.int 31), .eq (.elem (.static "LongNames$Days" "MONTHS" "[I") (.int 5)) (.int 30), .eq (.elem (.static "LongNames$Days" "MONTHS" "[I") (.int 6)) (.int 31), .eq (.elem (.static "LongNames$Days" "MONTHS" "[I") (.int 7)) (.int 31), .eq (.elem (.static "LongNames$Days" "MONTHS" "[I") (.int 8)) (.int 30), .eq (.elem (.static "LongNames$Days" "MONTHS" "[I") (.int 9)) (.int 31), .eq (.elem (.static "LongNames$Days" "MONTHS" "[I") (.int 10)) (.int 30), .eq (.elem (.static "LongNames$Days" "MONTHS" "[I") (.int 11)) (.int 31), .arrayOf (.static "LongNames$Part" "PLACES" "[I") .int, .eq (.length (.static "LongNames$Part" "PLACES" "[I")) (.int 13), .eq (.elem (.static "LongNames$Part" "PLACES" "[I") (.int 0)) (.int 1), .eq (.elem (.static "LongNames$Part" "PLACES" "[I") (.int 1)) (.int 3), .eq (.elem (.static "LongNames$Part" "PLACES" "[I") (.int 2)) (.int 5), .eq (.elem (.static "LongNames$Part" "PLACES" "[I") (.int 3)) (.int 7), .eq (.elem (.static "LongNames$Part" "PLACES" "[I") (.int 4)) (.int 9), .eq (.elem (.static "LongNames$Part" "PLACES" "[I") (.int 5)) (.int 14), .eq (.elem (.static "LongNames$Part" "PLACES" "[I") (.int 6)) (.int 16), .eq (.elem (.static "LongNames$Part" "PLACES" "[I") (.int 7)) (.int 18), .eq (.elem (.static "LongNames$Part" "PLACES" "[I") (.int 8)) (.int 20), .eq (.elem (.static "LongNames$Part" "PLACES" "[I") (.int 9)) (.int 22), .eq (.elem (.static "LongNames$Part" "PLACES" "[I") (.int 10)) (.int 24), .eq (.elem (.static "LongNames$Part" "PLACES" "[I") (.int 11)) (.int 28), .eq (.elem (.static "LongNames$Part" "PLACES" "[I") (.int 12)) (.int 30), .isRef (.static "java/lang/Throwable" "UNASSIGNED_STACK" "[Ljava/lang/StackTraceElement;"), .isRef (.static "java/lang/Throwable" "SUPPRESSED_SENTINEL" "Ljava/util/List;"), .not (.castable "java/lang/IndexOutOfBoundsException" "java/lang/IllegalArgumentException"), .not (.castable "java/lang/IllegalStateException" "java/lang/IllegalArgumentException"), .not (.castable "java/lang/IllegalStateException" "java/lang/IndexOutOfBoundsException"), .exactly (.string "LongNames" 79) "java/lang/String", .exactly (.string "LongNames" 84) "java/lang/String", .exactly (.string "LongNames" 86) "java/lang/String", .exactly (.string "LongNames" 93) "java/lang/String", .exactly (.string "LongNames" 108) "java/lang/String", .exactly (.string "LongNames" 110) "java/lang/String", .exactly (.string "LongNames" 112) "java/lang/String", .exactly (.string "LongNames" 123) "java/lang/String", .exactly (.string "LongNames" 133) "java/lang/String"]
theorem lw_has : ∀ w ∈ lw_want, w ∈ flatC (Jvm.Cond.and given_1 narrow_1) := by decide +kernel
theorem lw_ev {args : Array Value} {s : State} {t : Term} {x : Int32} (h : (Cond.eq t (.int x)).before args s = true) : t.eval args s none [] s = some (.int x) := by
  obtain ⟨w, h1, h2⟩ := Cond.eq_one (show (Cond.eq t (.int x)).holds args s none s [] = true from h)
  rw [h1, ← h2]
  rfl
theorem lw_arr {args : Array Value} {s : State} {ty : FieldType} (h : (Cond.arrayClass ty).before args s = true) : ∃ cA : ClassId, ArrOfT s cA ty ∧ s.vm.findClass ("[" ++ ty.toString) = some cA := by
  obtain ⟨c, k, comp, h1, h2, h3⟩ := Cond.arrayClass_spec h
  exact ⟨c, fun n z => ⟨fun q h9 => (by cases h9), k, h2, comp, h3⟩, h1⟩
theorem lw_str {args : Array Value} {s : State} {k : Nat} {tx : String} (h1 : (Cond.stringRef "LongNames" k tx).before args s = true) (h2 : (Cond.exactly (.string "LongNames" k) "java/lang/String").before args s = true) : ∃ q : Nat, vk_R "LongNames" k tx q s := by
  obtain ⟨a2, c, cA, kA, q1, -⟩ := Cond.exactly_spec (args := args) (first := s) (o := none) (s := s) (idx := []) (t := .string "LongNames" k) (cls := "java/lang/String") h2
  exact ⟨a2, vk_R.of (A := args) h1 q1⟩
set_option maxHeartbeats 1000000 in
set_option maxRecDepth 100000 in
theorem lw_sT {args : Array Value} {s : State} {A : Nat → Prop} (hA : ∀ a : Nat, a < s.heap.size → ¬ A a) (hts : ∀ w ∈ lw_tbl, w.before args s = true) (hgv : (Jvm.Cond.and given_1 narrow_1).before args s = true) : sT A s s.heap ∧ nc_X s := by
  have hg : ∀ w ∈ lw_want, w.before args s = true := fun w hw => flat_of_before _ hgv w (lw_has w hw)
  have el_mo : ∀ j : Nat, j < 12 → (Term.elem (.static "LongNames$Days" "MONTHS" "[I") (.int (Int32.ofNat j))).eval args s none [] s = some (.int (nI (mlN j))) := by
    intro j hj
    rcases (show j = 0 ∨ j = 1 ∨ j = 2 ∨ j = 3 ∨ j = 4 ∨ j = 5 ∨ j = 6 ∨ j = 7 ∨ j = 8 ∨ j = 9 ∨ j = 10 ∨ j = 11 by omega) with rfl | rfl | rfl | rfl | rfl | rfl | rfl | rfl | rfl | rfl | rfl | rfl
    · exact lw_ev (hg _ (List.mem_of_getElem? (i := 2) rfl))
    · exact lw_ev (hg _ (List.mem_of_getElem? (i := 3) rfl))
    · exact lw_ev (hg _ (List.mem_of_getElem? (i := 4) rfl))
    · exact lw_ev (hg _ (List.mem_of_getElem? (i := 5) rfl))
    · exact lw_ev (hg _ (List.mem_of_getElem? (i := 6) rfl))
    · exact lw_ev (hg _ (List.mem_of_getElem? (i := 7) rfl))
    · exact lw_ev (hg _ (List.mem_of_getElem? (i := 8) rfl))
    · exact lw_ev (hg _ (List.mem_of_getElem? (i := 9) rfl))
    · exact lw_ev (hg _ (List.mem_of_getElem? (i := 10) rfl))
    · exact lw_ev (hg _ (List.mem_of_getElem? (i := 11) rfl))
    · exact lw_ev (hg _ (List.mem_of_getElem? (i := 12) rfl))
    · exact lw_ev (hg _ (List.mem_of_getElem? (i := 13) rfl))
  obtain ⟨t_mo, h_mo, T_mo⟩ := va_Tof (A := A) (N := 12) (by decide) (hg _ (List.mem_of_getElem? (i := 0) rfl)) (lw_ev (hg _ (List.mem_of_getElem? (i := 1) rfl))) el_mo hA
  have el_pl : ∀ j : Nat, j < 13 → (Term.elem (.static "LongNames$Part" "PLACES" "[I") (.int (Int32.ofNat j))).eval args s none [] s = some (.int (nI (plN j))) := by
    intro j hj
    rcases (show j = 0 ∨ j = 1 ∨ j = 2 ∨ j = 3 ∨ j = 4 ∨ j = 5 ∨ j = 6 ∨ j = 7 ∨ j = 8 ∨ j = 9 ∨ j = 10 ∨ j = 11 ∨ j = 12 by omega) with rfl | rfl | rfl | rfl | rfl | rfl | rfl | rfl | rfl | rfl | rfl | rfl | rfl
    · exact lw_ev (hg _ (List.mem_of_getElem? (i := 16) rfl))
    · exact lw_ev (hg _ (List.mem_of_getElem? (i := 17) rfl))
    · exact lw_ev (hg _ (List.mem_of_getElem? (i := 18) rfl))
    · exact lw_ev (hg _ (List.mem_of_getElem? (i := 19) rfl))
    · exact lw_ev (hg _ (List.mem_of_getElem? (i := 20) rfl))
    · exact lw_ev (hg _ (List.mem_of_getElem? (i := 21) rfl))
    · exact lw_ev (hg _ (List.mem_of_getElem? (i := 22) rfl))
    · exact lw_ev (hg _ (List.mem_of_getElem? (i := 23) rfl))
    · exact lw_ev (hg _ (List.mem_of_getElem? (i := 24) rfl))
    · exact lw_ev (hg _ (List.mem_of_getElem? (i := 25) rfl))
    · exact lw_ev (hg _ (List.mem_of_getElem? (i := 26) rfl))
    · exact lw_ev (hg _ (List.mem_of_getElem? (i := 27) rfl))
    · exact lw_ev (hg _ (List.mem_of_getElem? (i := 28) rfl))
  obtain ⟨t_pl, h_pl, T_pl⟩ := va_Tof (A := A) (N := 13) (by decide) (hg _ (List.mem_of_getElem? (i := 14) rfl)) (lw_ev (hg _ (List.mem_of_getElem? (i := 15) rfl))) el_pl hA
  have i_mo := va_Zref (A := A) (hts _ (lw_mem (i := 251) (by decide +kernel))) (hts _ (lw_mem (i := 38) (by decide +kernel))) h_mo hA
  have i_pl := va_Zref (A := A) (hts _ (lw_mem (i := 439) (by decide +kernel))) (hts _ (lw_mem (i := 27) (by decide +kernel))) h_pl hA
  refine ⟨⟨⟨t_pl, t_mo, i_pl, T_pl, i_mo, T_mo⟩, va_Zqof (hts _ (lw_mem (i := 313) (by decide +kernel))) (hts _ (lw_mem (i := 31) (by decide +kernel))) (hg _ (List.mem_of_getElem? (i := 29) rfl)) hA, va_Zqof (hts _ (lw_mem (i := 315) (by decide +kernel))) (hts _ (lw_mem (i := 31) (by decide +kernel))) (hg _ (List.mem_of_getElem? (i := 30) rfl)) hA, fun w hw => ?_, fun z hz => ?_, vz_L.of (hts _ (lw_mem (i := 313) (by decide +kernel))) hA, vz_L.of (hts _ (lw_mem (i := 315) (by decide +kernel))) hA⟩, nc_of (hg _ (List.mem_of_getElem? (i := 31) rfl)), nc_of (hg _ (List.mem_of_getElem? (i := 32) rfl)), nc_of (hg _ (List.mem_of_getElem? (i := 33) rfl))⟩
  · simp only [nestW, List.mem_cons, List.not_mem_nil, or_false] at hw
    rcases hw with rfl | rfl | rfl | rfl
    · exact va_Nw.of rfl (hts _ (lw_mem (i := 49) (by decide +kernel)))
    · exact va_Nw.of rfl (hts _ (lw_mem (i := 63) (by decide +kernel)))
    · exact va_Nw.of rfl (hts _ (lw_mem (i := 73) (by decide +kernel)))
    · exact va_Nw.of rfl (hts _ (lw_mem (i := 83) (by decide +kernel)))
  · simp only [strW, List.mem_cons, List.not_mem_nil, or_false] at hz
    rcases hz with rfl | rfl | rfl | rfl | rfl | rfl | rfl | rfl | rfl
    · exact lw_str (hts _ (lw_mem (i := 327) (by decide +kernel))) (hg _ (List.mem_of_getElem? (i := 34) rfl))
    · exact lw_str (hts _ (lw_mem (i := 354) (by decide +kernel))) (hg _ (List.mem_of_getElem? (i := 35) rfl))
    · exact lw_str (hts _ (lw_mem (i := 355) (by decide +kernel))) (hg _ (List.mem_of_getElem? (i := 36) rfl))
    · exact lw_str (hts _ (lw_mem (i := 365) (by decide +kernel))) (hg _ (List.mem_of_getElem? (i := 37) rfl))
    · exact lw_str (hts _ (lw_mem (i := 457) (by decide +kernel))) (hg _ (List.mem_of_getElem? (i := 38) rfl))
    · exact lw_str (hts _ (lw_mem (i := 458) (by decide +kernel))) (hg _ (List.mem_of_getElem? (i := 39) rfl))
    · exact lw_str (hts _ (lw_mem (i := 459) (by decide +kernel))) (hg _ (List.mem_of_getElem? (i := 40) rfl))
    · exact lw_str (hts _ (lw_mem (i := 483) (by decide +kernel))) (hg _ (List.mem_of_getElem? (i := 41) rfl))
    · exact lw_str (hts _ (lw_mem (i := 515) (by decide +kernel))) (hg _ (List.mem_of_getElem? (i := 42) rfl))
