section
-- ===== PART A: goes FIRST, ahead of the names: the tables' words, and 'selects' of the private methods out of them =====
/-- a private method of a class that the tables say can be made, by its rows of tables_1 -/
def lw_okq (q : MethodName × Nat) : Prop := (q.1.cls ≠ "java/lang/invoke/MethodHandle" ∧ q.1.cls ≠ "java/lang/invoke/VarHandle") ∧ Cond.instantiable q.1.cls q.2 ∈ tables_1 ∧ Cond.privateMethod q.1 ∈ tables_1 ∧ Cond.instanceMethod q.1 ∈ tables_1
theorem lw_p0 : lw_okq (⟨"LongNames", "rowOf", "(I)LLongNames$Row;"⟩, 5) := ⟨⟨by decide +kernel, by decide +kernel⟩, List.mem_of_getElem? (i := 17) (by decide +kernel), List.mem_of_getElem? (i := 89) (by decide +kernel), List.mem_of_getElem? (i := 90) (by decide +kernel)⟩
theorem lw_p1 : lw_okq (⟨"java/lang/Throwable", "fillInStackTrace", "(I)Ljava/lang/Throwable;"⟩, 6) := ⟨⟨by decide +kernel, by decide +kernel⟩, List.mem_of_getElem? (i := 302) (by decide +kernel), List.mem_of_getElem? (i := 300) (by decide +kernel), List.mem_of_getElem? (i := 301) (by decide +kernel)⟩
theorem lw_p2 : lw_okq (⟨"LongNames$ShortName", "shorten", "(LLongNames$Row;IIII)I"⟩, 1) := ⟨⟨by decide +kernel, by decide +kernel⟩, List.mem_of_getElem? (i := 39) (by decide +kernel), List.mem_of_getElem? (i := 359) (by decide +kernel), List.mem_of_getElem? (i := 360) (by decide +kernel)⟩
theorem lw_p3 : lw_okq (⟨"LongNames$ShortName", "set", "(II)V"⟩, 1) := ⟨⟨by decide +kernel, by decide +kernel⟩, List.mem_of_getElem? (i := 39) (by decide +kernel), List.mem_of_getElem? (i := 369) (by decide +kernel), List.mem_of_getElem? (i := 370) (by decide +kernel)⟩
theorem lw_p4 : lw_okq (⟨"LongNames$ShortName", "setNumber", "(III)V"⟩, 1) := ⟨⟨by decide +kernel, by decide +kernel⟩, List.mem_of_getElem? (i := 39) (by decide +kernel), List.mem_of_getElem? (i := 380) (by decide +kernel), List.mem_of_getElem? (i := 381) (by decide +kernel)⟩
theorem lw_p5 : lw_okq (⟨"LongNames", "writeSlots", "(LLongNames$Row;II)V"⟩, 5) := ⟨⟨by decide +kernel, by decide +kernel⟩, List.mem_of_getElem? (i := 17) (by decide +kernel), List.mem_of_getElem? (i := 384) (by decide +kernel), List.mem_of_getElem? (i := 385) (by decide +kernel)⟩
theorem lw_p6 : lw_okq (⟨"LongNames$ShortName", "get", "(I)I"⟩, 1) := ⟨⟨by decide +kernel, by decide +kernel⟩, List.mem_of_getElem? (i := 39) (by decide +kernel), List.mem_of_getElem? (i := 392) (by decide +kernel), List.mem_of_getElem? (i := 393) (by decide +kernel)⟩
theorem lw_p7 : lw_okq (⟨"LongNames$Part", "set", "(II)V"⟩, 1) := ⟨⟨by decide +kernel, by decide +kernel⟩, List.mem_of_getElem? (i := 49) (by decide +kernel), List.mem_of_getElem? (i := 403) (by decide +kernel), List.mem_of_getElem? (i := 404) (by decide +kernel)⟩
theorem lw_p8 : lw_okq (⟨"LongNames$Part", "get", "(I)I"⟩, 1) := ⟨⟨by decide +kernel, by decide +kernel⟩, List.mem_of_getElem? (i := 49) (by decide +kernel), List.mem_of_getElem? (i := 422) (by decide +kernel), List.mem_of_getElem? (i := 423) (by decide +kernel)⟩
theorem lw_p9 : lw_okq (⟨"LongNames$ShortName", "blanksOnlyEnd", "(II)Z"⟩, 1) := ⟨⟨by decide +kernel, by decide +kernel⟩, List.mem_of_getElem? (i := 39) (by decide +kernel), List.mem_of_getElem? (i := 447) (by decide +kernel), List.mem_of_getElem? (i := 448) (by decide +kernel)⟩
theorem lw_p10 : lw_okq (⟨"LongNames$ShortName", "showBytes", "(LLongNames$Row;II)V"⟩, 1) := ⟨⟨by decide +kernel, by decide +kernel⟩, List.mem_of_getElem? (i := 39) (by decide +kernel), List.mem_of_getElem? (i := 472) (by decide +kernel), List.mem_of_getElem? (i := 473) (by decide +kernel)⟩
theorem lw_p11 : lw_okq (⟨"LongNames", "readParts", "(LLongNames$Row;II)Z"⟩, 5) := ⟨⟨by decide +kernel, by decide +kernel⟩, List.mem_of_getElem? (i := 17) (by decide +kernel), List.mem_of_getElem? (i := 477) (by decide +kernel), List.mem_of_getElem? (i := 478) (by decide +kernel)⟩
theorem lw_p12 : lw_okq (⟨"LongNames", "collectUnits", "(LLongNames$Row;II)V"⟩, 5) := ⟨⟨by decide +kernel, by decide +kernel⟩, List.mem_of_getElem? (i := 17) (by decide +kernel), List.mem_of_getElem? (i := 481) (by decide +kernel), List.mem_of_getElem? (i := 482) (by decide +kernel)⟩
theorem lw_p13 : lw_okq (⟨"LongNamesModel", "isName", "(I)Z"⟩, 5) := ⟨⟨by decide +kernel, by decide +kernel⟩, List.mem_of_getElem? (i := 494) (by decide +kernel), List.mem_of_getElem? (i := 536) (by decide +kernel), List.mem_of_getElem? (i := 537) (by decide +kernel)⟩
theorem lw_p14 : lw_okq (⟨"LongNamesModel", "at", "(II)I"⟩, 5) := ⟨⟨by decide +kernel, by decide +kernel⟩, List.mem_of_getElem? (i := 494) (by decide +kernel), List.mem_of_getElem? (i := 540) (by decide +kernel), List.mem_of_getElem? (i := 541) (by decide +kernel)⟩
theorem lw_p15 : lw_okq (⟨"LongNamesModel", "isShown", "(I)Z"⟩, 5) := ⟨⟨by decide +kernel, by decide +kernel⟩, List.mem_of_getElem? (i := 494) (by decide +kernel), List.mem_of_getElem? (i := 550) (by decide +kernel), List.mem_of_getElem? (i := 551) (by decide +kernel)⟩
def lw_privs_1 : List (MethodName × Nat) := [(⟨"LongNames", "rowOf", "(I)LLongNames$Row;"⟩, 5), (⟨"java/lang/Throwable", "fillInStackTrace", "(I)Ljava/lang/Throwable;"⟩, 6), (⟨"LongNames$ShortName", "shorten", "(LLongNames$Row;IIII)I"⟩, 1), (⟨"LongNames$ShortName", "set", "(II)V"⟩, 1), (⟨"LongNames$ShortName", "setNumber", "(III)V"⟩, 1), (⟨"LongNames", "writeSlots", "(LLongNames$Row;II)V"⟩, 5), (⟨"LongNames$ShortName", "get", "(I)I"⟩, 1), (⟨"LongNames$Part", "set", "(II)V"⟩, 1), (⟨"LongNames$Part", "get", "(I)I"⟩, 1), (⟨"LongNames$ShortName", "blanksOnlyEnd", "(II)Z"⟩, 1), (⟨"LongNames$ShortName", "showBytes", "(LLongNames$Row;II)V"⟩, 1), (⟨"LongNames", "readParts", "(LLongNames$Row;II)Z"⟩, 5), (⟨"LongNames", "collectUnits", "(LLongNames$Row;II)V"⟩, 5), (⟨"LongNamesModel", "isName", "(I)Z"⟩, 5), (⟨"LongNamesModel", "at", "(II)I"⟩, 5), (⟨"LongNamesModel", "isShown", "(I)Z"⟩, 5)]
theorem lw_r1 : ∀ q ∈ lw_privs_1, lw_okq q := List.forall_mem_cons.mpr ⟨lw_p0, List.forall_mem_cons.mpr ⟨lw_p1, List.forall_mem_cons.mpr ⟨lw_p2, List.forall_mem_cons.mpr ⟨lw_p3, List.forall_mem_cons.mpr ⟨lw_p4, List.forall_mem_cons.mpr ⟨lw_p5, List.forall_mem_cons.mpr ⟨lw_p6, List.forall_mem_cons.mpr ⟨lw_p7, List.forall_mem_cons.mpr ⟨lw_p8, List.forall_mem_cons.mpr ⟨lw_p9, List.forall_mem_cons.mpr ⟨lw_p10, List.forall_mem_cons.mpr ⟨lw_p11, List.forall_mem_cons.mpr ⟨lw_p12, List.forall_mem_cons.mpr ⟨lw_p13, List.forall_mem_cons.mpr ⟨lw_p14, List.forall_mem_cons.mpr ⟨lw_p15, fun _ h => absurd h List.not_mem_nil⟩⟩⟩⟩⟩⟩⟩⟩⟩⟩⟩⟩⟩⟩⟩⟩
theorem lw_p16 : lw_okq (⟨"LongNamesModel", "pointOf", "(I)I"⟩, 5) := ⟨⟨by decide +kernel, by decide +kernel⟩, List.mem_of_getElem? (i := 494) (by decide +kernel), List.mem_of_getElem? (i := 554) (by decide +kernel), List.mem_of_getElem? (i := 555) (by decide +kernel)⟩
theorem lw_p17 : lw_okq (⟨"LongNamesModel", "tailed", "(II)V"⟩, 5) := ⟨⟨by decide +kernel, by decide +kernel⟩, List.mem_of_getElem? (i := 494) (by decide +kernel), List.mem_of_getElem? (i := 582) (by decide +kernel), List.mem_of_getElem? (i := 583) (by decide +kernel)⟩
theorem lw_p18 : lw_okq (⟨"LongNamesModel", "sumOf", "(I)I"⟩, 5) := ⟨⟨by decide +kernel, by decide +kernel⟩, List.mem_of_getElem? (i := 494) (by decide +kernel), List.mem_of_getElem? (i := 589) (by decide +kernel), List.mem_of_getElem? (i := 590) (by decide +kernel)⟩
theorem lw_p19 : lw_okq (⟨"LongNamesModel", "isShort", "(I)Z"⟩, 5) := ⟨⟨by decide +kernel, by decide +kernel⟩, List.mem_of_getElem? (i := 494) (by decide +kernel), List.mem_of_getElem? (i := 603) (by decide +kernel), List.mem_of_getElem? (i := 604) (by decide +kernel)⟩
theorem lw_p20 : lw_okq (⟨"LongNamesModel", "readShown", "(II)V"⟩, 5) := ⟨⟨by decide +kernel, by decide +kernel⟩, List.mem_of_getElem? (i := 494) (by decide +kernel), List.mem_of_getElem? (i := 607) (by decide +kernel), List.mem_of_getElem? (i := 608) (by decide +kernel)⟩
theorem lw_p21 : lw_okq (⟨"LongNamesModel", "add", "(II)V"⟩, 5) := ⟨⟨by decide +kernel, by decide +kernel⟩, List.mem_of_getElem? (i := 494) (by decide +kernel), List.mem_of_getElem? (i := 611) (by decide +kernel), List.mem_of_getElem? (i := 612) (by decide +kernel)⟩
theorem lw_p22 : lw_okq (⟨"LongNamesModel", "readParts", "(III)Z"⟩, 5) := ⟨⟨by decide +kernel, by decide +kernel⟩, List.mem_of_getElem? (i := 494) (by decide +kernel), List.mem_of_getElem? (i := 615) (by decide +kernel), List.mem_of_getElem? (i := 616) (by decide +kernel)⟩
def lw_privs_2 : List (MethodName × Nat) := [(⟨"LongNamesModel", "pointOf", "(I)I"⟩, 5), (⟨"LongNamesModel", "tailed", "(II)V"⟩, 5), (⟨"LongNamesModel", "sumOf", "(I)I"⟩, 5), (⟨"LongNamesModel", "isShort", "(I)Z"⟩, 5), (⟨"LongNamesModel", "readShown", "(II)V"⟩, 5), (⟨"LongNamesModel", "add", "(II)V"⟩, 5), (⟨"LongNamesModel", "readParts", "(III)Z"⟩, 5)]
theorem lw_r2 : ∀ q ∈ lw_privs_2, lw_okq q := List.forall_mem_cons.mpr ⟨lw_p16, List.forall_mem_cons.mpr ⟨lw_p17, List.forall_mem_cons.mpr ⟨lw_p18, List.forall_mem_cons.mpr ⟨lw_p19, List.forall_mem_cons.mpr ⟨lw_p20, List.forall_mem_cons.mpr ⟨lw_p21, List.forall_mem_cons.mpr ⟨lw_p22, fun _ h => absurd h List.not_mem_nil⟩⟩⟩⟩⟩⟩⟩
def lw_privs : List (MethodName × Nat) := lw_privs_1 ++ (lw_privs_2)
def lw_tbl : List Cond := k2_sels lw_privs ++ tables_1
theorem lw_privs_ok : ∀ q ∈ lw_privs, lw_okq q := by
  show ∀ q ∈ lw_privs_1 ++ (lw_privs_2), lw_okq q
  exact List.forall_mem_append.mpr ⟨lw_r1, lw_r2⟩
/-! names: the words of the tables that every method may use -/
def BIG : List Cond := lw_tbl.filter goodWord
theorem bigT {w : Cond} {i : Nat} (h : lw_tbl[i]? = some w) (hg : goodWord w = true) : w ∈ BIG := List.mem_filter.mpr ⟨List.mem_of_getElem? h, hg⟩
theorem big_good (w : Cond) (h : w ∈ BIG) : goodWord w = true := (List.mem_filter.mp h).2
def F_LN : u_T := fun k => match k with
  | 0 => ("LongNames", "first", "LLongNames$Row;", true)
  | 1 => ("LongNames", "second", "LLongNames$Row;", true)
  | 2 => ("LongNames", "shortName", "LLongNames$ShortName;", true)
  | 3 => ("LongNames", "part", "LLongNames$Part;", true)
  | _ => ("LongNames", "slots", "LLongNames$Slots;", true)
def t_LN : Nat → FieldType := fun k => match k with
  | 0 => .object "LongNames$Row"
  | 1 => .object "LongNames$Row"
  | 2 => .object "LongNames$ShortName"
  | 3 => .object "LongNames$Part"
  | _ => .object "LongNames$Slots"
theorem n_LN : ∀ a, a < 5 → ∀ b, b < 5 → a ≠ b → (F_LN a).2.1 ≠ (F_LN b).2.1 := by decide +kernel
theorem t_LN_ok : ∀ k, k < 5 → parseFieldDescriptor (F_LN k).2.2.1 = some (t_LN k) := by decide +kernel
theorem iB_LN : ∀ w ∈ u_ws "LongNames" F_LN 5, w ∈ BIG := by decide +kernel
theorem iw_LN (z : Cond) : ∀ w ∈ u_ws "LongNames" F_LN 5, w ∈ z :: BIG := fun w h => List.mem_cons_of_mem _ (iB_LN w h)
def F_Ro : u_T := fun k => match k with
  | 0 => ("LongNames$Row", "units", "[I", true)
  | _ => ("LongNames$Row", "count", "I", false)
def t_Ro : Nat → FieldType := fun k => match k with
  | 0 => .array .int
  | _ => .int
theorem n_Ro : ∀ a, a < 2 → ∀ b, b < 2 → a ≠ b → (F_Ro a).2.1 ≠ (F_Ro b).2.1 := by decide +kernel
theorem t_Ro_ok : ∀ k, k < 2 → parseFieldDescriptor (F_Ro k).2.2.1 = some (t_Ro k) := by decide +kernel
theorem iB_Ro : ∀ w ∈ u_ws "LongNames$Row" F_Ro 2, w ∈ BIG := by decide +kernel
theorem iw_Ro (z : Cond) : ∀ w ∈ u_ws "LongNames$Row" F_Ro 2, w ∈ z :: BIG := fun w h => List.mem_cons_of_mem _ (iB_Ro w h)
def F_Sn : u_T := fun k => match k with
  | _ => ("LongNames$ShortName", "bytes", "[I", true)
def t_Sn : Nat → FieldType := fun k => match k with
  | _ => .array .int
theorem n_Sn : ∀ a, a < 1 → ∀ b, b < 1 → a ≠ b → (F_Sn a).2.1 ≠ (F_Sn b).2.1 := by decide +kernel
theorem t_Sn_ok : ∀ k, k < 1 → parseFieldDescriptor (F_Sn k).2.2.1 = some (t_Sn k) := by decide +kernel
theorem iB_Sn : ∀ w ∈ u_ws "LongNames$ShortName" F_Sn 1, w ∈ BIG := by decide +kernel
theorem iw_Sn (z : Cond) : ∀ w ∈ u_ws "LongNames$ShortName" F_Sn 1, w ∈ z :: BIG := fun w h => List.mem_cons_of_mem _ (iB_Sn w h)
def F_Pt : u_T := fun k => match k with
  | _ => ("LongNames$Part", "bytes", "[I", true)
def t_Pt : Nat → FieldType := fun k => match k with
  | _ => .array .int
theorem n_Pt : ∀ a, a < 1 → ∀ b, b < 1 → a ≠ b → (F_Pt a).2.1 ≠ (F_Pt b).2.1 := by decide +kernel
theorem t_Pt_ok : ∀ k, k < 1 → parseFieldDescriptor (F_Pt k).2.2.1 = some (t_Pt k) := by decide +kernel
theorem iB_Pt : ∀ w ∈ u_ws "LongNames$Part" F_Pt 1, w ∈ BIG := by decide +kernel
theorem iw_Pt (z : Cond) : ∀ w ∈ u_ws "LongNames$Part" F_Pt 1, w ∈ z :: BIG := fun w h => List.mem_cons_of_mem _ (iB_Pt w h)
def F_Sl : u_T := fun k => match k with
  | _ => ("LongNames$Slots", "bytes", "[I", true)
def t_Sl : Nat → FieldType := fun k => match k with
  | _ => .array .int
theorem n_Sl : ∀ a, a < 1 → ∀ b, b < 1 → a ≠ b → (F_Sl a).2.1 ≠ (F_Sl b).2.1 := by decide +kernel
theorem t_Sl_ok : ∀ k, k < 1 → parseFieldDescriptor (F_Sl k).2.2.1 = some (t_Sl k) := by decide +kernel
theorem iB_Sl : ∀ w ∈ u_ws "LongNames$Slots" F_Sl 1, w ∈ BIG := by decide +kernel
theorem iw_Sl (z : Cond) : ∀ w ∈ u_ws "LongNames$Slots" F_Sl 1, w ∈ z :: BIG := fun w h => List.mem_cons_of_mem _ (iB_Sl w h)
def F_Mo : u_T := fun k => match k with
  | 0 => ("LongNamesModel", "thrown", "I", false)
  | 1 => ("LongNamesModel", "units", "[I", true)
  | 2 => ("LongNamesModel", "sizes", "[I", true)
  | 3 => ("LongNamesModel", "bytes", "[I", true)
  | _ => ("LongNamesModel", "brief", "[I", true)
def t_Mo : Nat → FieldType := fun k => match k with
  | 0 => .int
  | 1 => .array .int
  | 2 => .array .int
  | 3 => .array .int
  | _ => .array .int
theorem n_Mo : ∀ a, a < 5 → ∀ b, b < 5 → a ≠ b → (F_Mo a).2.1 ≠ (F_Mo b).2.1 := by decide +kernel
theorem t_Mo_ok : ∀ k, k < 5 → parseFieldDescriptor (F_Mo k).2.2.1 = some (t_Mo k) := by decide +kernel
theorem iB_Mo : ∀ w ∈ u_ws "LongNamesModel" F_Mo 5, w ∈ BIG := by decide +kernel
theorem iw_Mo (z : Cond) : ∀ w ∈ u_ws "LongNamesModel" F_Mo 5, w ∈ z :: BIG := fun w h => List.mem_cons_of_mem _ (iB_Mo w h)
abbrev vwCl : List vw_C := [("LongNames", F_LN, 5), ("LongNames$Row", F_Ro, 2), ("LongNames$ShortName", F_Sn, 1), ("LongNames$Part", F_Pt, 1), ("LongNames$Slots", F_Sl, 1), ("LongNamesModel", F_Mo, 5)]
end
section
theorem k_0 : .selects "LongNames" ⟨"LongNames", "rowOf", "(I)LLongNames$Row;"⟩ ⟨"LongNames", "rowOf", "(I)LLongNames$Row;"⟩ ∈ BIG := bigT (i := 0) (by decide +kernel) (by decide +kernel)
theorem k_1 : .selects "java/lang/Throwable" ⟨"java/lang/Throwable", "fillInStackTrace", "(I)Ljava/lang/Throwable;"⟩ ⟨"java/lang/Throwable", "fillInStackTrace", "(I)Ljava/lang/Throwable;"⟩ ∈ BIG := bigT (i := 1) (by decide +kernel) (by decide +kernel)
theorem k_2 : .selects "LongNames$ShortName" ⟨"LongNames$ShortName", "shorten", "(LLongNames$Row;IIII)I"⟩ ⟨"LongNames$ShortName", "shorten", "(LLongNames$Row;IIII)I"⟩ ∈ BIG := bigT (i := 2) (by decide +kernel) (by decide +kernel)
theorem k_3 : .selects "LongNames$ShortName" ⟨"LongNames$ShortName", "set", "(II)V"⟩ ⟨"LongNames$ShortName", "set", "(II)V"⟩ ∈ BIG := bigT (i := 3) (by decide +kernel) (by decide +kernel)
theorem k_4 : .selects "LongNames$ShortName" ⟨"LongNames$ShortName", "setNumber", "(III)V"⟩ ⟨"LongNames$ShortName", "setNumber", "(III)V"⟩ ∈ BIG := bigT (i := 4) (by decide +kernel) (by decide +kernel)
theorem k_5 : .selects "LongNames" ⟨"LongNames", "writeSlots", "(LLongNames$Row;II)V"⟩ ⟨"LongNames", "writeSlots", "(LLongNames$Row;II)V"⟩ ∈ BIG := bigT (i := 5) (by decide +kernel) (by decide +kernel)
theorem k_6 : .selects "LongNames$ShortName" ⟨"LongNames$ShortName", "get", "(I)I"⟩ ⟨"LongNames$ShortName", "get", "(I)I"⟩ ∈ BIG := bigT (i := 6) (by decide +kernel) (by decide +kernel)
theorem k_7 : .selects "LongNames$Part" ⟨"LongNames$Part", "set", "(II)V"⟩ ⟨"LongNames$Part", "set", "(II)V"⟩ ∈ BIG := bigT (i := 7) (by decide +kernel) (by decide +kernel)
theorem k_8 : .selects "LongNames$Part" ⟨"LongNames$Part", "get", "(I)I"⟩ ⟨"LongNames$Part", "get", "(I)I"⟩ ∈ BIG := bigT (i := 8) (by decide +kernel) (by decide +kernel)
theorem k_9 : .selects "LongNames$ShortName" ⟨"LongNames$ShortName", "blanksOnlyEnd", "(II)Z"⟩ ⟨"LongNames$ShortName", "blanksOnlyEnd", "(II)Z"⟩ ∈ BIG := bigT (i := 9) (by decide +kernel) (by decide +kernel)
theorem k_10 : .selects "LongNames$ShortName" ⟨"LongNames$ShortName", "showBytes", "(LLongNames$Row;II)V"⟩ ⟨"LongNames$ShortName", "showBytes", "(LLongNames$Row;II)V"⟩ ∈ BIG := bigT (i := 10) (by decide +kernel) (by decide +kernel)
theorem k_11 : .selects "LongNames" ⟨"LongNames", "readParts", "(LLongNames$Row;II)Z"⟩ ⟨"LongNames", "readParts", "(LLongNames$Row;II)Z"⟩ ∈ BIG := bigT (i := 11) (by decide +kernel) (by decide +kernel)
theorem k_12 : .selects "LongNames" ⟨"LongNames", "collectUnits", "(LLongNames$Row;II)V"⟩ ⟨"LongNames", "collectUnits", "(LLongNames$Row;II)V"⟩ ∈ BIG := bigT (i := 12) (by decide +kernel) (by decide +kernel)
theorem k_13 : .selects "LongNamesModel" ⟨"LongNamesModel", "isName", "(I)Z"⟩ ⟨"LongNamesModel", "isName", "(I)Z"⟩ ∈ BIG := bigT (i := 13) (by decide +kernel) (by decide +kernel)
theorem k_14 : .selects "LongNamesModel" ⟨"LongNamesModel", "at", "(II)I"⟩ ⟨"LongNamesModel", "at", "(II)I"⟩ ∈ BIG := bigT (i := 14) (by decide +kernel) (by decide +kernel)
theorem k_15 : .selects "LongNamesModel" ⟨"LongNamesModel", "isShown", "(I)Z"⟩ ⟨"LongNamesModel", "isShown", "(I)Z"⟩ ∈ BIG := bigT (i := 15) (by decide +kernel) (by decide +kernel)
theorem k_16 : .selects "LongNamesModel" ⟨"LongNamesModel", "pointOf", "(I)I"⟩ ⟨"LongNamesModel", "pointOf", "(I)I"⟩ ∈ BIG := bigT (i := 16) (by decide +kernel) (by decide +kernel)
theorem k_17 : .selects "LongNamesModel" ⟨"LongNamesModel", "tailed", "(II)V"⟩ ⟨"LongNamesModel", "tailed", "(II)V"⟩ ∈ BIG := bigT (i := 17) (by decide +kernel) (by decide +kernel)
theorem k_18 : .selects "LongNamesModel" ⟨"LongNamesModel", "sumOf", "(I)I"⟩ ⟨"LongNamesModel", "sumOf", "(I)I"⟩ ∈ BIG := bigT (i := 18) (by decide +kernel) (by decide +kernel)
theorem k_19 : .selects "LongNamesModel" ⟨"LongNamesModel", "isShort", "(I)Z"⟩ ⟨"LongNamesModel", "isShort", "(I)Z"⟩ ∈ BIG := bigT (i := 19) (by decide +kernel) (by decide +kernel)
theorem k_20 : .selects "LongNamesModel" ⟨"LongNamesModel", "readShown", "(II)V"⟩ ⟨"LongNamesModel", "readShown", "(II)V"⟩ ∈ BIG := bigT (i := 20) (by decide +kernel) (by decide +kernel)
theorem k_21 : .selects "LongNamesModel" ⟨"LongNamesModel", "add", "(II)V"⟩ ⟨"LongNamesModel", "add", "(II)V"⟩ ∈ BIG := bigT (i := 21) (by decide +kernel) (by decide +kernel)
theorem k_22 : .selects "LongNamesModel" ⟨"LongNamesModel", "readParts", "(III)Z"⟩ ⟨"LongNamesModel", "readParts", "(III)Z"⟩ ∈ BIG := bigT (i := 22) (by decide +kernel) (by decide +kernel)
theorem k_23 : .initialized "LongNamesLaw" ∈ BIG := bigT (i := 23) (by decide +kernel) (by decide +kernel)
theorem k_24 : .initialized "LongNames" ∈ BIG := bigT (i := 24) (by decide +kernel) (by decide +kernel)
theorem k_25 : .initialized "LongNames$Row" ∈ BIG := bigT (i := 25) (by decide +kernel) (by decide +kernel)
theorem k_26 : .initialized "LongNames$ShortName" ∈ BIG := bigT (i := 26) (by decide +kernel) (by decide +kernel)
theorem k_27 : .initialized "LongNames$Part" ∈ BIG := bigT (i := 27) (by decide +kernel) (by decide +kernel)
theorem k_28 : .initialized "LongNames$Slots" ∈ BIG := bigT (i := 28) (by decide +kernel) (by decide +kernel)
theorem k_29 : .initialized "LongNamesModel" ∈ BIG := bigT (i := 29) (by decide +kernel) (by decide +kernel)
theorem k_30 : .initialized "LongNames$Units" ∈ BIG := bigT (i := 30) (by decide +kernel) (by decide +kernel)
theorem k_31 : .initialized "java/lang/Throwable" ∈ BIG := bigT (i := 31) (by decide +kernel) (by decide +kernel)
theorem k_32 : .initialized "java/lang/Exception" ∈ BIG := bigT (i := 32) (by decide +kernel) (by decide +kernel)
theorem k_33 : .initialized "java/lang/RuntimeException" ∈ BIG := bigT (i := 33) (by decide +kernel) (by decide +kernel)
theorem k_34 : .initialized "java/lang/IllegalArgumentException" ∈ BIG := bigT (i := 34) (by decide +kernel) (by decide +kernel)
theorem k_35 : .initialized "java/lang/IndexOutOfBoundsException" ∈ BIG := bigT (i := 35) (by decide +kernel) (by decide +kernel)
theorem k_36 : .initialized "java/util/Arrays" ∈ BIG := bigT (i := 36) (by decide +kernel) (by decide +kernel)
theorem k_37 : .initialized "java/lang/IllegalStateException" ∈ BIG := bigT (i := 37) (by decide +kernel) (by decide +kernel)
theorem k_38 : .initialized "LongNames$Days" ∈ BIG := bigT (i := 38) (by decide +kernel) (by decide +kernel)
theorem k_39 : .classLink "LongNamesLaw" 8 "LongNames" ∈ BIG := bigT (i := 39) (by decide +kernel) (by decide +kernel)
theorem k_40 : .instantiable "LongNames" 5 ∈ BIG := bigT (i := 40) (by decide +kernel) (by decide +kernel)
theorem k_41 : .methodLink "LongNamesLaw" 22 ⟨"LongNames", "<init>", "()V"⟩ ∈ BIG := bigT (i := 41) (by decide +kernel) (by decide +kernel)
theorem k_42 : .instanceMethod ⟨"LongNames", "<init>", "()V"⟩ ∈ BIG := bigT (i := 42) (by decide +kernel) (by decide +kernel)
theorem k_43 : .code ⟨"LongNames", "<init>", "()V"⟩ prog_1_method_1_code 1 none ∈ BIG := bigT (i := 43) (by decide +kernel) (by decide +kernel)
theorem k_44 : .methodLink "LongNames" 1 ⟨"java/lang/Object", "<init>", "()V"⟩ ∈ BIG := bigT (i := 44) (by decide +kernel) (by decide +kernel)
theorem k_45 : .instanceMethod ⟨"java/lang/Object", "<init>", "()V"⟩ ∈ BIG := bigT (i := 45) (by decide +kernel) (by decide +kernel)
theorem k_46 : .code ⟨"java/lang/Object", "<init>", "()V"⟩ object_method_1_code 1 none ∈ BIG := bigT (i := 46) (by decide +kernel) (by decide +kernel)
theorem k_47 : .classLink "LongNames" 7 "LongNames$Row" ∈ BIG := bigT (i := 47) (by decide +kernel) (by decide +kernel)
theorem k_48 : .instantiable "LongNames$Row" 2 ∈ BIG := bigT (i := 48) (by decide +kernel) (by decide +kernel)
theorem k_50 : .instanceMethod ⟨"LongNames$Row", "<init>", "()V"⟩ ∈ BIG := bigT (i := 50) (by decide +kernel) (by decide +kernel)
theorem k_51 : .code ⟨"LongNames$Row", "<init>", "()V"⟩ prog_4_method_1_code 1 none ∈ BIG := bigT (i := 51) (by decide +kernel) (by decide +kernel)
theorem k_52 : .methodLink "LongNames$Row" 3 ⟨"java/lang/Object", "<init>", "()V"⟩ ∈ BIG := bigT (i := 52) (by decide +kernel) (by decide +kernel)
theorem k_53 : .fieldLink "LongNames$Row" 11 "LongNames$Row" "units" "[I" ∈ BIG := bigT (i := 53) (by decide +kernel) (by decide +kernel)
theorem k_54 : .fieldLink "LongNames$Row" 15 "LongNames$Row" "count" "I" ∈ BIG := bigT (i := 54) (by decide +kernel) (by decide +kernel)
theorem k_55 : .laysFinal "LongNames$Row" "LongNames$Row" "units" "[I" ∈ BIG := bigT (i := 55) (by decide +kernel) (by decide +kernel)
theorem k_57 : .lays "LongNames$Row" "LongNames$Row" "count" "I" ∈ BIG := bigT (i := 57) (by decide +kernel) (by decide +kernel)
theorem k_59 : .superclass "LongNames$Row" "java/lang/Object" ∈ BIG := bigT (i := 59) (by decide +kernel) (by decide +kernel)
theorem k_60 : .arrayClass .int ∈ BIG := bigT (i := 60) (by decide +kernel) (by decide +kernel)
theorem k_61 : .classLink "LongNames" 19 "LongNames$ShortName" ∈ BIG := bigT (i := 61) (by decide +kernel) (by decide +kernel)
theorem k_62 : .instantiable "LongNames$ShortName" 1 ∈ BIG := bigT (i := 62) (by decide +kernel) (by decide +kernel)
theorem k_64 : .instanceMethod ⟨"LongNames$ShortName", "<init>", "()V"⟩ ∈ BIG := bigT (i := 64) (by decide +kernel) (by decide +kernel)
theorem k_65 : .code ⟨"LongNames$ShortName", "<init>", "()V"⟩ prog_5_method_1_code 1 none ∈ BIG := bigT (i := 65) (by decide +kernel) (by decide +kernel)
theorem k_66 : .methodLink "LongNames$ShortName" 5 ⟨"java/lang/Object", "<init>", "()V"⟩ ∈ BIG := bigT (i := 66) (by decide +kernel) (by decide +kernel)
theorem k_67 : .fieldLink "LongNames$ShortName" 11 "LongNames$ShortName" "bytes" "[I" ∈ BIG := bigT (i := 67) (by decide +kernel) (by decide +kernel)
theorem k_68 : .laysFinal "LongNames$ShortName" "LongNames$ShortName" "bytes" "[I" ∈ BIG := bigT (i := 68) (by decide +kernel) (by decide +kernel)
theorem k_70 : .superclass "LongNames$ShortName" "java/lang/Object" ∈ BIG := bigT (i := 70) (by decide +kernel) (by decide +kernel)
theorem k_71 : .classLink "LongNames" 26 "LongNames$Part" ∈ BIG := bigT (i := 71) (by decide +kernel) (by decide +kernel)
theorem k_72 : .instantiable "LongNames$Part" 1 ∈ BIG := bigT (i := 72) (by decide +kernel) (by decide +kernel)
theorem k_74 : .instanceMethod ⟨"LongNames$Part", "<init>", "()V"⟩ ∈ BIG := bigT (i := 74) (by decide +kernel) (by decide +kernel)
theorem k_75 : .code ⟨"LongNames$Part", "<init>", "()V"⟩ prog_3_method_1_code 1 none ∈ BIG := bigT (i := 75) (by decide +kernel) (by decide +kernel)
theorem k_76 : .methodLink "LongNames$Part" 3 ⟨"java/lang/Object", "<init>", "()V"⟩ ∈ BIG := bigT (i := 76) (by decide +kernel) (by decide +kernel)
theorem k_77 : .fieldLink "LongNames$Part" 11 "LongNames$Part" "bytes" "[I" ∈ BIG := bigT (i := 77) (by decide +kernel) (by decide +kernel)
theorem k_78 : .laysFinal "LongNames$Part" "LongNames$Part" "bytes" "[I" ∈ BIG := bigT (i := 78) (by decide +kernel) (by decide +kernel)
theorem k_80 : .superclass "LongNames$Part" "java/lang/Object" ∈ BIG := bigT (i := 80) (by decide +kernel) (by decide +kernel)
theorem k_81 : .classLink "LongNames" 33 "LongNames$Slots" ∈ BIG := bigT (i := 81) (by decide +kernel) (by decide +kernel)
theorem k_82 : .instantiable "LongNames$Slots" 1 ∈ BIG := bigT (i := 82) (by decide +kernel) (by decide +kernel)
theorem k_84 : .instanceMethod ⟨"LongNames$Slots", "<init>", "()V"⟩ ∈ BIG := bigT (i := 84) (by decide +kernel) (by decide +kernel)
theorem k_85 : .code ⟨"LongNames$Slots", "<init>", "()V"⟩ prog_6_method_1_code 1 none ∈ BIG := bigT (i := 85) (by decide +kernel) (by decide +kernel)
theorem k_86 : .methodLink "LongNames$Slots" 3 ⟨"java/lang/Object", "<init>", "()V"⟩ ∈ BIG := bigT (i := 86) (by decide +kernel) (by decide +kernel)
theorem k_87 : .fieldLink "LongNames$Slots" 11 "LongNames$Slots" "bytes" "[I" ∈ BIG := bigT (i := 87) (by decide +kernel) (by decide +kernel)
theorem k_88 : .laysFinal "LongNames$Slots" "LongNames$Slots" "bytes" "[I" ∈ BIG := bigT (i := 88) (by decide +kernel) (by decide +kernel)
theorem k_90 : .superclass "LongNames$Slots" "java/lang/Object" ∈ BIG := bigT (i := 90) (by decide +kernel) (by decide +kernel)
theorem k_91 : .fieldLink "LongNames" 10 "LongNames" "first" "LLongNames$Row;" ∈ BIG := bigT (i := 91) (by decide +kernel) (by decide +kernel)
theorem k_92 : .fieldLink "LongNames" 16 "LongNames" "second" "LLongNames$Row;" ∈ BIG := bigT (i := 92) (by decide +kernel) (by decide +kernel)
theorem k_93 : .fieldLink "LongNames" 22 "LongNames" "shortName" "LLongNames$ShortName;" ∈ BIG := bigT (i := 93) (by decide +kernel) (by decide +kernel)
theorem k_94 : .fieldLink "LongNames" 29 "LongNames" "part" "LLongNames$Part;" ∈ BIG := bigT (i := 94) (by decide +kernel) (by decide +kernel)
theorem k_95 : .fieldLink "LongNames" 36 "LongNames" "slots" "LLongNames$Slots;" ∈ BIG := bigT (i := 95) (by decide +kernel) (by decide +kernel)
theorem k_96 : .laysFinal "LongNames" "LongNames" "first" "LLongNames$Row;" ∈ BIG := bigT (i := 96) (by decide +kernel) (by decide +kernel)
theorem k_98 : .laysFinal "LongNames" "LongNames" "second" "LLongNames$Row;" ∈ BIG := bigT (i := 98) (by decide +kernel) (by decide +kernel)
theorem k_100 : .laysFinal "LongNames" "LongNames" "shortName" "LLongNames$ShortName;" ∈ BIG := bigT (i := 100) (by decide +kernel) (by decide +kernel)
theorem k_102 : .laysFinal "LongNames" "LongNames" "part" "LLongNames$Part;" ∈ BIG := bigT (i := 102) (by decide +kernel) (by decide +kernel)
theorem k_104 : .laysFinal "LongNames" "LongNames" "slots" "LLongNames$Slots;" ∈ BIG := bigT (i := 104) (by decide +kernel) (by decide +kernel)
theorem k_106 : .superclass "LongNames" "java/lang/Object" ∈ BIG := bigT (i := 106) (by decide +kernel) (by decide +kernel)
theorem k_107 : .methodLink "LongNamesLaw" 26 ⟨"LongNames", "unit", "(II)Z"⟩ ∈ BIG := bigT (i := 107) (by decide +kernel) (by decide +kernel)
theorem k_108 : .instanceMethod ⟨"LongNames", "unit", "(II)Z"⟩ ∈ BIG := bigT (i := 108) (by decide +kernel) (by decide +kernel)
theorem k_109 : .selects "LongNames" ⟨"LongNames", "unit", "(II)Z"⟩ ⟨"LongNames", "unit", "(II)Z"⟩ ∈ BIG := bigT (i := 109) (by decide +kernel) (by decide +kernel)
theorem k_110 : .code ⟨"LongNames", "unit", "(II)Z"⟩ prog_1_method_2_code 4 (some .boolean) ∈ BIG := bigT (i := 110) (by decide +kernel) (by decide +kernel)
theorem k_111 : .methodLink "LongNames" 40 ⟨"LongNames", "rowOf", "(I)LLongNames$Row;"⟩ ∈ BIG := bigT (i := 111) (by decide +kernel) (by decide +kernel)
theorem k_113 : .instanceMethod ⟨"LongNames", "rowOf", "(I)LLongNames$Row;"⟩ ∈ BIG := bigT (i := 113) (by decide +kernel) (by decide +kernel)
theorem k_114 : .code ⟨"LongNames", "rowOf", "(I)LLongNames$Row;"⟩ prog_1_method_13_code 2 (some (.object "LongNames$Row")) ∈ BIG := bigT (i := 114) (by decide +kernel) (by decide +kernel)
theorem k_115 : .constant "LongNames" 44 65535 ∈ BIG := bigT (i := 115) (by decide +kernel) (by decide +kernel)
theorem k_116 : .methodLink "LongNames" 45 ⟨"LongNames$Row", "append", "(I)Z"⟩ ∈ BIG := bigT (i := 116) (by decide +kernel) (by decide +kernel)
theorem k_117 : .instanceMethod ⟨"LongNames$Row", "append", "(I)Z"⟩ ∈ BIG := bigT (i := 117) (by decide +kernel) (by decide +kernel)
theorem k_118 : .selects "LongNames$Row" ⟨"LongNames$Row", "append", "(I)Z"⟩ ⟨"LongNames$Row", "append", "(I)Z"⟩ ∈ BIG := bigT (i := 118) (by decide +kernel) (by decide +kernel)
theorem k_119 : .code ⟨"LongNames$Row", "append", "(I)Z"⟩ prog_4_method_4_code 2 (some .boolean) ∈ BIG := bigT (i := 119) (by decide +kernel) (by decide +kernel)
theorem k_120 : .methodLink "LongNamesLaw" 31 ⟨"LongNames", "clear", "(I)I"⟩ ∈ BIG := bigT (i := 120) (by decide +kernel) (by decide +kernel)
theorem k_121 : .instanceMethod ⟨"LongNames", "clear", "(I)I"⟩ ∈ BIG := bigT (i := 121) (by decide +kernel) (by decide +kernel)
theorem k_122 : .selects "LongNames" ⟨"LongNames", "clear", "(I)I"⟩ ⟨"LongNames", "clear", "(I)I"⟩ ∈ BIG := bigT (i := 122) (by decide +kernel) (by decide +kernel)
theorem k_123 : .code ⟨"LongNames", "clear", "(I)I"⟩ prog_1_method_3_code 4 (some .int) ∈ BIG := bigT (i := 123) (by decide +kernel) (by decide +kernel)
theorem k_124 : .methodLink "LongNames" 49 ⟨"LongNames$Row", "size", "()I"⟩ ∈ BIG := bigT (i := 124) (by decide +kernel) (by decide +kernel)
theorem k_125 : .instanceMethod ⟨"LongNames$Row", "size", "()I"⟩ ∈ BIG := bigT (i := 125) (by decide +kernel) (by decide +kernel)
theorem k_126 : .selects "LongNames$Row" ⟨"LongNames$Row", "size", "()I"⟩ ⟨"LongNames$Row", "size", "()I"⟩ ∈ BIG := bigT (i := 126) (by decide +kernel) (by decide +kernel)
theorem k_127 : .code ⟨"LongNames$Row", "size", "()I"⟩ prog_4_method_2_code 1 (some .int) ∈ BIG := bigT (i := 127) (by decide +kernel) (by decide +kernel)
theorem k_128 : .methodLink "LongNames" 53 ⟨"LongNames$Row", "makeEmpty", "()V"⟩ ∈ BIG := bigT (i := 128) (by decide +kernel) (by decide +kernel)
theorem k_129 : .instanceMethod ⟨"LongNames$Row", "makeEmpty", "()V"⟩ ∈ BIG := bigT (i := 129) (by decide +kernel) (by decide +kernel)
theorem k_130 : .selects "LongNames$Row" ⟨"LongNames$Row", "makeEmpty", "()V"⟩ ⟨"LongNames$Row", "makeEmpty", "()V"⟩ ∈ BIG := bigT (i := 130) (by decide +kernel) (by decide +kernel)
theorem k_131 : .code ⟨"LongNames$Row", "makeEmpty", "()V"⟩ prog_4_method_3_code 1 none ∈ BIG := bigT (i := 131) (by decide +kernel) (by decide +kernel)
theorem k_132 : .methodLink "LongNamesLaw" 36 ⟨"LongNames", "about", "(II)I"⟩ ∈ BIG := bigT (i := 132) (by decide +kernel) (by decide +kernel)
theorem k_133 : .instanceMethod ⟨"LongNames", "about", "(II)I"⟩ ∈ BIG := bigT (i := 133) (by decide +kernel) (by decide +kernel)
theorem k_134 : .selects "LongNames" ⟨"LongNames", "about", "(II)I"⟩ ⟨"LongNames", "about", "(II)I"⟩ ∈ BIG := bigT (i := 134) (by decide +kernel) (by decide +kernel)
theorem k_135 : .code ⟨"LongNames", "about", "(II)I"⟩ prog_1_method_4_code 4 (some .int) ∈ BIG := bigT (i := 135) (by decide +kernel) (by decide +kernel)
theorem k_136 : .methodLink "LongNames" 56 ⟨"LongNames$Row", "isName", "()Z"⟩ ∈ BIG := bigT (i := 136) (by decide +kernel) (by decide +kernel)
theorem k_137 : .instanceMethod ⟨"LongNames$Row", "isName", "()Z"⟩ ∈ BIG := bigT (i := 137) (by decide +kernel) (by decide +kernel)
theorem k_138 : .selects "LongNames$Row" ⟨"LongNames$Row", "isName", "()Z"⟩ ⟨"LongNames$Row", "isName", "()Z"⟩ ∈ BIG := bigT (i := 138) (by decide +kernel) (by decide +kernel)
theorem k_139 : .code ⟨"LongNames$Row", "isName", "()Z"⟩ prog_4_method_6_code 2 (some .boolean) ∈ BIG := bigT (i := 139) (by decide +kernel) (by decide +kernel)
theorem k_140 : .methodLink "LongNames$Row" 19 ⟨"LongNames$Row", "get", "(I)I"⟩ ∈ BIG := bigT (i := 140) (by decide +kernel) (by decide +kernel)
theorem k_141 : .instanceMethod ⟨"LongNames$Row", "get", "(I)I"⟩ ∈ BIG := bigT (i := 141) (by decide +kernel) (by decide +kernel)
theorem k_142 : .selects "LongNames$Row" ⟨"LongNames$Row", "get", "(I)I"⟩ ⟨"LongNames$Row", "get", "(I)I"⟩ ∈ BIG := bigT (i := 142) (by decide +kernel) (by decide +kernel)
theorem k_143 : .code ⟨"LongNames$Row", "get", "(I)I"⟩ prog_4_method_5_code 2 (some .int) ∈ BIG := bigT (i := 143) (by decide +kernel) (by decide +kernel)
theorem k_144 : .methodLink "LongNames$Row" 23 ⟨"LongNames$Units", "mayStandInName", "(I)Z"⟩ ∈ BIG := bigT (i := 144) (by decide +kernel) (by decide +kernel)
theorem k_145 : .static ⟨"LongNames$Units", "mayStandInName", "(I)Z"⟩ ∈ BIG := bigT (i := 145) (by decide +kernel) (by decide +kernel)
theorem k_146 : .code ⟨"LongNames$Units", "mayStandInName", "(I)Z"⟩ prog_7_method_2_code 1 (some .boolean) ∈ BIG := bigT (i := 146) (by decide +kernel) (by decide +kernel)
theorem k_147 : .constant "LongNames$Units" 7 65533 ∈ BIG := bigT (i := 147) (by decide +kernel) (by decide +kernel)
theorem k_148 : .constant "LongNames$Units" 8 55296 ∈ BIG := bigT (i := 148) (by decide +kernel) (by decide +kernel)
theorem k_149 : .constant "LongNames$Units" 9 57343 ∈ BIG := bigT (i := 149) (by decide +kernel) (by decide +kernel)
theorem k_150 : .methodLink "LongNames" 60 ⟨"LongNames$Row", "isShortAsShown", "()Z"⟩ ∈ BIG := bigT (i := 150) (by decide +kernel) (by decide +kernel)
theorem k_151 : .instanceMethod ⟨"LongNames$Row", "isShortAsShown", "()Z"⟩ ∈ BIG := bigT (i := 151) (by decide +kernel) (by decide +kernel)
theorem k_152 : .selects "LongNames$Row" ⟨"LongNames$Row", "isShortAsShown", "()Z"⟩ ⟨"LongNames$Row", "isShortAsShown", "()Z"⟩ ∈ BIG := bigT (i := 152) (by decide +kernel) (by decide +kernel)
theorem k_153 : .code ⟨"LongNames$Row", "isShortAsShown", "()Z"⟩ prog_4_method_7_code 5 (some .boolean) ∈ BIG := bigT (i := 153) (by decide +kernel) (by decide +kernel)
theorem k_154 : .methodLink "LongNames$Row" 29 ⟨"LongNames$Row", "lastPoint", "()I"⟩ ∈ BIG := bigT (i := 154) (by decide +kernel) (by decide +kernel)
theorem k_155 : .instanceMethod ⟨"LongNames$Row", "lastPoint", "()I"⟩ ∈ BIG := bigT (i := 155) (by decide +kernel) (by decide +kernel)
theorem k_156 : .selects "LongNames$Row" ⟨"LongNames$Row", "lastPoint", "()I"⟩ ⟨"LongNames$Row", "lastPoint", "()I"⟩ ∈ BIG := bigT (i := 156) (by decide +kernel) (by decide +kernel)
theorem k_157 : .code ⟨"LongNames$Row", "lastPoint", "()I"⟩ prog_4_method_8_code 2 (some .int) ∈ BIG := bigT (i := 157) (by decide +kernel) (by decide +kernel)
theorem k_158 : .methodLink "LongNames$Row" 35 ⟨"LongNames$Units", "mayStandInShortName", "(I)Z"⟩ ∈ BIG := bigT (i := 158) (by decide +kernel) (by decide +kernel)
theorem k_159 : .static ⟨"LongNames$Units", "mayStandInShortName", "(I)Z"⟩ ∈ BIG := bigT (i := 159) (by decide +kernel) (by decide +kernel)
theorem k_160 : .code ⟨"LongNames$Units", "mayStandInShortName", "(I)Z"⟩ prog_7_method_3_code 1 (some .boolean) ∈ BIG := bigT (i := 160) (by decide +kernel) (by decide +kernel)
theorem k_161 : .methodLink "LongNames" 63 ⟨"LongNames$Row", "partsNeeded", "()I"⟩ ∈ BIG := bigT (i := 161) (by decide +kernel) (by decide +kernel)
theorem k_162 : .instanceMethod ⟨"LongNames$Row", "partsNeeded", "()I"⟩ ∈ BIG := bigT (i := 162) (by decide +kernel) (by decide +kernel)
theorem k_163 : .selects "LongNames$Row" ⟨"LongNames$Row", "partsNeeded", "()I"⟩ ⟨"LongNames$Row", "partsNeeded", "()I"⟩ ∈ BIG := bigT (i := 163) (by decide +kernel) (by decide +kernel)
theorem k_164 : .code ⟨"LongNames$Row", "partsNeeded", "()I"⟩ prog_4_method_9_code 1 (some .int) ∈ BIG := bigT (i := 164) (by decide +kernel) (by decide +kernel)
theorem k_165 : .methodLink "LongNames" 66 ⟨"LongNames$Row", "encodedSize", "()I"⟩ ∈ BIG := bigT (i := 165) (by decide +kernel) (by decide +kernel)
theorem k_166 : .instanceMethod ⟨"LongNames$Row", "encodedSize", "()I"⟩ ∈ BIG := bigT (i := 166) (by decide +kernel) (by decide +kernel)
theorem k_167 : .selects "LongNames$Row" ⟨"LongNames$Row", "encodedSize", "()I"⟩ ⟨"LongNames$Row", "encodedSize", "()I"⟩ ∈ BIG := bigT (i := 167) (by decide +kernel) (by decide +kernel)
theorem k_168 : .code ⟨"LongNames$Row", "encodedSize", "()I"⟩ prog_4_method_10_code 3 (some .int) ∈ BIG := bigT (i := 168) (by decide +kernel) (by decide +kernel)
theorem k_169 : .methodLink "LongNames$Row" 40 ⟨"LongNames$Units", "encodedWidth", "(I)I"⟩ ∈ BIG := bigT (i := 169) (by decide +kernel) (by decide +kernel)
theorem k_170 : .static ⟨"LongNames$Units", "encodedWidth", "(I)I"⟩ ∈ BIG := bigT (i := 170) (by decide +kernel) (by decide +kernel)
theorem k_171 : .code ⟨"LongNames$Units", "encodedWidth", "(I)I"⟩ prog_7_method_6_code 1 (some .int) ∈ BIG := bigT (i := 171) (by decide +kernel) (by decide +kernel)
theorem k_172 : .methodLink "LongNamesLaw" 41 ⟨"LongNames", "letter", "(II)I"⟩ ∈ BIG := bigT (i := 172) (by decide +kernel) (by decide +kernel)
theorem k_173 : .instanceMethod ⟨"LongNames", "letter", "(II)I"⟩ ∈ BIG := bigT (i := 173) (by decide +kernel) (by decide +kernel)
theorem k_174 : .selects "LongNames" ⟨"LongNames", "letter", "(II)I"⟩ ⟨"LongNames", "letter", "(II)I"⟩ ∈ BIG := bigT (i := 174) (by decide +kernel) (by decide +kernel)
theorem k_175 : .code ⟨"LongNames", "letter", "(II)I"⟩ prog_1_method_5_code 4 (some .int) ∈ BIG := bigT (i := 175) (by decide +kernel) (by decide +kernel)
theorem k_176 : .methodLink "LongNames" 69 ⟨"LongNames$Row", "encodedByte", "(I)I"⟩ ∈ BIG := bigT (i := 176) (by decide +kernel) (by decide +kernel)
theorem k_177 : .instanceMethod ⟨"LongNames$Row", "encodedByte", "(I)I"⟩ ∈ BIG := bigT (i := 177) (by decide +kernel) (by decide +kernel)
theorem k_178 : .selects "LongNames$Row" ⟨"LongNames$Row", "encodedByte", "(I)I"⟩ ⟨"LongNames$Row", "encodedByte", "(I)I"⟩ ∈ BIG := bigT (i := 178) (by decide +kernel) (by decide +kernel)
theorem k_179 : .code ⟨"LongNames$Row", "encodedByte", "(I)I"⟩ prog_4_method_11_code 5 (some .int) ∈ BIG := bigT (i := 179) (by decide +kernel) (by decide +kernel)
theorem k_180 : .methodLink "LongNames$Row" 43 ⟨"LongNames$Units", "encodedByte", "(II)I"⟩ ∈ BIG := bigT (i := 180) (by decide +kernel) (by decide +kernel)
theorem k_181 : .static ⟨"LongNames$Units", "encodedByte", "(II)I"⟩ ∈ BIG := bigT (i := 181) (by decide +kernel) (by decide +kernel)
theorem k_182 : .code ⟨"LongNames$Units", "encodedByte", "(II)I"⟩ prog_7_method_7_code 4 (some .int) ∈ BIG := bigT (i := 182) (by decide +kernel) (by decide +kernel)
theorem k_183 : .methodLink "LongNames$Units" 20 ⟨"LongNames$Units", "encodedWidth", "(I)I"⟩ ∈ BIG := bigT (i := 183) (by decide +kernel) (by decide +kernel)
theorem k_184 : .methodLink "LongNamesLaw" 45 ⟨"LongNames", "alike", "()Z"⟩ ∈ BIG := bigT (i := 184) (by decide +kernel) (by decide +kernel)
theorem k_185 : .instanceMethod ⟨"LongNames", "alike", "()Z"⟩ ∈ BIG := bigT (i := 185) (by decide +kernel) (by decide +kernel)
theorem k_186 : .selects "LongNames" ⟨"LongNames", "alike", "()Z"⟩ ⟨"LongNames", "alike", "()Z"⟩ ∈ BIG := bigT (i := 186) (by decide +kernel) (by decide +kernel)
theorem k_187 : .code ⟨"LongNames", "alike", "()Z"⟩ prog_1_method_6_code 1 (some .boolean) ∈ BIG := bigT (i := 187) (by decide +kernel) (by decide +kernel)
theorem k_188 : .methodLink "LongNames" 73 ⟨"LongNames$Row", "isLike", "(LLongNames$Row;)Z"⟩ ∈ BIG := bigT (i := 188) (by decide +kernel) (by decide +kernel)
theorem k_189 : .instanceMethod ⟨"LongNames$Row", "isLike", "(LLongNames$Row;)Z"⟩ ∈ BIG := bigT (i := 189) (by decide +kernel) (by decide +kernel)
theorem k_190 : .selects "LongNames$Row" ⟨"LongNames$Row", "isLike", "(LLongNames$Row;)Z"⟩ ⟨"LongNames$Row", "isLike", "(LLongNames$Row;)Z"⟩ ∈ BIG := bigT (i := 190) (by decide +kernel) (by decide +kernel)
theorem k_191 : .code ⟨"LongNames$Row", "isLike", "(LLongNames$Row;)Z"⟩ prog_4_method_12_code 3 (some .boolean) ∈ BIG := bigT (i := 191) (by decide +kernel) (by decide +kernel)
theorem k_192 : .methodLink "LongNames$Row" 47 ⟨"LongNames$Units", "capital", "(I)I"⟩ ∈ BIG := bigT (i := 192) (by decide +kernel) (by decide +kernel)
theorem k_193 : .static ⟨"LongNames$Units", "capital", "(I)I"⟩ ∈ BIG := bigT (i := 193) (by decide +kernel) (by decide +kernel)
theorem k_194 : .code ⟨"LongNames$Units", "capital", "(I)I"⟩ prog_7_method_4_code 1 (some .int) ∈ BIG := bigT (i := 194) (by decide +kernel) (by decide +kernel)
theorem k_195 : .methodLink "LongNamesLaw" 63 ⟨"LongNames", "poke", "(III)Z"⟩ ∈ BIG := bigT (i := 195) (by decide +kernel) (by decide +kernel)
theorem k_196 : .instanceMethod ⟨"LongNames", "poke", "(III)Z"⟩ ∈ BIG := bigT (i := 196) (by decide +kernel) (by decide +kernel)
theorem k_197 : .selects "LongNames" ⟨"LongNames", "poke", "(III)Z"⟩ ⟨"LongNames", "poke", "(III)Z"⟩ ∈ BIG := bigT (i := 197) (by decide +kernel) (by decide +kernel)
theorem k_198 : .code ⟨"LongNames", "poke", "(III)Z"⟩ prog_1_method_9_code 4 (some .boolean) ∈ BIG := bigT (i := 198) (by decide +kernel) (by decide +kernel)
theorem k_199 : .methodLink "LongNames" 135 ⟨"LongNames$Slots", "put", "(III)Z"⟩ ∈ BIG := bigT (i := 199) (by decide +kernel) (by decide +kernel)
theorem k_200 : .instanceMethod ⟨"LongNames$Slots", "put", "(III)Z"⟩ ∈ BIG := bigT (i := 200) (by decide +kernel) (by decide +kernel)
theorem k_201 : .selects "LongNames$Slots" ⟨"LongNames$Slots", "put", "(III)Z"⟩ ⟨"LongNames$Slots", "put", "(III)Z"⟩ ∈ BIG := bigT (i := 201) (by decide +kernel) (by decide +kernel)
theorem k_202 : .code ⟨"LongNames$Slots", "put", "(III)Z"⟩ prog_6_method_3_code 4 (some .boolean) ∈ BIG := bigT (i := 202) (by decide +kernel) (by decide +kernel)
theorem k_203 : .methodLink "LongNames$Slots" 15 ⟨"LongNames$Slots", "hasByte", "(II)Z"⟩ ∈ BIG := bigT (i := 203) (by decide +kernel) (by decide +kernel)
theorem k_204 : .static ⟨"LongNames$Slots", "hasByte", "(II)Z"⟩ ∈ BIG := bigT (i := 204) (by decide +kernel) (by decide +kernel)
theorem k_205 : .code ⟨"LongNames$Slots", "hasByte", "(II)Z"⟩ prog_6_method_6_code 2 (some .boolean) ∈ BIG := bigT (i := 205) (by decide +kernel) (by decide +kernel)
theorem k_206 : .methodLink "LongNames$Slots" 25 ⟨"LongNames$Slots", "isSlot", "(I)Z"⟩ ∈ BIG := bigT (i := 206) (by decide +kernel) (by decide +kernel)
theorem k_207 : .static ⟨"LongNames$Slots", "isSlot", "(I)Z"⟩ ∈ BIG := bigT (i := 207) (by decide +kernel) (by decide +kernel)
theorem k_208 : .code ⟨"LongNames$Slots", "isSlot", "(I)Z"⟩ prog_6_method_2_code 1 (some .boolean) ∈ BIG := bigT (i := 208) (by decide +kernel) (by decide +kernel)
theorem k_209 : .methodLink "LongNamesLaw" 68 ⟨"LongNames", "byteAt", "(II)I"⟩ ∈ BIG := bigT (i := 209) (by decide +kernel) (by decide +kernel)
theorem k_210 : .instanceMethod ⟨"LongNames", "byteAt", "(II)I"⟩ ∈ BIG := bigT (i := 210) (by decide +kernel) (by decide +kernel)
theorem k_211 : .selects "LongNames" ⟨"LongNames", "byteAt", "(II)I"⟩ ⟨"LongNames", "byteAt", "(II)I"⟩ ∈ BIG := bigT (i := 211) (by decide +kernel) (by decide +kernel)
theorem k_212 : .code ⟨"LongNames", "byteAt", "(II)I"⟩ prog_1_method_10_code 3 (some .int) ∈ BIG := bigT (i := 212) (by decide +kernel) (by decide +kernel)
theorem k_213 : .methodLink "LongNames" 139 ⟨"LongNames$Slots", "get", "(II)I"⟩ ∈ BIG := bigT (i := 213) (by decide +kernel) (by decide +kernel)
theorem k_214 : .instanceMethod ⟨"LongNames$Slots", "get", "(II)I"⟩ ∈ BIG := bigT (i := 214) (by decide +kernel) (by decide +kernel)
theorem k_215 : .selects "LongNames$Slots" ⟨"LongNames$Slots", "get", "(II)I"⟩ ⟨"LongNames$Slots", "get", "(II)I"⟩ ∈ BIG := bigT (i := 215) (by decide +kernel) (by decide +kernel)
theorem k_216 : .code ⟨"LongNames$Slots", "get", "(II)I"⟩ prog_6_method_4_code 3 (some .int) ∈ BIG := bigT (i := 216) (by decide +kernel) (by decide +kernel)
theorem k_217 : .methodLink "LongNamesLaw" 72 ⟨"LongNames", "sum", "(I)I"⟩ ∈ BIG := bigT (i := 217) (by decide +kernel) (by decide +kernel)
theorem k_218 : .instanceMethod ⟨"LongNames", "sum", "(I)I"⟩ ∈ BIG := bigT (i := 218) (by decide +kernel) (by decide +kernel)
theorem k_219 : .selects "LongNames" ⟨"LongNames", "sum", "(I)I"⟩ ⟨"LongNames", "sum", "(I)I"⟩ ∈ BIG := bigT (i := 219) (by decide +kernel) (by decide +kernel)
theorem k_220 : .code ⟨"LongNames", "sum", "(I)I"⟩ prog_1_method_11_code 2 (some .int) ∈ BIG := bigT (i := 220) (by decide +kernel) (by decide +kernel)
theorem k_221 : .methodLink "LongNames" 88 ⟨"LongNames$Slots", "isSlot", "(I)Z"⟩ ∈ BIG := bigT (i := 221) (by decide +kernel) (by decide +kernel)
theorem k_222 : .methodLink "LongNames" 143 ⟨"LongNames$Slots", "entrySum", "(I)I"⟩ ∈ BIG := bigT (i := 222) (by decide +kernel) (by decide +kernel)
theorem k_223 : .instanceMethod ⟨"LongNames$Slots", "entrySum", "(I)I"⟩ ∈ BIG := bigT (i := 223) (by decide +kernel) (by decide +kernel)
theorem k_224 : .selects "LongNames$Slots" ⟨"LongNames$Slots", "entrySum", "(I)I"⟩ ⟨"LongNames$Slots", "entrySum", "(I)I"⟩ ∈ BIG := bigT (i := 224) (by decide +kernel) (by decide +kernel)
theorem k_225 : .code ⟨"LongNames$Slots", "entrySum", "(I)I"⟩ prog_6_method_5_code 5 (some .int) ∈ BIG := bigT (i := 225) (by decide +kernel) (by decide +kernel)
theorem k_226 : .methodLink "LongNames$Slots" 21 ⟨"LongNames$Slots", "get", "(II)I"⟩ ∈ BIG := bigT (i := 226) (by decide +kernel) (by decide +kernel)
theorem k_227 : .methodLink "LongNamesLaw" 76 ⟨"LongNames", "seconds", "(II)J"⟩ ∈ BIG := bigT (i := 227) (by decide +kernel) (by decide +kernel)
theorem k_228 : .instanceMethod ⟨"LongNames", "seconds", "(II)J"⟩ ∈ BIG := bigT (i := 228) (by decide +kernel) (by decide +kernel)
theorem k_229 : .selects "LongNames" ⟨"LongNames", "seconds", "(II)J"⟩ ⟨"LongNames", "seconds", "(II)J"⟩ ∈ BIG := bigT (i := 229) (by decide +kernel) (by decide +kernel)
theorem k_230 : .code ⟨"LongNames", "seconds", "(II)J"⟩ prog_1_method_12_code 3 (some .long) ∈ BIG := bigT (i := 230) (by decide +kernel) (by decide +kernel)
theorem k_231 : .methodLink "LongNames" 146 ⟨"LongNames$Days", "isDay", "(I)Z"⟩ ∈ BIG := bigT (i := 231) (by decide +kernel) (by decide +kernel)
theorem k_232 : .static ⟨"LongNames$Days", "isDay", "(I)Z"⟩ ∈ BIG := bigT (i := 232) (by decide +kernel) (by decide +kernel)
theorem k_233 : .code ⟨"LongNames$Days", "isDay", "(I)Z"⟩ prog_2_method_2_code 2 (some .boolean) ∈ BIG := bigT (i := 233) (by decide +kernel) (by decide +kernel)
theorem k_234 : .constant "LongNames$Days" 9 65535 ∈ BIG := bigT (i := 234) (by decide +kernel) (by decide +kernel)
theorem k_235 : .methodLink "LongNames$Days" 10 ⟨"LongNames$Days", "dayOf", "(I)I"⟩ ∈ BIG := bigT (i := 235) (by decide +kernel) (by decide +kernel)
theorem k_236 : .static ⟨"LongNames$Days", "dayOf", "(I)I"⟩ ∈ BIG := bigT (i := 236) (by decide +kernel) (by decide +kernel)
theorem k_237 : .code ⟨"LongNames$Days", "dayOf", "(I)I"⟩ prog_2_method_10_code 1 (some .int) ∈ BIG := bigT (i := 237) (by decide +kernel) (by decide +kernel)
theorem k_238 : .methodLink "LongNames$Days" 16 ⟨"LongNames$Days", "yearOf", "(I)I"⟩ ∈ BIG := bigT (i := 238) (by decide +kernel) (by decide +kernel)
theorem k_239 : .static ⟨"LongNames$Days", "yearOf", "(I)I"⟩ ∈ BIG := bigT (i := 239) (by decide +kernel) (by decide +kernel)
theorem k_240 : .code ⟨"LongNames$Days", "yearOf", "(I)I"⟩ prog_2_method_8_code 1 (some .int) ∈ BIG := bigT (i := 240) (by decide +kernel) (by decide +kernel)
theorem k_241 : .methodLink "LongNames$Days" 19 ⟨"LongNames$Days", "monthOf", "(I)I"⟩ ∈ BIG := bigT (i := 241) (by decide +kernel) (by decide +kernel)
theorem k_242 : .static ⟨"LongNames$Days", "monthOf", "(I)I"⟩ ∈ BIG := bigT (i := 242) (by decide +kernel) (by decide +kernel)
theorem k_243 : .code ⟨"LongNames$Days", "monthOf", "(I)I"⟩ prog_2_method_9_code 1 (some .int) ∈ BIG := bigT (i := 243) (by decide +kernel) (by decide +kernel)
theorem k_244 : .methodLink "LongNames$Days" 22 ⟨"LongNames$Days", "monthLength", "(II)I"⟩ ∈ BIG := bigT (i := 244) (by decide +kernel) (by decide +kernel)
theorem k_245 : .static ⟨"LongNames$Days", "monthLength", "(II)I"⟩ ∈ BIG := bigT (i := 245) (by decide +kernel) (by decide +kernel)
theorem k_246 : .code ⟨"LongNames$Days", "monthLength", "(II)I"⟩ prog_2_method_6_code 2 (some .int) ∈ BIG := bigT (i := 246) (by decide +kernel) (by decide +kernel)
theorem k_247 : .methodLink "LongNames$Days" 35 ⟨"LongNames$Days", "isLeap", "(I)Z"⟩ ∈ BIG := bigT (i := 247) (by decide +kernel) (by decide +kernel)
theorem k_248 : .static ⟨"LongNames$Days", "isLeap", "(I)Z"⟩ ∈ BIG := bigT (i := 248) (by decide +kernel) (by decide +kernel)
theorem k_249 : .code ⟨"LongNames$Days", "isLeap", "(I)Z"⟩ prog_2_method_7_code 1 (some .boolean) ∈ BIG := bigT (i := 249) (by decide +kernel) (by decide +kernel)
theorem k_250 : .fieldLink "LongNames$Days" 51 "LongNames$Days" "MONTHS" "[I" ∈ BIG := bigT (i := 250) (by decide +kernel) (by decide +kernel)
theorem k_252 : .methodLink "LongNames" 151 ⟨"LongNames$Days", "isTime", "(I)Z"⟩ ∈ BIG := bigT (i := 252) (by decide +kernel) (by decide +kernel)
theorem k_253 : .static ⟨"LongNames$Days", "isTime", "(I)Z"⟩ ∈ BIG := bigT (i := 253) (by decide +kernel) (by decide +kernel)
theorem k_254 : .code ⟨"LongNames$Days", "isTime", "(I)Z"⟩ prog_2_method_3_code 1 (some .boolean) ∈ BIG := bigT (i := 254) (by decide +kernel) (by decide +kernel)
theorem k_255 : .methodLink "LongNames$Days" 26 ⟨"LongNames$Days", "hourOf", "(I)I"⟩ ∈ BIG := bigT (i := 255) (by decide +kernel) (by decide +kernel)
theorem k_256 : .static ⟨"LongNames$Days", "hourOf", "(I)I"⟩ ∈ BIG := bigT (i := 256) (by decide +kernel) (by decide +kernel)
theorem k_257 : .code ⟨"LongNames$Days", "hourOf", "(I)I"⟩ prog_2_method_11_code 1 (some .int) ∈ BIG := bigT (i := 257) (by decide +kernel) (by decide +kernel)
theorem k_258 : .methodLink "LongNames$Days" 29 ⟨"LongNames$Days", "minuteOf", "(I)I"⟩ ∈ BIG := bigT (i := 258) (by decide +kernel) (by decide +kernel)
theorem k_259 : .static ⟨"LongNames$Days", "minuteOf", "(I)I"⟩ ∈ BIG := bigT (i := 259) (by decide +kernel) (by decide +kernel)
theorem k_260 : .code ⟨"LongNames$Days", "minuteOf", "(I)I"⟩ prog_2_method_12_code 1 (some .int) ∈ BIG := bigT (i := 260) (by decide +kernel) (by decide +kernel)
theorem k_261 : .methodLink "LongNames$Days" 32 ⟨"LongNames$Days", "halfOf", "(I)I"⟩ ∈ BIG := bigT (i := 261) (by decide +kernel) (by decide +kernel)
theorem k_262 : .static ⟨"LongNames$Days", "halfOf", "(I)I"⟩ ∈ BIG := bigT (i := 262) (by decide +kernel) (by decide +kernel)
theorem k_263 : .code ⟨"LongNames$Days", "halfOf", "(I)I"⟩ prog_2_method_13_code 1 (some .int) ∈ BIG := bigT (i := 263) (by decide +kernel) (by decide +kernel)
theorem k_264 : .constantLong "LongNames" 154 (-1) ∈ BIG := bigT (i := 264) (by decide +kernel) (by decide +kernel)
theorem k_265 : .methodLink "LongNames" 156 ⟨"LongNames$Days", "secondsBeforeDay", "(I)J"⟩ ∈ BIG := bigT (i := 265) (by decide +kernel) (by decide +kernel)
theorem k_266 : .static ⟨"LongNames$Days", "secondsBeforeDay", "(I)J"⟩ ∈ BIG := bigT (i := 266) (by decide +kernel) (by decide +kernel)
theorem k_267 : .code ⟨"LongNames$Days", "secondsBeforeDay", "(I)J"⟩ prog_2_method_4_code 6 (some .long) ∈ BIG := bigT (i := 267) (by decide +kernel) (by decide +kernel)
theorem k_268 : .constantLong "LongNames$Days" 39 366 ∈ BIG := bigT (i := 268) (by decide +kernel) (by decide +kernel)
theorem k_269 : .constantLong "LongNames$Days" 41 365 ∈ BIG := bigT (i := 269) (by decide +kernel) (by decide +kernel)
theorem k_270 : .constantLong "LongNames$Days" 43 86400 ∈ BIG := bigT (i := 270) (by decide +kernel) (by decide +kernel)
theorem k_271 : .methodLink "LongNames" 160 ⟨"LongNames$Days", "secondsOfTime", "(I)J"⟩ ∈ BIG := bigT (i := 271) (by decide +kernel) (by decide +kernel)
theorem k_272 : .static ⟨"LongNames$Days", "secondsOfTime", "(I)J"⟩ ∈ BIG := bigT (i := 272) (by decide +kernel) (by decide +kernel)
theorem k_273 : .code ⟨"LongNames$Days", "secondsOfTime", "(I)J"⟩ prog_2_method_5_code 1 (some .long) ∈ BIG := bigT (i := 273) (by decide +kernel) (by decide +kernel)
theorem k_274 : .constantLong "LongNames$Days" 45 3600 ∈ BIG := bigT (i := 274) (by decide +kernel) (by decide +kernel)
theorem k_275 : .constantLong "LongNames$Days" 47 60 ∈ BIG := bigT (i := 275) (by decide +kernel) (by decide +kernel)
theorem k_276 : .constantLong "LongNames$Days" 49 2 ∈ BIG := bigT (i := 276) (by decide +kernel) (by decide +kernel)
theorem k_277 : .methodLink "LongNamesLaw" 50 ⟨"LongNamesLaw", "write", "(LLongNames;III[J)I"⟩ ∈ BIG := bigT (i := 277) (by decide +kernel) (by decide +kernel)
theorem k_278 : .static ⟨"LongNamesLaw", "write", "(LLongNames;III[J)I"⟩ ∈ BIG := bigT (i := 278) (by decide +kernel) (by decide +kernel)
theorem k_280 : .classLink "LongNamesLaw" 13 "java/lang/IllegalArgumentException" ∈ BIG := bigT (i := 280) (by decide +kernel) (by decide +kernel)
theorem k_281 : .classLink "LongNamesLaw" 15 "java/lang/IndexOutOfBoundsException" ∈ BIG := bigT (i := 281) (by decide +kernel) (by decide +kernel)
theorem k_282 : .methodLink "LongNamesLaw" 7 ⟨"LongNames", "write", "(III)I"⟩ ∈ BIG := bigT (i := 282) (by decide +kernel) (by decide +kernel)
theorem k_283 : .instanceMethod ⟨"LongNames", "write", "(III)I"⟩ ∈ BIG := bigT (i := 283) (by decide +kernel) (by decide +kernel)
theorem k_284 : .selects "LongNames" ⟨"LongNames", "write", "(III)I"⟩ ⟨"LongNames", "write", "(III)I"⟩ ∈ BIG := bigT (i := 284) (by decide +kernel) (by decide +kernel)
theorem k_285 : .code ⟨"LongNames", "write", "(III)I"⟩ prog_1_method_7_code 6 (some .int) ∈ BIG := bigT (i := 285) (by decide +kernel) (by decide +kernel)
theorem k_286 : .classLink "LongNames" 77 "java/lang/IllegalArgumentException" ∈ BIG := bigT (i := 286) (by decide +kernel) (by decide +kernel)
theorem k_287 : .instantiable "java/lang/IllegalArgumentException" 6 ∈ BIG := bigT (i := 287) (by decide +kernel) (by decide +kernel)
theorem k_295 : .selects "java/lang/IllegalArgumentException" ⟨"java/lang/Throwable", "fillInStackTrace", "(I)Ljava/lang/Throwable;"⟩ ⟨"java/lang/Throwable", "fillInStackTrace", "(I)Ljava/lang/Throwable;"⟩ ∈ BIG := bigT (i := 295) (by decide +kernel) (by decide +kernel)
theorem k_296 : .selects "java/lang/IllegalArgumentException" ⟨"java/lang/Throwable", "fillInStackTrace", "()Ljava/lang/Throwable;"⟩ ⟨"java/lang/Throwable", "fillInStackTrace", "()Ljava/lang/Throwable;"⟩ ∈ BIG := bigT (i := 296) (by decide +kernel) (by decide +kernel)
theorem k_297 : .lays "java/lang/IllegalArgumentException" "java/lang/Throwable" "cause" "Ljava/lang/Throwable;" ∈ BIG := bigT (i := 297) (by decide +kernel) (by decide +kernel)
theorem k_298 : .lays "java/lang/Throwable" "java/lang/Throwable" "cause" "Ljava/lang/Throwable;" ∈ BIG := bigT (i := 298) (by decide +kernel) (by decide +kernel)
theorem k_299 : .lays "java/lang/IllegalArgumentException" "java/lang/Throwable" "stackTrace" "[Ljava/lang/StackTraceElement;" ∈ BIG := bigT (i := 299) (by decide +kernel) (by decide +kernel)
theorem k_300 : .lays "java/lang/Throwable" "java/lang/Throwable" "stackTrace" "[Ljava/lang/StackTraceElement;" ∈ BIG := bigT (i := 300) (by decide +kernel) (by decide +kernel)
theorem k_301 : .lays "java/lang/IllegalArgumentException" "java/lang/Throwable" "suppressedExceptions" "Ljava/util/List;" ∈ BIG := bigT (i := 301) (by decide +kernel) (by decide +kernel)
theorem k_302 : .lays "java/lang/Throwable" "java/lang/Throwable" "suppressedExceptions" "Ljava/util/List;" ∈ BIG := bigT (i := 302) (by decide +kernel) (by decide +kernel)
theorem k_303 : .lays "java/lang/IllegalArgumentException" "java/lang/Throwable" "detailMessage" "Ljava/lang/String;" ∈ BIG := bigT (i := 303) (by decide +kernel) (by decide +kernel)
theorem k_304 : .lays "java/lang/Throwable" "java/lang/Throwable" "detailMessage" "Ljava/lang/String;" ∈ BIG := bigT (i := 304) (by decide +kernel) (by decide +kernel)
theorem k_305 : .lays "java/lang/IllegalArgumentException" "java/lang/Throwable" "backtrace" "Ljava/lang/Object;" ∈ BIG := bigT (i := 305) (by decide +kernel) (by decide +kernel)
theorem k_306 : .lays "java/lang/Throwable" "java/lang/Throwable" "backtrace" "Ljava/lang/Object;" ∈ BIG := bigT (i := 306) (by decide +kernel) (by decide +kernel)
theorem k_307 : .fieldLink "java/lang/Throwable" 198 "java/lang/Throwable" "backtrace" "Ljava/lang/Object;" ∈ BIG := bigT (i := 307) (by decide +kernel) (by decide +kernel)
theorem k_308 : .superclass "java/lang/Throwable" "java/lang/Object" ∈ BIG := bigT (i := 308) (by decide +kernel) (by decide +kernel)
theorem k_309 : .instanceMethod ⟨"java/lang/Throwable", "<init>", "()V"⟩ ∈ BIG := bigT (i := 309) (by decide +kernel) (by decide +kernel)
theorem k_310 : .code ⟨"java/lang/Throwable", "<init>", "()V"⟩ prog_16_method_1_code 1 none ∈ BIG := bigT (i := 310) (by decide +kernel) (by decide +kernel)
theorem k_311 : .methodLink "java/lang/Throwable" 1 ⟨"java/lang/Object", "<init>", "()V"⟩ ∈ BIG := bigT (i := 311) (by decide +kernel) (by decide +kernel)
theorem k_312 : .fieldLink "java/lang/Throwable" 13 "java/lang/Throwable" "UNASSIGNED_STACK" "[Ljava/lang/StackTraceElement;" ∈ BIG := bigT (i := 312) (by decide +kernel) (by decide +kernel)
theorem k_314 : .fieldLink "java/lang/Throwable" 20 "java/lang/Throwable" "SUPPRESSED_SENTINEL" "Ljava/util/List;" ∈ BIG := bigT (i := 314) (by decide +kernel) (by decide +kernel)
theorem k_316 : .methodLink "java/lang/Throwable" 27 ⟨"java/lang/Throwable", "fillInStackTrace", "()Ljava/lang/Throwable;"⟩ ∈ BIG := bigT (i := 316) (by decide +kernel) (by decide +kernel)
theorem k_317 : .instanceMethod ⟨"java/lang/Throwable", "fillInStackTrace", "()Ljava/lang/Throwable;"⟩ ∈ BIG := bigT (i := 317) (by decide +kernel) (by decide +kernel)
theorem k_319 : .selects "java/lang/IllegalStateException" ⟨"java/lang/Throwable", "fillInStackTrace", "()Ljava/lang/Throwable;"⟩ ⟨"java/lang/Throwable", "fillInStackTrace", "()Ljava/lang/Throwable;"⟩ ∈ BIG := bigT (i := 319) (by decide +kernel) (by decide +kernel)
theorem k_320 : .selects "java/lang/IndexOutOfBoundsException" ⟨"java/lang/Throwable", "fillInStackTrace", "()Ljava/lang/Throwable;"⟩ ⟨"java/lang/Throwable", "fillInStackTrace", "()Ljava/lang/Throwable;"⟩ ∈ BIG := bigT (i := 320) (by decide +kernel) (by decide +kernel)
theorem k_321 : .codeSync ⟨"java/lang/Throwable", "fillInStackTrace", "()Ljava/lang/Throwable;"⟩ prog_16_method_18_code 1 (some (.object "java/lang/Throwable")) ∈ BIG := bigT (i := 321) (by decide +kernel) (by decide +kernel)
theorem k_322 : .methodLink "java/lang/Throwable" 202 ⟨"java/lang/Throwable", "fillInStackTrace", "(I)Ljava/lang/Throwable;"⟩ ∈ BIG := bigT (i := 322) (by decide +kernel) (by decide +kernel)
theorem k_324 : .instanceMethod ⟨"java/lang/Throwable", "fillInStackTrace", "(I)Ljava/lang/Throwable;"⟩ ∈ BIG := bigT (i := 324) (by decide +kernel) (by decide +kernel)
theorem k_325 : .instantiable "java/lang/Throwable" 6 ∈ BIG := bigT (i := 325) (by decide +kernel) (by decide +kernel)
theorem k_326 : .native ⟨"java/lang/Throwable", "fillInStackTrace", "(I)Ljava/lang/Throwable;"⟩ ∈ BIG := bigT (i := 326) (by decide +kernel) (by decide +kernel)
theorem k_328 : .methodLink "LongNames" 81 ⟨"java/lang/IllegalArgumentException", "<init>", "(Ljava/lang/String;)V"⟩ ∈ BIG := bigT (i := 328) (by decide +kernel) (by decide +kernel)
theorem k_329 : .instanceMethod ⟨"java/lang/IllegalArgumentException", "<init>", "(Ljava/lang/String;)V"⟩ ∈ BIG := bigT (i := 329) (by decide +kernel) (by decide +kernel)
theorem k_330 : .code ⟨"java/lang/IllegalArgumentException", "<init>", "(Ljava/lang/String;)V"⟩ prog_11_method_2_code 2 none ∈ BIG := bigT (i := 330) (by decide +kernel) (by decide +kernel)
theorem k_331 : .methodLink "java/lang/IllegalArgumentException" 7 ⟨"java/lang/RuntimeException", "<init>", "(Ljava/lang/String;)V"⟩ ∈ BIG := bigT (i := 331) (by decide +kernel) (by decide +kernel)
theorem k_332 : .instanceMethod ⟨"java/lang/RuntimeException", "<init>", "(Ljava/lang/String;)V"⟩ ∈ BIG := bigT (i := 332) (by decide +kernel) (by decide +kernel)
theorem k_333 : .code ⟨"java/lang/RuntimeException", "<init>", "(Ljava/lang/String;)V"⟩ prog_14_method_2_code 2 none ∈ BIG := bigT (i := 333) (by decide +kernel) (by decide +kernel)
theorem k_334 : .methodLink "java/lang/RuntimeException" 7 ⟨"java/lang/Exception", "<init>", "(Ljava/lang/String;)V"⟩ ∈ BIG := bigT (i := 334) (by decide +kernel) (by decide +kernel)
theorem k_335 : .instanceMethod ⟨"java/lang/Exception", "<init>", "(Ljava/lang/String;)V"⟩ ∈ BIG := bigT (i := 335) (by decide +kernel) (by decide +kernel)
theorem k_336 : .code ⟨"java/lang/Exception", "<init>", "(Ljava/lang/String;)V"⟩ prog_10_method_2_code 2 none ∈ BIG := bigT (i := 336) (by decide +kernel) (by decide +kernel)
theorem k_337 : .methodLink "java/lang/Exception" 7 ⟨"java/lang/Throwable", "<init>", "(Ljava/lang/String;)V"⟩ ∈ BIG := bigT (i := 337) (by decide +kernel) (by decide +kernel)
theorem k_338 : .instanceMethod ⟨"java/lang/Throwable", "<init>", "(Ljava/lang/String;)V"⟩ ∈ BIG := bigT (i := 338) (by decide +kernel) (by decide +kernel)
theorem k_339 : .code ⟨"java/lang/Throwable", "<init>", "(Ljava/lang/String;)V"⟩ prog_16_method_2_code 2 none ∈ BIG := bigT (i := 339) (by decide +kernel) (by decide +kernel)
theorem k_340 : .fieldLink "java/lang/Throwable" 198 "java/lang/Throwable" "backtrace" "Ljava/lang/Object;" ∈ BIG := bigT (i := 340) (by decide +kernel) (by decide +kernel)
theorem k_341 : .fieldLink "java/lang/Throwable" 31 "java/lang/Throwable" "detailMessage" "Ljava/lang/String;" ∈ BIG := bigT (i := 341) (by decide +kernel) (by decide +kernel)
theorem k_342 : .fieldLink "java/lang/Throwable" 7 "java/lang/Throwable" "cause" "Ljava/lang/Throwable;" ∈ BIG := bigT (i := 342) (by decide +kernel) (by decide +kernel)
theorem k_343 : .fieldLink "java/lang/Throwable" 17 "java/lang/Throwable" "stackTrace" "[Ljava/lang/StackTraceElement;" ∈ BIG := bigT (i := 343) (by decide +kernel) (by decide +kernel)
theorem k_344 : .fieldLink "java/lang/Throwable" 24 "java/lang/Throwable" "suppressedExceptions" "Ljava/util/List;" ∈ BIG := bigT (i := 344) (by decide +kernel) (by decide +kernel)
theorem k_349 : .lays "java/lang/IllegalArgumentException" "java/lang/Throwable" "depth" "I" ∈ BIG := bigT (i := 349) (by decide +kernel) (by decide +kernel)
theorem k_352 : .superclass "java/lang/IllegalArgumentException" "java/lang/RuntimeException" ∈ BIG := bigT (i := 352) (by decide +kernel) (by decide +kernel)
theorem k_353 : .arrayClass .byte ∈ BIG := bigT (i := 353) (by decide +kernel) (by decide +kernel)
theorem k_356 : .classLink "LongNames" 91 "java/lang/IndexOutOfBoundsException" ∈ BIG := bigT (i := 356) (by decide +kernel) (by decide +kernel)
theorem k_357 : .instantiable "java/lang/IndexOutOfBoundsException" 6 ∈ BIG := bigT (i := 357) (by decide +kernel) (by decide +kernel)
theorem k_359 : .selects "java/lang/IndexOutOfBoundsException" ⟨"java/lang/Throwable", "fillInStackTrace", "(I)Ljava/lang/Throwable;"⟩ ⟨"java/lang/Throwable", "fillInStackTrace", "(I)Ljava/lang/Throwable;"⟩ ∈ BIG := bigT (i := 359) (by decide +kernel) (by decide +kernel)
theorem k_360 : .lays "java/lang/IndexOutOfBoundsException" "java/lang/Throwable" "cause" "Ljava/lang/Throwable;" ∈ BIG := bigT (i := 360) (by decide +kernel) (by decide +kernel)
theorem k_361 : .lays "java/lang/IndexOutOfBoundsException" "java/lang/Throwable" "stackTrace" "[Ljava/lang/StackTraceElement;" ∈ BIG := bigT (i := 361) (by decide +kernel) (by decide +kernel)
theorem k_362 : .lays "java/lang/IndexOutOfBoundsException" "java/lang/Throwable" "suppressedExceptions" "Ljava/util/List;" ∈ BIG := bigT (i := 362) (by decide +kernel) (by decide +kernel)
theorem k_363 : .lays "java/lang/IndexOutOfBoundsException" "java/lang/Throwable" "detailMessage" "Ljava/lang/String;" ∈ BIG := bigT (i := 363) (by decide +kernel) (by decide +kernel)
theorem k_364 : .lays "java/lang/IndexOutOfBoundsException" "java/lang/Throwable" "backtrace" "Ljava/lang/Object;" ∈ BIG := bigT (i := 364) (by decide +kernel) (by decide +kernel)
theorem k_366 : .methodLink "LongNames" 95 ⟨"java/lang/IndexOutOfBoundsException", "<init>", "(Ljava/lang/String;)V"⟩ ∈ BIG := bigT (i := 366) (by decide +kernel) (by decide +kernel)
theorem k_367 : .instanceMethod ⟨"java/lang/IndexOutOfBoundsException", "<init>", "(Ljava/lang/String;)V"⟩ ∈ BIG := bigT (i := 367) (by decide +kernel) (by decide +kernel)
theorem k_368 : .code ⟨"java/lang/IndexOutOfBoundsException", "<init>", "(Ljava/lang/String;)V"⟩ prog_13_method_2_code 2 none ∈ BIG := bigT (i := 368) (by decide +kernel) (by decide +kernel)
theorem k_369 : .methodLink "java/lang/IndexOutOfBoundsException" 7 ⟨"java/lang/RuntimeException", "<init>", "(Ljava/lang/String;)V"⟩ ∈ BIG := bigT (i := 369) (by decide +kernel) (by decide +kernel)
theorem k_370 : .lays "java/lang/IndexOutOfBoundsException" "java/lang/Throwable" "depth" "I" ∈ BIG := bigT (i := 370) (by decide +kernel) (by decide +kernel)
theorem k_371 : .superclass "java/lang/IndexOutOfBoundsException" "java/lang/RuntimeException" ∈ BIG := bigT (i := 371) (by decide +kernel) (by decide +kernel)
theorem k_372 : .methodLink "LongNames" 96 ⟨"LongNames$ShortName", "takeShown", "(LLongNames$Row;)V"⟩ ∈ BIG := bigT (i := 372) (by decide +kernel) (by decide +kernel)
theorem k_373 : .instanceMethod ⟨"LongNames$ShortName", "takeShown", "(LLongNames$Row;)V"⟩ ∈ BIG := bigT (i := 373) (by decide +kernel) (by decide +kernel)
theorem k_374 : .selects "LongNames$ShortName" ⟨"LongNames$ShortName", "takeShown", "(LLongNames$Row;)V"⟩ ⟨"LongNames$ShortName", "takeShown", "(LLongNames$Row;)V"⟩ ∈ BIG := bigT (i := 374) (by decide +kernel) (by decide +kernel)
theorem k_375 : .code ⟨"LongNames$ShortName", "takeShown", "(LLongNames$Row;)V"⟩ prog_5_method_2_code 4 none ∈ BIG := bigT (i := 375) (by decide +kernel) (by decide +kernel)
theorem k_376 : .methodLink "LongNames$ShortName" 15 ⟨"java/util/Arrays", "fill", "([II)V"⟩ ∈ BIG := bigT (i := 376) (by decide +kernel) (by decide +kernel)
theorem k_377 : .static ⟨"java/util/Arrays", "fill", "([II)V"⟩ ∈ BIG := bigT (i := 377) (by decide +kernel) (by decide +kernel)
theorem k_378 : .code ⟨"java/util/Arrays", "fill", "([II)V"⟩ prog_17_method_103_code 4 none ∈ BIG := bigT (i := 378) (by decide +kernel) (by decide +kernel)
theorem k_379 : .methodLink "LongNames$ShortName" 21 ⟨"LongNames$Row", "lastPoint", "()I"⟩ ∈ BIG := bigT (i := 379) (by decide +kernel) (by decide +kernel)
theorem k_380 : .methodLink "LongNames$ShortName" 27 ⟨"LongNames$Row", "size", "()I"⟩ ∈ BIG := bigT (i := 380) (by decide +kernel) (by decide +kernel)
theorem k_381 : .methodLink "LongNames$ShortName" 30 ⟨"LongNames$ShortName", "shorten", "(LLongNames$Row;IIII)I"⟩ ∈ BIG := bigT (i := 381) (by decide +kernel) (by decide +kernel)
theorem k_383 : .instanceMethod ⟨"LongNames$ShortName", "shorten", "(LLongNames$Row;IIII)I"⟩ ∈ BIG := bigT (i := 383) (by decide +kernel) (by decide +kernel)
theorem k_384 : .code ⟨"LongNames$ShortName", "shorten", "(LLongNames$Row;IIII)I"⟩ prog_5_method_10_code 9 (some .int) ∈ BIG := bigT (i := 384) (by decide +kernel) (by decide +kernel)
theorem k_385 : .methodLink "LongNames$ShortName" 75 ⟨"LongNames$Row", "get", "(I)I"⟩ ∈ BIG := bigT (i := 385) (by decide +kernel) (by decide +kernel)
theorem k_386 : .methodLink "LongNames$ShortName" 76 ⟨"LongNames$Units", "shortened", "(I)I"⟩ ∈ BIG := bigT (i := 386) (by decide +kernel) (by decide +kernel)
theorem k_387 : .static ⟨"LongNames$Units", "shortened", "(I)I"⟩ ∈ BIG := bigT (i := 387) (by decide +kernel) (by decide +kernel)
theorem k_388 : .code ⟨"LongNames$Units", "shortened", "(I)I"⟩ prog_7_method_5_code 2 (some .int) ∈ BIG := bigT (i := 388) (by decide +kernel) (by decide +kernel)
theorem k_389 : .methodLink "LongNames$Units" 10 ⟨"LongNames$Units", "capital", "(I)I"⟩ ∈ BIG := bigT (i := 389) (by decide +kernel) (by decide +kernel)
theorem k_390 : .methodLink "LongNames$Units" 16 ⟨"LongNames$Units", "mayStandInShortName", "(I)Z"⟩ ∈ BIG := bigT (i := 390) (by decide +kernel) (by decide +kernel)
theorem k_391 : .methodLink "LongNames$ShortName" 38 ⟨"LongNames$ShortName", "set", "(II)V"⟩ ∈ BIG := bigT (i := 391) (by decide +kernel) (by decide +kernel)
theorem k_393 : .instanceMethod ⟨"LongNames$ShortName", "set", "(II)V"⟩ ∈ BIG := bigT (i := 393) (by decide +kernel) (by decide +kernel)
theorem k_394 : .code ⟨"LongNames$ShortName", "set", "(II)V"⟩ prog_5_method_13_code 3 none ∈ BIG := bigT (i := 394) (by decide +kernel) (by decide +kernel)
theorem k_395 : .methodLink "LongNames" 100 ⟨"LongNames$ShortName", "takeTailed", "(LLongNames$Row;I)V"⟩ ∈ BIG := bigT (i := 395) (by decide +kernel) (by decide +kernel)
theorem k_396 : .instanceMethod ⟨"LongNames$ShortName", "takeTailed", "(LLongNames$Row;I)V"⟩ ∈ BIG := bigT (i := 396) (by decide +kernel) (by decide +kernel)
theorem k_397 : .selects "LongNames$ShortName" ⟨"LongNames$ShortName", "takeTailed", "(LLongNames$Row;I)V"⟩ ⟨"LongNames$ShortName", "takeTailed", "(LLongNames$Row;I)V"⟩ ∈ BIG := bigT (i := 397) (by decide +kernel) (by decide +kernel)
theorem k_398 : .code ⟨"LongNames$ShortName", "takeTailed", "(LLongNames$Row;I)V"⟩ prog_5_method_3_code 7 none ∈ BIG := bigT (i := 398) (by decide +kernel) (by decide +kernel)
theorem k_399 : .methodLink "LongNames$ShortName" 34 ⟨"LongNames$ShortName", "digitsOf", "(I)I"⟩ ∈ BIG := bigT (i := 399) (by decide +kernel) (by decide +kernel)
theorem k_400 : .static ⟨"LongNames$ShortName", "digitsOf", "(I)I"⟩ ∈ BIG := bigT (i := 400) (by decide +kernel) (by decide +kernel)
theorem k_401 : .code ⟨"LongNames$ShortName", "digitsOf", "(I)I"⟩ prog_5_method_12_code 1 (some .int) ∈ BIG := bigT (i := 401) (by decide +kernel) (by decide +kernel)
theorem k_402 : .methodLink "LongNames$ShortName" 42 ⟨"LongNames$ShortName", "setNumber", "(III)V"⟩ ∈ BIG := bigT (i := 402) (by decide +kernel) (by decide +kernel)
theorem k_404 : .instanceMethod ⟨"LongNames$ShortName", "setNumber", "(III)V"⟩ ∈ BIG := bigT (i := 404) (by decide +kernel) (by decide +kernel)
theorem k_405 : .code ⟨"LongNames$ShortName", "setNumber", "(III)V"⟩ prog_5_method_11_code 6 none ∈ BIG := bigT (i := 405) (by decide +kernel) (by decide +kernel)
theorem k_406 : .methodLink "LongNames" 104 ⟨"LongNames", "writeSlots", "(LLongNames$Row;II)V"⟩ ∈ BIG := bigT (i := 406) (by decide +kernel) (by decide +kernel)
theorem k_408 : .instanceMethod ⟨"LongNames", "writeSlots", "(LLongNames$Row;II)V"⟩ ∈ BIG := bigT (i := 408) (by decide +kernel) (by decide +kernel)
theorem k_409 : .code ⟨"LongNames", "writeSlots", "(LLongNames$Row;II)V"⟩ prog_1_method_14_code 6 none ∈ BIG := bigT (i := 409) (by decide +kernel) (by decide +kernel)
theorem k_410 : .methodLink "LongNames" 163 ⟨"LongNames$ShortName", "storeEntry", "(LLongNames$Slots;I)V"⟩ ∈ BIG := bigT (i := 410) (by decide +kernel) (by decide +kernel)
theorem k_411 : .instanceMethod ⟨"LongNames$ShortName", "storeEntry", "(LLongNames$Slots;I)V"⟩ ∈ BIG := bigT (i := 411) (by decide +kernel) (by decide +kernel)
theorem k_412 : .selects "LongNames$ShortName" ⟨"LongNames$ShortName", "storeEntry", "(LLongNames$Slots;I)V"⟩ ⟨"LongNames$ShortName", "storeEntry", "(LLongNames$Slots;I)V"⟩ ∈ BIG := bigT (i := 412) (by decide +kernel) (by decide +kernel)
theorem k_413 : .code ⟨"LongNames$ShortName", "storeEntry", "(LLongNames$Slots;I)V"⟩ prog_5_method_5_code 4 none ∈ BIG := bigT (i := 413) (by decide +kernel) (by decide +kernel)
theorem k_414 : .methodLink "LongNames$ShortName" 52 ⟨"LongNames$ShortName", "get", "(I)I"⟩ ∈ BIG := bigT (i := 414) (by decide +kernel) (by decide +kernel)
theorem k_416 : .instanceMethod ⟨"LongNames$ShortName", "get", "(I)I"⟩ ∈ BIG := bigT (i := 416) (by decide +kernel) (by decide +kernel)
theorem k_417 : .code ⟨"LongNames$ShortName", "get", "(I)I"⟩ prog_5_method_14_code 2 (some .int) ∈ BIG := bigT (i := 417) (by decide +kernel) (by decide +kernel)
theorem k_418 : .methodLink "LongNames$ShortName" 54 ⟨"LongNames$Slots", "put", "(III)Z"⟩ ∈ BIG := bigT (i := 418) (by decide +kernel) (by decide +kernel)
theorem k_419 : .methodLink "LongNames" 166 ⟨"LongNames$Part", "build", "(LLongNames$Row;II)V"⟩ ∈ BIG := bigT (i := 419) (by decide +kernel) (by decide +kernel)
theorem k_420 : .instanceMethod ⟨"LongNames$Part", "build", "(LLongNames$Row;II)V"⟩ ∈ BIG := bigT (i := 420) (by decide +kernel) (by decide +kernel)
theorem k_421 : .selects "LongNames$Part" ⟨"LongNames$Part", "build", "(LLongNames$Row;II)V"⟩ ⟨"LongNames$Part", "build", "(LLongNames$Row;II)V"⟩ ∈ BIG := bigT (i := 421) (by decide +kernel) (by decide +kernel)
theorem k_422 : .code ⟨"LongNames$Part", "build", "(LLongNames$Row;II)V"⟩ prog_3_method_2_code 6 none ∈ BIG := bigT (i := 422) (by decide +kernel) (by decide +kernel)
theorem k_423 : .methodLink "LongNames$Part" 17 ⟨"java/util/Arrays", "fill", "([II)V"⟩ ∈ BIG := bigT (i := 423) (by decide +kernel) (by decide +kernel)
theorem k_424 : .methodLink "LongNames$Part" 23 ⟨"LongNames$Row", "partsNeeded", "()I"⟩ ∈ BIG := bigT (i := 424) (by decide +kernel) (by decide +kernel)
theorem k_425 : .methodLink "LongNames$Part" 29 ⟨"LongNames$Part", "set", "(II)V"⟩ ∈ BIG := bigT (i := 425) (by decide +kernel) (by decide +kernel)
theorem k_427 : .instanceMethod ⟨"LongNames$Part", "set", "(II)V"⟩ ∈ BIG := bigT (i := 427) (by decide +kernel) (by decide +kernel)
theorem k_428 : .code ⟨"LongNames$Part", "set", "(II)V"⟩ prog_3_method_8_code 3 none ∈ BIG := bigT (i := 428) (by decide +kernel) (by decide +kernel)
theorem k_429 : .methodLink "LongNames$Part" 33 ⟨"LongNames$Part", "unitOrFill", "(LLongNames$Row;I)I"⟩ ∈ BIG := bigT (i := 429) (by decide +kernel) (by decide +kernel)
theorem k_430 : .static ⟨"LongNames$Part", "unitOrFill", "(LLongNames$Row;I)I"⟩ ∈ BIG := bigT (i := 430) (by decide +kernel) (by decide +kernel)
theorem k_431 : .code ⟨"LongNames$Part", "unitOrFill", "(LLongNames$Row;I)I"⟩ prog_3_method_6_code 2 (some .int) ∈ BIG := bigT (i := 431) (by decide +kernel) (by decide +kernel)
theorem k_432 : .methodLink "LongNames$Part" 51 ⟨"LongNames$Row", "size", "()I"⟩ ∈ BIG := bigT (i := 432) (by decide +kernel) (by decide +kernel)
theorem k_433 : .methodLink "LongNames$Part" 54 ⟨"LongNames$Row", "get", "(I)I"⟩ ∈ BIG := bigT (i := 433) (by decide +kernel) (by decide +kernel)
theorem k_434 : .constant "LongNames$Part" 55 65535 ∈ BIG := bigT (i := 434) (by decide +kernel) (by decide +kernel)
theorem k_435 : .methodLink "LongNames$Part" 37 ⟨"LongNames$Part", "placeOf", "(I)I"⟩ ∈ BIG := bigT (i := 435) (by decide +kernel) (by decide +kernel)
theorem k_436 : .static ⟨"LongNames$Part", "placeOf", "(I)I"⟩ ∈ BIG := bigT (i := 436) (by decide +kernel) (by decide +kernel)
theorem k_437 : .code ⟨"LongNames$Part", "placeOf", "(I)I"⟩ prog_3_method_7_code 1 (some .int) ∈ BIG := bigT (i := 437) (by decide +kernel) (by decide +kernel)
theorem k_438 : .fieldLink "LongNames$Part" 56 "LongNames$Part" "PLACES" "[I" ∈ BIG := bigT (i := 438) (by decide +kernel) (by decide +kernel)
theorem k_440 : .methodLink "LongNames" 169 ⟨"LongNames$Part", "storeIn", "(LLongNames$Slots;I)V"⟩ ∈ BIG := bigT (i := 440) (by decide +kernel) (by decide +kernel)
theorem k_441 : .instanceMethod ⟨"LongNames$Part", "storeIn", "(LLongNames$Slots;I)V"⟩ ∈ BIG := bigT (i := 441) (by decide +kernel) (by decide +kernel)
theorem k_442 : .selects "LongNames$Part" ⟨"LongNames$Part", "storeIn", "(LLongNames$Slots;I)V"⟩ ⟨"LongNames$Part", "storeIn", "(LLongNames$Slots;I)V"⟩ ∈ BIG := bigT (i := 442) (by decide +kernel) (by decide +kernel)
theorem k_443 : .code ⟨"LongNames$Part", "storeIn", "(LLongNames$Slots;I)V"⟩ prog_3_method_3_code 4 none ∈ BIG := bigT (i := 443) (by decide +kernel) (by decide +kernel)
theorem k_444 : .methodLink "LongNames$Part" 41 ⟨"LongNames$Part", "get", "(I)I"⟩ ∈ BIG := bigT (i := 444) (by decide +kernel) (by decide +kernel)
theorem k_446 : .instanceMethod ⟨"LongNames$Part", "get", "(I)I"⟩ ∈ BIG := bigT (i := 446) (by decide +kernel) (by decide +kernel)
theorem k_447 : .code ⟨"LongNames$Part", "get", "(I)I"⟩ prog_3_method_9_code 2 (some .int) ∈ BIG := bigT (i := 447) (by decide +kernel) (by decide +kernel)
theorem k_448 : .methodLink "LongNames$Part" 44 ⟨"LongNames$Slots", "put", "(III)Z"⟩ ∈ BIG := bigT (i := 448) (by decide +kernel) (by decide +kernel)
theorem k_449 : .methodLink "LongNamesLaw" 60 ⟨"LongNamesLaw", "read", "(LLongNames;III[J)I"⟩ ∈ BIG := bigT (i := 449) (by decide +kernel) (by decide +kernel)
theorem k_450 : .static ⟨"LongNamesLaw", "read", "(LLongNames;III[J)I"⟩ ∈ BIG := bigT (i := 450) (by decide +kernel) (by decide +kernel)
theorem k_452 : .classLink "LongNamesLaw" 20 "java/lang/IllegalStateException" ∈ BIG := bigT (i := 452) (by decide +kernel) (by decide +kernel)
theorem k_453 : .methodLink "LongNamesLaw" 17 ⟨"LongNames", "read", "(III)I"⟩ ∈ BIG := bigT (i := 453) (by decide +kernel) (by decide +kernel)
theorem k_454 : .instanceMethod ⟨"LongNames", "read", "(III)I"⟩ ∈ BIG := bigT (i := 454) (by decide +kernel) (by decide +kernel)
theorem k_455 : .selects "LongNames" ⟨"LongNames", "read", "(III)I"⟩ ⟨"LongNames", "read", "(III)I"⟩ ∈ BIG := bigT (i := 455) (by decide +kernel) (by decide +kernel)
theorem k_456 : .code ⟨"LongNames", "read", "(III)I"⟩ prog_1_method_8_code 5 (some .int) ∈ BIG := bigT (i := 456) (by decide +kernel) (by decide +kernel)
theorem k_460 : .methodLink "LongNames" 114 ⟨"LongNames$ShortName", "takeEntry", "(LLongNames$Slots;I)V"⟩ ∈ BIG := bigT (i := 460) (by decide +kernel) (by decide +kernel)
theorem k_461 : .instanceMethod ⟨"LongNames$ShortName", "takeEntry", "(LLongNames$Slots;I)V"⟩ ∈ BIG := bigT (i := 461) (by decide +kernel) (by decide +kernel)
theorem k_462 : .selects "LongNames$ShortName" ⟨"LongNames$ShortName", "takeEntry", "(LLongNames$Slots;I)V"⟩ ⟨"LongNames$ShortName", "takeEntry", "(LLongNames$Slots;I)V"⟩ ∈ BIG := bigT (i := 462) (by decide +kernel) (by decide +kernel)
theorem k_463 : .code ⟨"LongNames$ShortName", "takeEntry", "(LLongNames$Slots;I)V"⟩ prog_5_method_4_code 4 none ∈ BIG := bigT (i := 463) (by decide +kernel) (by decide +kernel)
theorem k_464 : .methodLink "LongNames$ShortName" 46 ⟨"LongNames$Slots", "get", "(II)I"⟩ ∈ BIG := bigT (i := 464) (by decide +kernel) (by decide +kernel)
theorem k_465 : .methodLink "LongNames" 118 ⟨"LongNames$ShortName", "isValid", "()Z"⟩ ∈ BIG := bigT (i := 465) (by decide +kernel) (by decide +kernel)
theorem k_466 : .instanceMethod ⟨"LongNames$ShortName", "isValid", "()Z"⟩ ∈ BIG := bigT (i := 466) (by decide +kernel) (by decide +kernel)
theorem k_467 : .selects "LongNames$ShortName" ⟨"LongNames$ShortName", "isValid", "()Z"⟩ ⟨"LongNames$ShortName", "isValid", "()Z"⟩ ∈ BIG := bigT (i := 467) (by decide +kernel) (by decide +kernel)
theorem k_468 : .code ⟨"LongNames$ShortName", "isValid", "()Z"⟩ prog_5_method_6_code 1 (some .boolean) ∈ BIG := bigT (i := 468) (by decide +kernel) (by decide +kernel)
theorem k_469 : .methodLink "LongNames$ShortName" 58 ⟨"LongNames$ShortName", "blanksOnlyEnd", "(II)Z"⟩ ∈ BIG := bigT (i := 469) (by decide +kernel) (by decide +kernel)
theorem k_471 : .instanceMethod ⟨"LongNames$ShortName", "blanksOnlyEnd", "(II)Z"⟩ ∈ BIG := bigT (i := 471) (by decide +kernel) (by decide +kernel)
theorem k_472 : .code ⟨"LongNames$ShortName", "blanksOnlyEnd", "(II)Z"⟩ prog_5_method_9_code 5 (some .boolean) ∈ BIG := bigT (i := 472) (by decide +kernel) (by decide +kernel)
theorem k_473 : .methodLink "LongNames$ShortName" 70 ⟨"LongNames$Units", "mayStandInShortName", "(I)Z"⟩ ∈ BIG := bigT (i := 473) (by decide +kernel) (by decide +kernel)
theorem k_474 : .classLink "LongNames" 121 "java/lang/IllegalStateException" ∈ BIG := bigT (i := 474) (by decide +kernel) (by decide +kernel)
theorem k_475 : .instantiable "java/lang/IllegalStateException" 6 ∈ BIG := bigT (i := 475) (by decide +kernel) (by decide +kernel)
theorem k_477 : .selects "java/lang/IllegalStateException" ⟨"java/lang/Throwable", "fillInStackTrace", "(I)Ljava/lang/Throwable;"⟩ ⟨"java/lang/Throwable", "fillInStackTrace", "(I)Ljava/lang/Throwable;"⟩ ∈ BIG := bigT (i := 477) (by decide +kernel) (by decide +kernel)
theorem k_478 : .lays "java/lang/IllegalStateException" "java/lang/Throwable" "cause" "Ljava/lang/Throwable;" ∈ BIG := bigT (i := 478) (by decide +kernel) (by decide +kernel)
theorem k_479 : .lays "java/lang/IllegalStateException" "java/lang/Throwable" "stackTrace" "[Ljava/lang/StackTraceElement;" ∈ BIG := bigT (i := 479) (by decide +kernel) (by decide +kernel)
theorem k_480 : .lays "java/lang/IllegalStateException" "java/lang/Throwable" "suppressedExceptions" "Ljava/util/List;" ∈ BIG := bigT (i := 480) (by decide +kernel) (by decide +kernel)
theorem k_481 : .lays "java/lang/IllegalStateException" "java/lang/Throwable" "detailMessage" "Ljava/lang/String;" ∈ BIG := bigT (i := 481) (by decide +kernel) (by decide +kernel)
theorem k_482 : .lays "java/lang/IllegalStateException" "java/lang/Throwable" "backtrace" "Ljava/lang/Object;" ∈ BIG := bigT (i := 482) (by decide +kernel) (by decide +kernel)
theorem k_484 : .methodLink "LongNames" 125 ⟨"java/lang/IllegalStateException", "<init>", "(Ljava/lang/String;)V"⟩ ∈ BIG := bigT (i := 484) (by decide +kernel) (by decide +kernel)
theorem k_485 : .instanceMethod ⟨"java/lang/IllegalStateException", "<init>", "(Ljava/lang/String;)V"⟩ ∈ BIG := bigT (i := 485) (by decide +kernel) (by decide +kernel)
theorem k_486 : .code ⟨"java/lang/IllegalStateException", "<init>", "(Ljava/lang/String;)V"⟩ prog_12_method_2_code 2 none ∈ BIG := bigT (i := 486) (by decide +kernel) (by decide +kernel)
theorem k_487 : .methodLink "java/lang/IllegalStateException" 7 ⟨"java/lang/RuntimeException", "<init>", "(Ljava/lang/String;)V"⟩ ∈ BIG := bigT (i := 487) (by decide +kernel) (by decide +kernel)
theorem k_488 : .lays "java/lang/IllegalStateException" "java/lang/Throwable" "depth" "I" ∈ BIG := bigT (i := 488) (by decide +kernel) (by decide +kernel)
theorem k_489 : .superclass "java/lang/IllegalStateException" "java/lang/RuntimeException" ∈ BIG := bigT (i := 489) (by decide +kernel) (by decide +kernel)
theorem k_490 : .methodLink "LongNames" 126 ⟨"LongNames$ShortName", "showIn", "(LLongNames$Row;)V"⟩ ∈ BIG := bigT (i := 490) (by decide +kernel) (by decide +kernel)
theorem k_491 : .instanceMethod ⟨"LongNames$ShortName", "showIn", "(LLongNames$Row;)V"⟩ ∈ BIG := bigT (i := 491) (by decide +kernel) (by decide +kernel)
theorem k_492 : .selects "LongNames$ShortName" ⟨"LongNames$ShortName", "showIn", "(LLongNames$Row;)V"⟩ ⟨"LongNames$ShortName", "showIn", "(LLongNames$Row;)V"⟩ ∈ BIG := bigT (i := 492) (by decide +kernel) (by decide +kernel)
theorem k_493 : .code ⟨"LongNames$ShortName", "showIn", "(LLongNames$Row;)V"⟩ prog_5_method_7_code 2 none ∈ BIG := bigT (i := 493) (by decide +kernel) (by decide +kernel)
theorem k_494 : .methodLink "LongNames$ShortName" 62 ⟨"LongNames$ShortName", "showBytes", "(LLongNames$Row;II)V"⟩ ∈ BIG := bigT (i := 494) (by decide +kernel) (by decide +kernel)
theorem k_496 : .instanceMethod ⟨"LongNames$ShortName", "showBytes", "(LLongNames$Row;II)V"⟩ ∈ BIG := bigT (i := 496) (by decide +kernel) (by decide +kernel)
theorem k_497 : .code ⟨"LongNames$ShortName", "showBytes", "(LLongNames$Row;II)V"⟩ prog_5_method_8_code 5 none ∈ BIG := bigT (i := 497) (by decide +kernel) (by decide +kernel)
theorem k_498 : .methodLink "LongNames$ShortName" 66 ⟨"LongNames$Row", "append", "(I)Z"⟩ ∈ BIG := bigT (i := 498) (by decide +kernel) (by decide +kernel)
theorem k_499 : .methodLink "LongNames" 129 ⟨"LongNames", "readParts", "(LLongNames$Row;II)Z"⟩ ∈ BIG := bigT (i := 499) (by decide +kernel) (by decide +kernel)
theorem k_501 : .instanceMethod ⟨"LongNames", "readParts", "(LLongNames$Row;II)Z"⟩ ∈ BIG := bigT (i := 501) (by decide +kernel) (by decide +kernel)
theorem k_502 : .code ⟨"LongNames", "readParts", "(LLongNames$Row;II)Z"⟩ prog_1_method_15_code 6 (some .boolean) ∈ BIG := bigT (i := 502) (by decide +kernel) (by decide +kernel)
theorem k_503 : .methodLink "LongNames" 172 ⟨"LongNames", "collectUnits", "(LLongNames$Row;II)V"⟩ ∈ BIG := bigT (i := 503) (by decide +kernel) (by decide +kernel)
theorem k_505 : .instanceMethod ⟨"LongNames", "collectUnits", "(LLongNames$Row;II)V"⟩ ∈ BIG := bigT (i := 505) (by decide +kernel) (by decide +kernel)
theorem k_506 : .code ⟨"LongNames", "collectUnits", "(LLongNames$Row;II)V"⟩ prog_1_method_16_code 7 none ∈ BIG := bigT (i := 506) (by decide +kernel) (by decide +kernel)
theorem k_507 : .methodLink "LongNames" 179 ⟨"LongNames$Part", "unitIn", "(LLongNames$Slots;II)I"⟩ ∈ BIG := bigT (i := 507) (by decide +kernel) (by decide +kernel)
theorem k_508 : .static ⟨"LongNames$Part", "unitIn", "(LLongNames$Slots;II)I"⟩ ∈ BIG := bigT (i := 508) (by decide +kernel) (by decide +kernel)
theorem k_509 : .code ⟨"LongNames$Part", "unitIn", "(LLongNames$Slots;II)I"⟩ prog_3_method_5_code 4 (some .int) ∈ BIG := bigT (i := 509) (by decide +kernel) (by decide +kernel)
theorem k_510 : .methodLink "LongNames$Part" 48 ⟨"LongNames$Slots", "get", "(II)I"⟩ ∈ BIG := bigT (i := 510) (by decide +kernel) (by decide +kernel)
theorem k_511 : .methodLink "LongNames" 175 ⟨"LongNames$Part", "isIn", "(LLongNames$Slots;I)Z"⟩ ∈ BIG := bigT (i := 511) (by decide +kernel) (by decide +kernel)
theorem k_512 : .instanceMethod ⟨"LongNames$Part", "isIn", "(LLongNames$Slots;I)Z"⟩ ∈ BIG := bigT (i := 512) (by decide +kernel) (by decide +kernel)
theorem k_513 : .selects "LongNames$Part" ⟨"LongNames$Part", "isIn", "(LLongNames$Slots;I)Z"⟩ ⟨"LongNames$Part", "isIn", "(LLongNames$Slots;I)Z"⟩ ∈ BIG := bigT (i := 513) (by decide +kernel) (by decide +kernel)
theorem k_514 : .code ⟨"LongNames$Part", "isIn", "(LLongNames$Slots;I)Z"⟩ prog_3_method_4_code 4 (some .boolean) ∈ BIG := bigT (i := 514) (by decide +kernel) (by decide +kernel)
theorem k_516 : .classLink "LongNamesLaw" 23 "LongNamesModel" ∈ BIG := bigT (i := 516) (by decide +kernel) (by decide +kernel)
theorem k_517 : .instantiable "LongNamesModel" 5 ∈ BIG := bigT (i := 517) (by decide +kernel) (by decide +kernel)
theorem k_518 : .methodLink "LongNamesLaw" 25 ⟨"LongNamesModel", "<init>", "()V"⟩ ∈ BIG := bigT (i := 518) (by decide +kernel) (by decide +kernel)
theorem k_519 : .instanceMethod ⟨"LongNamesModel", "<init>", "()V"⟩ ∈ BIG := bigT (i := 519) (by decide +kernel) (by decide +kernel)
theorem k_520 : .code ⟨"LongNamesModel", "<init>", "()V"⟩ prog_9_method_1_code 1 none ∈ BIG := bigT (i := 520) (by decide +kernel) (by decide +kernel)
theorem k_521 : .methodLink "LongNamesModel" 1 ⟨"java/lang/Object", "<init>", "()V"⟩ ∈ BIG := bigT (i := 521) (by decide +kernel) (by decide +kernel)
theorem k_522 : .fieldLink "LongNamesModel" 22 "LongNamesModel" "thrown" "I" ∈ BIG := bigT (i := 522) (by decide +kernel) (by decide +kernel)
theorem k_523 : .fieldLink "LongNamesModel" 7 "LongNamesModel" "units" "[I" ∈ BIG := bigT (i := 523) (by decide +kernel) (by decide +kernel)
theorem k_524 : .fieldLink "LongNamesModel" 13 "LongNamesModel" "sizes" "[I" ∈ BIG := bigT (i := 524) (by decide +kernel) (by decide +kernel)
theorem k_525 : .fieldLink "LongNamesModel" 16 "LongNamesModel" "bytes" "[I" ∈ BIG := bigT (i := 525) (by decide +kernel) (by decide +kernel)
theorem k_526 : .fieldLink "LongNamesModel" 19 "LongNamesModel" "brief" "[I" ∈ BIG := bigT (i := 526) (by decide +kernel) (by decide +kernel)
theorem k_527 : .lays "LongNamesModel" "LongNamesModel" "thrown" "I" ∈ BIG := bigT (i := 527) (by decide +kernel) (by decide +kernel)
theorem k_529 : .laysFinal "LongNamesModel" "LongNamesModel" "units" "[I" ∈ BIG := bigT (i := 529) (by decide +kernel) (by decide +kernel)
theorem k_531 : .laysFinal "LongNamesModel" "LongNamesModel" "sizes" "[I" ∈ BIG := bigT (i := 531) (by decide +kernel) (by decide +kernel)
theorem k_533 : .laysFinal "LongNamesModel" "LongNamesModel" "bytes" "[I" ∈ BIG := bigT (i := 533) (by decide +kernel) (by decide +kernel)
theorem k_535 : .laysFinal "LongNamesModel" "LongNamesModel" "brief" "[I" ∈ BIG := bigT (i := 535) (by decide +kernel) (by decide +kernel)
theorem k_537 : .superclass "LongNamesModel" "java/lang/Object" ∈ BIG := bigT (i := 537) (by decide +kernel) (by decide +kernel)
theorem k_538 : .methodLink "LongNamesLaw" 56 ⟨"LongNamesModel", "thrown", "()I"⟩ ∈ BIG := bigT (i := 538) (by decide +kernel) (by decide +kernel)
theorem k_539 : .instanceMethod ⟨"LongNamesModel", "thrown", "()I"⟩ ∈ BIG := bigT (i := 539) (by decide +kernel) (by decide +kernel)
theorem k_540 : .selects "LongNamesModel" ⟨"LongNamesModel", "thrown", "()I"⟩ ⟨"LongNamesModel", "thrown", "()I"⟩ ∈ BIG := bigT (i := 540) (by decide +kernel) (by decide +kernel)
theorem k_541 : .code ⟨"LongNamesModel", "thrown", "()I"⟩ prog_9_method_2_code 1 (some .int) ∈ BIG := bigT (i := 541) (by decide +kernel) (by decide +kernel)
theorem k_542 : .methodLink "LongNamesLaw" 30 ⟨"LongNamesModel", "unit", "(II)Z"⟩ ∈ BIG := bigT (i := 542) (by decide +kernel) (by decide +kernel)
theorem k_543 : .instanceMethod ⟨"LongNamesModel", "unit", "(II)Z"⟩ ∈ BIG := bigT (i := 543) (by decide +kernel) (by decide +kernel)
theorem k_544 : .selects "LongNamesModel" ⟨"LongNamesModel", "unit", "(II)Z"⟩ ⟨"LongNamesModel", "unit", "(II)Z"⟩ ∈ BIG := bigT (i := 544) (by decide +kernel) (by decide +kernel)
theorem k_545 : .code ⟨"LongNamesModel", "unit", "(II)Z"⟩ prog_9_method_5_code 3 (some .boolean) ∈ BIG := bigT (i := 545) (by decide +kernel) (by decide +kernel)
theorem k_546 : .methodLink "LongNamesModel" 26 ⟨"LongNamesModel", "isRow", "(I)Z"⟩ ∈ BIG := bigT (i := 546) (by decide +kernel) (by decide +kernel)
theorem k_547 : .static ⟨"LongNamesModel", "isRow", "(I)Z"⟩ ∈ BIG := bigT (i := 547) (by decide +kernel) (by decide +kernel)
theorem k_548 : .code ⟨"LongNamesModel", "isRow", "(I)Z"⟩ prog_9_method_3_code 1 (some .boolean) ∈ BIG := bigT (i := 548) (by decide +kernel) (by decide +kernel)
theorem k_549 : .constant "LongNamesModel" 30 65535 ∈ BIG := bigT (i := 549) (by decide +kernel) (by decide +kernel)
theorem k_550 : .methodLink "LongNamesLaw" 35 ⟨"LongNamesModel", "clear", "(I)I"⟩ ∈ BIG := bigT (i := 550) (by decide +kernel) (by decide +kernel)
theorem k_551 : .instanceMethod ⟨"LongNamesModel", "clear", "(I)I"⟩ ∈ BIG := bigT (i := 551) (by decide +kernel) (by decide +kernel)
theorem k_552 : .selects "LongNamesModel" ⟨"LongNamesModel", "clear", "(I)I"⟩ ⟨"LongNamesModel", "clear", "(I)I"⟩ ∈ BIG := bigT (i := 552) (by decide +kernel) (by decide +kernel)
theorem k_553 : .code ⟨"LongNamesModel", "clear", "(I)I"⟩ prog_9_method_6_code 3 (some .int) ∈ BIG := bigT (i := 553) (by decide +kernel) (by decide +kernel)
theorem k_554 : .methodLink "LongNamesLaw" 40 ⟨"LongNamesModel", "about", "(II)I"⟩ ∈ BIG := bigT (i := 554) (by decide +kernel) (by decide +kernel)
theorem k_555 : .instanceMethod ⟨"LongNamesModel", "about", "(II)I"⟩ ∈ BIG := bigT (i := 555) (by decide +kernel) (by decide +kernel)
theorem k_556 : .selects "LongNamesModel" ⟨"LongNamesModel", "about", "(II)I"⟩ ⟨"LongNamesModel", "about", "(II)I"⟩ ∈ BIG := bigT (i := 556) (by decide +kernel) (by decide +kernel)
theorem k_557 : .code ⟨"LongNamesModel", "about", "(II)I"⟩ prog_9_method_14_code 6 (some .int) ∈ BIG := bigT (i := 557) (by decide +kernel) (by decide +kernel)
theorem k_558 : .methodLink "LongNamesModel" 48 ⟨"LongNamesModel", "isName", "(I)Z"⟩ ∈ BIG := bigT (i := 558) (by decide +kernel) (by decide +kernel)
theorem k_560 : .instanceMethod ⟨"LongNamesModel", "isName", "(I)Z"⟩ ∈ BIG := bigT (i := 560) (by decide +kernel) (by decide +kernel)
theorem k_561 : .code ⟨"LongNamesModel", "isName", "(I)Z"⟩ prog_9_method_10_code 4 (some .boolean) ∈ BIG := bigT (i := 561) (by decide +kernel) (by decide +kernel)
theorem k_562 : .methodLink "LongNamesModel" 34 ⟨"LongNamesModel", "at", "(II)I"⟩ ∈ BIG := bigT (i := 562) (by decide +kernel) (by decide +kernel)
theorem k_564 : .instanceMethod ⟨"LongNamesModel", "at", "(II)I"⟩ ∈ BIG := bigT (i := 564) (by decide +kernel) (by decide +kernel)
theorem k_565 : .code ⟨"LongNamesModel", "at", "(II)I"⟩ prog_9_method_4_code 3 (some .int) ∈ BIG := bigT (i := 565) (by decide +kernel) (by decide +kernel)
theorem k_566 : .methodLink "LongNamesModel" 38 ⟨"LongNamesModel", "barred", "(I)Z"⟩ ∈ BIG := bigT (i := 566) (by decide +kernel) (by decide +kernel)
theorem k_567 : .static ⟨"LongNamesModel", "barred", "(I)Z"⟩ ∈ BIG := bigT (i := 567) (by decide +kernel) (by decide +kernel)
theorem k_568 : .code ⟨"LongNamesModel", "barred", "(I)Z"⟩ prog_9_method_9_code 1 (some .boolean) ∈ BIG := bigT (i := 568) (by decide +kernel) (by decide +kernel)
theorem k_569 : .constant "LongNamesModel" 31 65533 ∈ BIG := bigT (i := 569) (by decide +kernel) (by decide +kernel)
theorem k_570 : .constant "LongNamesModel" 32 55296 ∈ BIG := bigT (i := 570) (by decide +kernel) (by decide +kernel)
theorem k_571 : .constant "LongNamesModel" 33 57343 ∈ BIG := bigT (i := 571) (by decide +kernel) (by decide +kernel)
theorem k_572 : .methodLink "LongNamesModel" 51 ⟨"LongNamesModel", "isShown", "(I)Z"⟩ ∈ BIG := bigT (i := 572) (by decide +kernel) (by decide +kernel)
theorem k_574 : .instanceMethod ⟨"LongNamesModel", "isShown", "(I)Z"⟩ ∈ BIG := bigT (i := 574) (by decide +kernel) (by decide +kernel)
theorem k_575 : .code ⟨"LongNamesModel", "isShown", "(I)Z"⟩ prog_9_method_13_code 5 (some .boolean) ∈ BIG := bigT (i := 575) (by decide +kernel) (by decide +kernel)
theorem k_576 : .methodLink "LongNamesModel" 41 ⟨"LongNamesModel", "pointOf", "(I)I"⟩ ∈ BIG := bigT (i := 576) (by decide +kernel) (by decide +kernel)
theorem k_578 : .instanceMethod ⟨"LongNamesModel", "pointOf", "(I)I"⟩ ∈ BIG := bigT (i := 578) (by decide +kernel) (by decide +kernel)
theorem k_579 : .code ⟨"LongNamesModel", "pointOf", "(I)I"⟩ prog_9_method_12_code 3 (some .int) ∈ BIG := bigT (i := 579) (by decide +kernel) (by decide +kernel)
theorem k_580 : .methodLink "LongNamesModel" 45 ⟨"LongNamesModel", "isSign", "(I)Z"⟩ ∈ BIG := bigT (i := 580) (by decide +kernel) (by decide +kernel)
theorem k_581 : .static ⟨"LongNamesModel", "isSign", "(I)Z"⟩ ∈ BIG := bigT (i := 581) (by decide +kernel) (by decide +kernel)
theorem k_582 : .code ⟨"LongNamesModel", "isSign", "(I)Z"⟩ prog_9_method_11_code 1 (some .boolean) ∈ BIG := bigT (i := 582) (by decide +kernel) (by decide +kernel)
theorem k_583 : .methodLink "LongNamesModel" 54 ⟨"LongNamesModel", "partsOf", "(I)I"⟩ ∈ BIG := bigT (i := 583) (by decide +kernel) (by decide +kernel)
theorem k_584 : .static ⟨"LongNamesModel", "partsOf", "(I)I"⟩ ∈ BIG := bigT (i := 584) (by decide +kernel) (by decide +kernel)
theorem k_585 : .code ⟨"LongNamesModel", "partsOf", "(I)I"⟩ prog_9_method_7_code 1 (some .int) ∈ BIG := bigT (i := 585) (by decide +kernel) (by decide +kernel)
theorem k_586 : .methodLink "LongNamesModel" 57 ⟨"LongNamesModel", "width", "(I)I"⟩ ∈ BIG := bigT (i := 586) (by decide +kernel) (by decide +kernel)
theorem k_587 : .static ⟨"LongNamesModel", "width", "(I)I"⟩ ∈ BIG := bigT (i := 587) (by decide +kernel) (by decide +kernel)
theorem k_588 : .code ⟨"LongNamesModel", "width", "(I)I"⟩ prog_9_method_8_code 1 (some .int) ∈ BIG := bigT (i := 588) (by decide +kernel) (by decide +kernel)
theorem k_589 : .methodLink "LongNamesLaw" 44 ⟨"LongNamesModel", "letter", "(II)I"⟩ ∈ BIG := bigT (i := 589) (by decide +kernel) (by decide +kernel)
theorem k_590 : .instanceMethod ⟨"LongNamesModel", "letter", "(II)I"⟩ ∈ BIG := bigT (i := 590) (by decide +kernel) (by decide +kernel)
theorem k_591 : .selects "LongNamesModel" ⟨"LongNamesModel", "letter", "(II)I"⟩ ⟨"LongNamesModel", "letter", "(II)I"⟩ ∈ BIG := bigT (i := 591) (by decide +kernel) (by decide +kernel)
theorem k_592 : .code ⟨"LongNamesModel", "letter", "(II)I"⟩ prog_9_method_15_code 9 (some .int) ∈ BIG := bigT (i := 592) (by decide +kernel) (by decide +kernel)
theorem k_593 : .methodLink "LongNamesLaw" 49 ⟨"LongNamesModel", "alike", "()Z"⟩ ∈ BIG := bigT (i := 593) (by decide +kernel) (by decide +kernel)
theorem k_594 : .instanceMethod ⟨"LongNamesModel", "alike", "()Z"⟩ ∈ BIG := bigT (i := 594) (by decide +kernel) (by decide +kernel)
theorem k_595 : .selects "LongNamesModel" ⟨"LongNamesModel", "alike", "()Z"⟩ ⟨"LongNamesModel", "alike", "()Z"⟩ ∈ BIG := bigT (i := 595) (by decide +kernel) (by decide +kernel)
theorem k_596 : .code ⟨"LongNamesModel", "alike", "()Z"⟩ prog_9_method_17_code 3 (some .boolean) ∈ BIG := bigT (i := 596) (by decide +kernel) (by decide +kernel)
theorem k_597 : .methodLink "LongNamesModel" 60 ⟨"LongNamesModel", "capital", "(I)I"⟩ ∈ BIG := bigT (i := 597) (by decide +kernel) (by decide +kernel)
theorem k_598 : .static ⟨"LongNamesModel", "capital", "(I)I"⟩ ∈ BIG := bigT (i := 598) (by decide +kernel) (by decide +kernel)
theorem k_599 : .code ⟨"LongNamesModel", "capital", "(I)I"⟩ prog_9_method_16_code 1 (some .int) ∈ BIG := bigT (i := 599) (by decide +kernel) (by decide +kernel)
theorem k_600 : .methodLink "LongNamesLaw" 55 ⟨"LongNamesModel", "write", "(III)I"⟩ ∈ BIG := bigT (i := 600) (by decide +kernel) (by decide +kernel)
theorem k_601 : .instanceMethod ⟨"LongNamesModel", "write", "(III)I"⟩ ∈ BIG := bigT (i := 601) (by decide +kernel) (by decide +kernel)
theorem k_602 : .selects "LongNamesModel" ⟨"LongNamesModel", "write", "(III)I"⟩ ⟨"LongNamesModel", "write", "(III)I"⟩ ∈ BIG := bigT (i := 602) (by decide +kernel) (by decide +kernel)
theorem k_603 : .code ⟨"LongNamesModel", "write", "(III)I"⟩ prog_9_method_23_code 12 (some .int) ∈ BIG := bigT (i := 603) (by decide +kernel) (by decide +kernel)
theorem k_604 : .methodLink "LongNamesModel" 66 ⟨"LongNamesModel", "tailed", "(II)V"⟩ ∈ BIG := bigT (i := 604) (by decide +kernel) (by decide +kernel)
theorem k_606 : .instanceMethod ⟨"LongNamesModel", "tailed", "(II)V"⟩ ∈ BIG := bigT (i := 606) (by decide +kernel) (by decide +kernel)
theorem k_607 : .code ⟨"LongNamesModel", "tailed", "(II)V"⟩ prog_9_method_19_code 12 none ∈ BIG := bigT (i := 607) (by decide +kernel) (by decide +kernel)
theorem k_608 : .methodLink "LongNamesModel" 63 ⟨"LongNamesModel", "folded", "(I)I"⟩ ∈ BIG := bigT (i := 608) (by decide +kernel) (by decide +kernel)
theorem k_609 : .static ⟨"LongNamesModel", "folded", "(I)I"⟩ ∈ BIG := bigT (i := 609) (by decide +kernel) (by decide +kernel)
theorem k_610 : .code ⟨"LongNamesModel", "folded", "(I)I"⟩ prog_9_method_18_code 1 (some .int) ∈ BIG := bigT (i := 610) (by decide +kernel) (by decide +kernel)
theorem k_611 : .methodLink "LongNamesModel" 70 ⟨"LongNamesModel", "sumOf", "(I)I"⟩ ∈ BIG := bigT (i := 611) (by decide +kernel) (by decide +kernel)
theorem k_613 : .instanceMethod ⟨"LongNamesModel", "sumOf", "(I)I"⟩ ∈ BIG := bigT (i := 613) (by decide +kernel) (by decide +kernel)
theorem k_614 : .code ⟨"LongNamesModel", "sumOf", "(I)I"⟩ prog_9_method_20_code 4 (some .int) ∈ BIG := bigT (i := 614) (by decide +kernel) (by decide +kernel)
theorem k_615 : .methodLink "LongNamesModel" 73 ⟨"LongNamesModel", "due", "(IIZI)I"⟩ ∈ BIG := bigT (i := 615) (by decide +kernel) (by decide +kernel)
theorem k_616 : .static ⟨"LongNamesModel", "due", "(IIZI)I"⟩ ∈ BIG := bigT (i := 616) (by decide +kernel) (by decide +kernel)
theorem k_617 : .code ⟨"LongNamesModel", "due", "(IIZI)I"⟩ prog_9_method_22_code 4 (some .int) ∈ BIG := bigT (i := 617) (by decide +kernel) (by decide +kernel)
theorem k_618 : .methodLink "LongNamesModel" 77 ⟨"LongNamesModel", "placeOf", "(I)I"⟩ ∈ BIG := bigT (i := 618) (by decide +kernel) (by decide +kernel)
theorem k_619 : .static ⟨"LongNamesModel", "placeOf", "(I)I"⟩ ∈ BIG := bigT (i := 619) (by decide +kernel) (by decide +kernel)
theorem k_620 : .code ⟨"LongNamesModel", "placeOf", "(I)I"⟩ prog_9_method_21_code 1 (some .int) ∈ BIG := bigT (i := 620) (by decide +kernel) (by decide +kernel)
theorem k_621 : .methodLink "LongNamesLaw" 62 ⟨"LongNamesModel", "read", "(III)I"⟩ ∈ BIG := bigT (i := 621) (by decide +kernel) (by decide +kernel)
theorem k_622 : .instanceMethod ⟨"LongNamesModel", "read", "(III)I"⟩ ∈ BIG := bigT (i := 622) (by decide +kernel) (by decide +kernel)
theorem k_623 : .selects "LongNamesModel" ⟨"LongNamesModel", "read", "(III)I"⟩ ⟨"LongNamesModel", "read", "(III)I"⟩ ∈ BIG := bigT (i := 623) (by decide +kernel) (by decide +kernel)
theorem k_624 : .code ⟨"LongNamesModel", "read", "(III)I"⟩ prog_9_method_28_code 6 (some .int) ∈ BIG := bigT (i := 624) (by decide +kernel) (by decide +kernel)
theorem k_625 : .methodLink "LongNamesModel" 83 ⟨"LongNamesModel", "isShort", "(I)Z"⟩ ∈ BIG := bigT (i := 625) (by decide +kernel) (by decide +kernel)
theorem k_627 : .instanceMethod ⟨"LongNamesModel", "isShort", "(I)Z"⟩ ∈ BIG := bigT (i := 627) (by decide +kernel) (by decide +kernel)
theorem k_628 : .code ⟨"LongNamesModel", "isShort", "(I)Z"⟩ prog_9_method_24_code 4 (some .boolean) ∈ BIG := bigT (i := 628) (by decide +kernel) (by decide +kernel)
theorem k_629 : .methodLink "LongNamesModel" 86 ⟨"LongNamesModel", "readShown", "(II)V"⟩ ∈ BIG := bigT (i := 629) (by decide +kernel) (by decide +kernel)
theorem k_631 : .instanceMethod ⟨"LongNamesModel", "readShown", "(II)V"⟩ ∈ BIG := bigT (i := 631) (by decide +kernel) (by decide +kernel)
theorem k_632 : .code ⟨"LongNamesModel", "readShown", "(II)V"⟩ prog_9_method_26_code 4 none ∈ BIG := bigT (i := 632) (by decide +kernel) (by decide +kernel)
theorem k_633 : .methodLink "LongNamesModel" 80 ⟨"LongNamesModel", "add", "(II)V"⟩ ∈ BIG := bigT (i := 633) (by decide +kernel) (by decide +kernel)
theorem k_635 : .instanceMethod ⟨"LongNamesModel", "add", "(II)V"⟩ ∈ BIG := bigT (i := 635) (by decide +kernel) (by decide +kernel)
theorem k_636 : .code ⟨"LongNamesModel", "add", "(II)V"⟩ prog_9_method_25_code 3 none ∈ BIG := bigT (i := 636) (by decide +kernel) (by decide +kernel)
theorem k_637 : .methodLink "LongNamesModel" 89 ⟨"LongNamesModel", "readParts", "(III)Z"⟩ ∈ BIG := bigT (i := 637) (by decide +kernel) (by decide +kernel)
theorem k_639 : .instanceMethod ⟨"LongNamesModel", "readParts", "(III)Z"⟩ ∈ BIG := bigT (i := 639) (by decide +kernel) (by decide +kernel)
theorem k_640 : .code ⟨"LongNamesModel", "readParts", "(III)Z"⟩ prog_9_method_27_code 10 (some .boolean) ∈ BIG := bigT (i := 640) (by decide +kernel) (by decide +kernel)
theorem k_641 : .methodLink "LongNamesLaw" 67 ⟨"LongNamesModel", "poke", "(III)Z"⟩ ∈ BIG := bigT (i := 641) (by decide +kernel) (by decide +kernel)
theorem k_642 : .instanceMethod ⟨"LongNamesModel", "poke", "(III)Z"⟩ ∈ BIG := bigT (i := 642) (by decide +kernel) (by decide +kernel)
theorem k_643 : .selects "LongNamesModel" ⟨"LongNamesModel", "poke", "(III)Z"⟩ ⟨"LongNamesModel", "poke", "(III)Z"⟩ ∈ BIG := bigT (i := 643) (by decide +kernel) (by decide +kernel)
theorem k_644 : .code ⟨"LongNamesModel", "poke", "(III)Z"⟩ prog_9_method_30_code 4 (some .boolean) ∈ BIG := bigT (i := 644) (by decide +kernel) (by decide +kernel)
theorem k_645 : .methodLink "LongNamesModel" 93 ⟨"LongNamesModel", "isByte", "(II)Z"⟩ ∈ BIG := bigT (i := 645) (by decide +kernel) (by decide +kernel)
theorem k_646 : .static ⟨"LongNamesModel", "isByte", "(II)Z"⟩ ∈ BIG := bigT (i := 646) (by decide +kernel) (by decide +kernel)
theorem k_647 : .code ⟨"LongNamesModel", "isByte", "(II)Z"⟩ prog_9_method_29_code 2 (some .boolean) ∈ BIG := bigT (i := 647) (by decide +kernel) (by decide +kernel)
theorem k_648 : .methodLink "LongNamesLaw" 71 ⟨"LongNamesModel", "byteAt", "(II)I"⟩ ∈ BIG := bigT (i := 648) (by decide +kernel) (by decide +kernel)
theorem k_649 : .instanceMethod ⟨"LongNamesModel", "byteAt", "(II)I"⟩ ∈ BIG := bigT (i := 649) (by decide +kernel) (by decide +kernel)
theorem k_650 : .selects "LongNamesModel" ⟨"LongNamesModel", "byteAt", "(II)I"⟩ ⟨"LongNamesModel", "byteAt", "(II)I"⟩ ∈ BIG := bigT (i := 650) (by decide +kernel) (by decide +kernel)
theorem k_651 : .code ⟨"LongNamesModel", "byteAt", "(II)I"⟩ prog_9_method_31_code 3 (some .int) ∈ BIG := bigT (i := 651) (by decide +kernel) (by decide +kernel)
theorem k_652 : .methodLink "LongNamesLaw" 75 ⟨"LongNamesModel", "sum", "(I)I"⟩ ∈ BIG := bigT (i := 652) (by decide +kernel) (by decide +kernel)
theorem k_653 : .instanceMethod ⟨"LongNamesModel", "sum", "(I)I"⟩ ∈ BIG := bigT (i := 653) (by decide +kernel) (by decide +kernel)
theorem k_654 : .selects "LongNamesModel" ⟨"LongNamesModel", "sum", "(I)I"⟩ ⟨"LongNamesModel", "sum", "(I)I"⟩ ∈ BIG := bigT (i := 654) (by decide +kernel) (by decide +kernel)
theorem k_655 : .code ⟨"LongNamesModel", "sum", "(I)I"⟩ prog_9_method_32_code 2 (some .int) ∈ BIG := bigT (i := 655) (by decide +kernel) (by decide +kernel)
theorem k_656 : .methodLink "LongNamesLaw" 80 ⟨"LongNamesModel", "seconds", "(II)J"⟩ ∈ BIG := bigT (i := 656) (by decide +kernel) (by decide +kernel)
theorem k_657 : .instanceMethod ⟨"LongNamesModel", "seconds", "(II)J"⟩ ∈ BIG := bigT (i := 657) (by decide +kernel) (by decide +kernel)
theorem k_658 : .selects "LongNamesModel" ⟨"LongNamesModel", "seconds", "(II)J"⟩ ⟨"LongNamesModel", "seconds", "(II)J"⟩ ∈ BIG := bigT (i := 658) (by decide +kernel) (by decide +kernel)
theorem k_659 : .code ⟨"LongNamesModel", "seconds", "(II)J"⟩ prog_9_method_35_code 11 (some .long) ∈ BIG := bigT (i := 659) (by decide +kernel) (by decide +kernel)
theorem k_660 : .constantLong "LongNamesModel" 100 (-1) ∈ BIG := bigT (i := 660) (by decide +kernel) (by decide +kernel)
theorem k_661 : .methodLink "LongNamesModel" 102 ⟨"LongNamesModel", "lengthOf", "(II)I"⟩ ∈ BIG := bigT (i := 661) (by decide +kernel) (by decide +kernel)
theorem k_662 : .static ⟨"LongNamesModel", "lengthOf", "(II)I"⟩ ∈ BIG := bigT (i := 662) (by decide +kernel) (by decide +kernel)
theorem k_663 : .code ⟨"LongNamesModel", "lengthOf", "(II)I"⟩ prog_9_method_34_code 2 (some .int) ∈ BIG := bigT (i := 663) (by decide +kernel) (by decide +kernel)
theorem k_664 : .methodLink "LongNamesModel" 97 ⟨"LongNamesModel", "isLeap", "(I)Z"⟩ ∈ BIG := bigT (i := 664) (by decide +kernel) (by decide +kernel)
theorem k_665 : .static ⟨"LongNamesModel", "isLeap", "(I)Z"⟩ ∈ BIG := bigT (i := 665) (by decide +kernel) (by decide +kernel)
theorem k_666 : .code ⟨"LongNamesModel", "isLeap", "(I)Z"⟩ prog_9_method_33_code 1 (some .boolean) ∈ BIG := bigT (i := 666) (by decide +kernel) (by decide +kernel)
theorem k_667 : .constantLong "LongNamesModel" 105 24 ∈ BIG := bigT (i := 667) (by decide +kernel) (by decide +kernel)
theorem k_668 : .constantLong "LongNamesModel" 107 60 ∈ BIG := bigT (i := 668) (by decide +kernel) (by decide +kernel)
theorem k_669 : .arrayClass .long ∈ BIG := bigT (i := 669) (by decide +kernel) (by decide +kernel)
end
section
abbrev b_LN_init : ByteArray := prog_1_method_1_code
abbrev y_LN_init : MethodName := ⟨"LongNames", "<init>", "()V"⟩
abbrev w_LN_init : List Cond := .code y_LN_init b_LN_init 1 none :: BIG
theorem d_LN_init_0 : decode b_LN_init 0 = .ok (.aload_n 0, 1) := by decide +kernel
theorem d_LN_init_1 : decode b_LN_init 1 = .ok (.invokespecial 1, 3) := by decide +kernel
theorem d_LN_init_4 : decode b_LN_init 4 = .ok (.aload_n 0, 1) := by decide +kernel
theorem d_LN_init_5 : decode b_LN_init 5 = .ok (.new 7, 3) := by decide +kernel
theorem d_LN_init_8 : decode b_LN_init 8 = .ok (.dup, 1) := by decide +kernel
theorem d_LN_init_9 : decode b_LN_init 9 = .ok (.invokespecial 9, 3) := by decide +kernel
theorem d_LN_init_12 : decode b_LN_init 12 = .ok (.putfield 10, 3) := by decide +kernel
theorem d_LN_init_15 : decode b_LN_init 15 = .ok (.aload_n 0, 1) := by decide +kernel
theorem d_LN_init_16 : decode b_LN_init 16 = .ok (.new 7, 3) := by decide +kernel
theorem d_LN_init_19 : decode b_LN_init 19 = .ok (.dup, 1) := by decide +kernel
theorem d_LN_init_20 : decode b_LN_init 20 = .ok (.invokespecial 9, 3) := by decide +kernel
theorem d_LN_init_23 : decode b_LN_init 23 = .ok (.putfield 16, 3) := by decide +kernel
theorem d_LN_init_26 : decode b_LN_init 26 = .ok (.aload_n 0, 1) := by decide +kernel
theorem d_LN_init_27 : decode b_LN_init 27 = .ok (.new 19, 3) := by decide +kernel
theorem d_LN_init_30 : decode b_LN_init 30 = .ok (.dup, 1) := by decide +kernel
theorem d_LN_init_31 : decode b_LN_init 31 = .ok (.invokespecial 21, 3) := by decide +kernel
theorem d_LN_init_34 : decode b_LN_init 34 = .ok (.putfield 22, 3) := by decide +kernel
theorem d_LN_init_37 : decode b_LN_init 37 = .ok (.aload_n 0, 1) := by decide +kernel
theorem d_LN_init_38 : decode b_LN_init 38 = .ok (.new 26, 3) := by decide +kernel
theorem d_LN_init_41 : decode b_LN_init 41 = .ok (.dup, 1) := by decide +kernel
theorem d_LN_init_42 : decode b_LN_init 42 = .ok (.invokespecial 28, 3) := by decide +kernel
theorem d_LN_init_45 : decode b_LN_init 45 = .ok (.putfield 29, 3) := by decide +kernel
theorem d_LN_init_48 : decode b_LN_init 48 = .ok (.aload_n 0, 1) := by decide +kernel
theorem d_LN_init_49 : decode b_LN_init 49 = .ok (.new 33, 3) := by decide +kernel
theorem d_LN_init_52 : decode b_LN_init 52 = .ok (.dup, 1) := by decide +kernel
theorem d_LN_init_53 : decode b_LN_init 53 = .ok (.invokespecial 35, 3) := by decide +kernel
theorem d_LN_init_56 : decode b_LN_init 56 = .ok (.putfield 36, 3) := by decide +kernel
theorem d_LN_init_59 : decode b_LN_init 59 = .ok (.return_, 1) := by decide +kernel
abbrev b_LN_unit : ByteArray := prog_1_method_2_code
abbrev y_LN_unit : MethodName := ⟨"LongNames", "unit", "(II)Z"⟩
abbrev w_LN_unit : List Cond := .code y_LN_unit b_LN_unit 4 (some .boolean) :: BIG
theorem d_LN_unit_0 : decode b_LN_unit 0 = .ok (.aload_n 0, 1) := by decide +kernel
theorem d_LN_unit_1 : decode b_LN_unit 1 = .ok (.iload_n 1, 1) := by decide +kernel
theorem d_LN_unit_2 : decode b_LN_unit 2 = .ok (.invokevirtual 40, 3) := by decide +kernel
theorem d_LN_unit_5 : decode b_LN_unit 5 = .ok (.astore_n 3, 1) := by decide +kernel
theorem d_LN_unit_6 : decode b_LN_unit 6 = .ok (.aload_n 3, 1) := by decide +kernel
theorem d_LN_unit_7 : decode b_LN_unit 7 = .ok (.ifnull 13, 3) := by decide +kernel
theorem d_LN_unit_10 : decode b_LN_unit 10 = .ok (.iload_n 2, 1) := by decide +kernel
theorem d_LN_unit_11 : decode b_LN_unit 11 = .ok (.ifCond .lt 9, 3) := by decide +kernel
theorem d_LN_unit_14 : decode b_LN_unit 14 = .ok (.iload_n 2, 1) := by decide +kernel
theorem d_LN_unit_15 : decode b_LN_unit 15 = .ok (.ldc 44, 2) := by decide +kernel
theorem d_LN_unit_17 : decode b_LN_unit 17 = .ok (.if_icmp .le 5, 3) := by decide +kernel
theorem d_LN_unit_20 : decode b_LN_unit 20 = .ok (.iconst 0, 1) := by decide +kernel
theorem d_LN_unit_21 : decode b_LN_unit 21 = .ok (.ireturn, 1) := by decide +kernel
theorem d_LN_unit_22 : decode b_LN_unit 22 = .ok (.aload_n 3, 1) := by decide +kernel
theorem d_LN_unit_23 : decode b_LN_unit 23 = .ok (.iload_n 2, 1) := by decide +kernel
theorem d_LN_unit_24 : decode b_LN_unit 24 = .ok (.invokevirtual 45, 3) := by decide +kernel
theorem d_LN_unit_27 : decode b_LN_unit 27 = .ok (.ireturn, 1) := by decide +kernel
abbrev b_LN_clear : ByteArray := prog_1_method_3_code
abbrev y_LN_clear : MethodName := ⟨"LongNames", "clear", "(I)I"⟩
abbrev w_LN_clear : List Cond := .code y_LN_clear b_LN_clear 4 (some .int) :: BIG
theorem d_LN_clear_0 : decode b_LN_clear 0 = .ok (.aload_n 0, 1) := by decide +kernel
theorem d_LN_clear_1 : decode b_LN_clear 1 = .ok (.iload_n 1, 1) := by decide +kernel
theorem d_LN_clear_2 : decode b_LN_clear 2 = .ok (.invokevirtual 40, 3) := by decide +kernel
theorem d_LN_clear_5 : decode b_LN_clear 5 = .ok (.astore_n 2, 1) := by decide +kernel
theorem d_LN_clear_6 : decode b_LN_clear 6 = .ok (.aload_n 2, 1) := by decide +kernel
theorem d_LN_clear_7 : decode b_LN_clear 7 = .ok (.ifnonnull 5, 3) := by decide +kernel
theorem d_LN_clear_10 : decode b_LN_clear 10 = .ok (.iconst (-1), 1) := by decide +kernel
theorem d_LN_clear_11 : decode b_LN_clear 11 = .ok (.ireturn, 1) := by decide +kernel
theorem d_LN_clear_12 : decode b_LN_clear 12 = .ok (.aload_n 2, 1) := by decide +kernel
theorem d_LN_clear_13 : decode b_LN_clear 13 = .ok (.invokevirtual 49, 3) := by decide +kernel
theorem d_LN_clear_16 : decode b_LN_clear 16 = .ok (.istore_n 3, 1) := by decide +kernel
theorem d_LN_clear_17 : decode b_LN_clear 17 = .ok (.aload_n 2, 1) := by decide +kernel
theorem d_LN_clear_18 : decode b_LN_clear 18 = .ok (.invokevirtual 53, 3) := by decide +kernel
theorem d_LN_clear_21 : decode b_LN_clear 21 = .ok (.iload_n 3, 1) := by decide +kernel
theorem d_LN_clear_22 : decode b_LN_clear 22 = .ok (.ireturn, 1) := by decide +kernel
abbrev b_LN_about : ByteArray := prog_1_method_4_code
abbrev y_LN_about : MethodName := ⟨"LongNames", "about", "(II)I"⟩
abbrev w_LN_about : List Cond := .code y_LN_about b_LN_about 4 (some .int) :: BIG
theorem d_LN_about_0 : decode b_LN_about 0 = .ok (.aload_n 0, 1) := by decide +kernel
theorem d_LN_about_1 : decode b_LN_about 1 = .ok (.iload_n 1, 1) := by decide +kernel
theorem d_LN_about_2 : decode b_LN_about 2 = .ok (.invokevirtual 40, 3) := by decide +kernel
theorem d_LN_about_5 : decode b_LN_about 5 = .ok (.astore_n 3, 1) := by decide +kernel
theorem d_LN_about_6 : decode b_LN_about 6 = .ok (.aload_n 3, 1) := by decide +kernel
theorem d_LN_about_7 : decode b_LN_about 7 = .ok (.ifnonnull 5, 3) := by decide +kernel
theorem d_LN_about_10 : decode b_LN_about 10 = .ok (.iconst (-1), 1) := by decide +kernel
theorem d_LN_about_11 : decode b_LN_about 11 = .ok (.ireturn, 1) := by decide +kernel
theorem d_LN_about_12 : decode b_LN_about 12 = .ok (.iload_n 2, 1) := by decide +kernel
theorem d_LN_about_13 : decode b_LN_about 13 = .ok (.tableswitch 76 0 4 #[35, 40, 53, 66, 71], 35) := by decide +kernel
theorem d_LN_about_48 : decode b_LN_about 48 = .ok (.aload_n 3, 1) := by decide +kernel
theorem d_LN_about_49 : decode b_LN_about 49 = .ok (.invokevirtual 49, 3) := by decide +kernel
theorem d_LN_about_52 : decode b_LN_about 52 = .ok (.ireturn, 1) := by decide +kernel
theorem d_LN_about_53 : decode b_LN_about 53 = .ok (.aload_n 3, 1) := by decide +kernel
theorem d_LN_about_54 : decode b_LN_about 54 = .ok (.invokevirtual 56, 3) := by decide +kernel
theorem d_LN_about_57 : decode b_LN_about 57 = .ok (.ifCond .eq 7, 3) := by decide +kernel
theorem d_LN_about_60 : decode b_LN_about 60 = .ok (.iconst 1, 1) := by decide +kernel
theorem d_LN_about_61 : decode b_LN_about 61 = .ok (.goto 4, 3) := by decide +kernel
theorem d_LN_about_64 : decode b_LN_about 64 = .ok (.iconst 0, 1) := by decide +kernel
theorem d_LN_about_65 : decode b_LN_about 65 = .ok (.ireturn, 1) := by decide +kernel
theorem d_LN_about_66 : decode b_LN_about 66 = .ok (.aload_n 3, 1) := by decide +kernel
theorem d_LN_about_67 : decode b_LN_about 67 = .ok (.invokevirtual 60, 3) := by decide +kernel
theorem d_LN_about_70 : decode b_LN_about 70 = .ok (.ifCond .eq 7, 3) := by decide +kernel
theorem d_LN_about_73 : decode b_LN_about 73 = .ok (.iconst 1, 1) := by decide +kernel
theorem d_LN_about_74 : decode b_LN_about 74 = .ok (.goto 4, 3) := by decide +kernel
theorem d_LN_about_77 : decode b_LN_about 77 = .ok (.iconst 0, 1) := by decide +kernel
theorem d_LN_about_78 : decode b_LN_about 78 = .ok (.ireturn, 1) := by decide +kernel
theorem d_LN_about_79 : decode b_LN_about 79 = .ok (.aload_n 3, 1) := by decide +kernel
theorem d_LN_about_80 : decode b_LN_about 80 = .ok (.invokevirtual 63, 3) := by decide +kernel
theorem d_LN_about_83 : decode b_LN_about 83 = .ok (.ireturn, 1) := by decide +kernel
theorem d_LN_about_84 : decode b_LN_about 84 = .ok (.aload_n 3, 1) := by decide +kernel
theorem d_LN_about_85 : decode b_LN_about 85 = .ok (.invokevirtual 66, 3) := by decide +kernel
theorem d_LN_about_88 : decode b_LN_about 88 = .ok (.ireturn, 1) := by decide +kernel
theorem d_LN_about_89 : decode b_LN_about 89 = .ok (.iconst (-1), 1) := by decide +kernel
theorem d_LN_about_90 : decode b_LN_about 90 = .ok (.ireturn, 1) := by decide +kernel
abbrev b_LN_letter : ByteArray := prog_1_method_5_code
abbrev y_LN_letter : MethodName := ⟨"LongNames", "letter", "(II)I"⟩
abbrev w_LN_letter : List Cond := .code y_LN_letter b_LN_letter 4 (some .int) :: BIG
theorem d_LN_letter_0 : decode b_LN_letter 0 = .ok (.aload_n 0, 1) := by decide +kernel
theorem d_LN_letter_1 : decode b_LN_letter 1 = .ok (.iload_n 1, 1) := by decide +kernel
theorem d_LN_letter_2 : decode b_LN_letter 2 = .ok (.invokevirtual 40, 3) := by decide +kernel
theorem d_LN_letter_5 : decode b_LN_letter 5 = .ok (.astore_n 3, 1) := by decide +kernel
theorem d_LN_letter_6 : decode b_LN_letter 6 = .ok (.aload_n 3, 1) := by decide +kernel
theorem d_LN_letter_7 : decode b_LN_letter 7 = .ok (.ifnonnull 7, 3) := by decide +kernel
theorem d_LN_letter_10 : decode b_LN_letter 10 = .ok (.iconst (-1), 1) := by decide +kernel
theorem d_LN_letter_11 : decode b_LN_letter 11 = .ok (.goto 8, 3) := by decide +kernel
theorem d_LN_letter_14 : decode b_LN_letter 14 = .ok (.aload_n 3, 1) := by decide +kernel
theorem d_LN_letter_15 : decode b_LN_letter 15 = .ok (.iload_n 2, 1) := by decide +kernel
theorem d_LN_letter_16 : decode b_LN_letter 16 = .ok (.invokevirtual 69, 3) := by decide +kernel
theorem d_LN_letter_19 : decode b_LN_letter 19 = .ok (.ireturn, 1) := by decide +kernel
abbrev b_LN_alike : ByteArray := prog_1_method_6_code
abbrev y_LN_alike : MethodName := ⟨"LongNames", "alike", "()Z"⟩
abbrev w_LN_alike : List Cond := .code y_LN_alike b_LN_alike 1 (some .boolean) :: BIG
theorem d_LN_alike_0 : decode b_LN_alike 0 = .ok (.aload_n 0, 1) := by decide +kernel
theorem d_LN_alike_1 : decode b_LN_alike 1 = .ok (.getfield 10, 3) := by decide +kernel
theorem d_LN_alike_4 : decode b_LN_alike 4 = .ok (.aload_n 0, 1) := by decide +kernel
theorem d_LN_alike_5 : decode b_LN_alike 5 = .ok (.getfield 16, 3) := by decide +kernel
theorem d_LN_alike_8 : decode b_LN_alike 8 = .ok (.invokevirtual 73, 3) := by decide +kernel
theorem d_LN_alike_11 : decode b_LN_alike 11 = .ok (.ireturn, 1) := by decide +kernel
abbrev b_LN_write : ByteArray := prog_1_method_7_code
abbrev y_LN_write : MethodName := ⟨"LongNames", "write", "(III)I"⟩
abbrev w_LN_write : List Cond := .code y_LN_write b_LN_write 6 (some .int) :: BIG
theorem d_LN_write_0 : decode b_LN_write 0 = .ok (.aload_n 0, 1) := by decide +kernel
theorem d_LN_write_1 : decode b_LN_write 1 = .ok (.iload_n 1, 1) := by decide +kernel
theorem d_LN_write_2 : decode b_LN_write 2 = .ok (.invokevirtual 40, 3) := by decide +kernel
theorem d_LN_write_5 : decode b_LN_write 5 = .ok (.astore 4, 2) := by decide +kernel
theorem d_LN_write_7 : decode b_LN_write 7 = .ok (.aload 4, 2) := by decide +kernel
theorem d_LN_write_9 : decode b_LN_write 9 = .ok (.ifnull 11, 3) := by decide +kernel
theorem d_LN_write_12 : decode b_LN_write 12 = .ok (.aload 4, 2) := by decide +kernel
theorem d_LN_write_14 : decode b_LN_write 14 = .ok (.invokevirtual 56, 3) := by decide +kernel
theorem d_LN_write_17 : decode b_LN_write 17 = .ok (.ifCond .ne 13, 3) := by decide +kernel
theorem d_LN_write_20 : decode b_LN_write 20 = .ok (.new 77, 3) := by decide +kernel
theorem d_LN_write_23 : decode b_LN_write 23 = .ok (.dup, 1) := by decide +kernel
theorem d_LN_write_24 : decode b_LN_write 24 = .ok (.ldc 79, 2) := by decide +kernel
theorem d_LN_write_26 : decode b_LN_write 26 = .ok (.invokespecial 81, 3) := by decide +kernel
theorem d_LN_write_29 : decode b_LN_write 29 = .ok (.athrow, 1) := by decide +kernel
theorem d_LN_write_30 : decode b_LN_write 30 = .ok (.iload_n 3, 1) := by decide +kernel
theorem d_LN_write_31 : decode b_LN_write 31 = .ok (.ifCond .lt 10, 3) := by decide +kernel
theorem d_LN_write_34 : decode b_LN_write 34 = .ok (.iload_n 3, 1) := by decide +kernel
theorem d_LN_write_35 : decode b_LN_write 35 = .ok (.sipush 9999, 3) := by decide +kernel
theorem d_LN_write_38 : decode b_LN_write 38 = .ok (.if_icmp .le 13, 3) := by decide +kernel
theorem d_LN_write_41 : decode b_LN_write 41 = .ok (.new 77, 3) := by decide +kernel
theorem d_LN_write_44 : decode b_LN_write 44 = .ok (.dup, 1) := by decide +kernel
theorem d_LN_write_45 : decode b_LN_write 45 = .ok (.ldc 84, 2) := by decide +kernel
theorem d_LN_write_47 : decode b_LN_write 47 = .ok (.invokespecial 81, 3) := by decide +kernel
theorem d_LN_write_50 : decode b_LN_write 50 = .ok (.athrow, 1) := by decide +kernel
theorem d_LN_write_51 : decode b_LN_write 51 = .ok (.iload_n 3, 1) := by decide +kernel
theorem d_LN_write_52 : decode b_LN_write 52 = .ok (.ifCond .ne 21, 3) := by decide +kernel
theorem d_LN_write_55 : decode b_LN_write 55 = .ok (.aload 4, 2) := by decide +kernel
theorem d_LN_write_57 : decode b_LN_write 57 = .ok (.invokevirtual 60, 3) := by decide +kernel
theorem d_LN_write_60 : decode b_LN_write 60 = .ok (.ifCond .ne 13, 3) := by decide +kernel
theorem d_LN_write_63 : decode b_LN_write 63 = .ok (.new 77, 3) := by decide +kernel
theorem d_LN_write_66 : decode b_LN_write 66 = .ok (.dup, 1) := by decide +kernel
theorem d_LN_write_67 : decode b_LN_write 67 = .ok (.ldc 86, 2) := by decide +kernel
theorem d_LN_write_69 : decode b_LN_write 69 = .ok (.invokespecial 81, 3) := by decide +kernel
theorem d_LN_write_72 : decode b_LN_write 72 = .ok (.athrow, 1) := by decide +kernel
theorem d_LN_write_73 : decode b_LN_write 73 = .ok (.iload_n 3, 1) := by decide +kernel
theorem d_LN_write_74 : decode b_LN_write 74 = .ok (.ifCond .ne 7, 3) := by decide +kernel
theorem d_LN_write_77 : decode b_LN_write 77 = .ok (.iconst 0, 1) := by decide +kernel
theorem d_LN_write_78 : decode b_LN_write 78 = .ok (.goto 8, 3) := by decide +kernel
theorem d_LN_write_81 : decode b_LN_write 81 = .ok (.aload 4, 2) := by decide +kernel
theorem d_LN_write_83 : decode b_LN_write 83 = .ok (.invokevirtual 63, 3) := by decide +kernel
theorem d_LN_write_86 : decode b_LN_write 86 = .ok (.istore 5, 2) := by decide +kernel
theorem d_LN_write_88 : decode b_LN_write 88 = .ok (.iload_n 2, 1) := by decide +kernel
theorem d_LN_write_89 : decode b_LN_write 89 = .ok (.invokestatic 88, 3) := by decide +kernel
theorem d_LN_write_92 : decode b_LN_write 92 = .ok (.ifCond .eq 13, 3) := by decide +kernel
theorem d_LN_write_95 : decode b_LN_write 95 = .ok (.iload_n 2, 1) := by decide +kernel
theorem d_LN_write_96 : decode b_LN_write 96 = .ok (.iload 5, 2) := by decide +kernel
theorem d_LN_write_98 : decode b_LN_write 98 = .ok (.iadd, 1) := by decide +kernel
theorem d_LN_write_99 : decode b_LN_write 99 = .ok (.invokestatic 88, 3) := by decide +kernel
theorem d_LN_write_102 : decode b_LN_write 102 = .ok (.ifCond .ne 13, 3) := by decide +kernel
theorem d_LN_write_105 : decode b_LN_write 105 = .ok (.new 91, 3) := by decide +kernel
theorem d_LN_write_108 : decode b_LN_write 108 = .ok (.dup, 1) := by decide +kernel
theorem d_LN_write_109 : decode b_LN_write 109 = .ok (.ldc 93, 2) := by decide +kernel
theorem d_LN_write_111 : decode b_LN_write 111 = .ok (.invokespecial 95, 3) := by decide +kernel
theorem d_LN_write_114 : decode b_LN_write 114 = .ok (.athrow, 1) := by decide +kernel
theorem d_LN_write_115 : decode b_LN_write 115 = .ok (.iload_n 3, 1) := by decide +kernel
theorem d_LN_write_116 : decode b_LN_write 116 = .ok (.ifCond .ne 15, 3) := by decide +kernel
theorem d_LN_write_119 : decode b_LN_write 119 = .ok (.aload_n 0, 1) := by decide +kernel
theorem d_LN_write_120 : decode b_LN_write 120 = .ok (.getfield 22, 3) := by decide +kernel
theorem d_LN_write_123 : decode b_LN_write 123 = .ok (.aload 4, 2) := by decide +kernel
theorem d_LN_write_125 : decode b_LN_write 125 = .ok (.invokevirtual 96, 3) := by decide +kernel
theorem d_LN_write_128 : decode b_LN_write 128 = .ok (.goto 13, 3) := by decide +kernel
theorem d_LN_write_131 : decode b_LN_write 131 = .ok (.aload_n 0, 1) := by decide +kernel
theorem d_LN_write_132 : decode b_LN_write 132 = .ok (.getfield 22, 3) := by decide +kernel
theorem d_LN_write_135 : decode b_LN_write 135 = .ok (.aload 4, 2) := by decide +kernel
theorem d_LN_write_137 : decode b_LN_write 137 = .ok (.iload_n 3, 1) := by decide +kernel
theorem d_LN_write_138 : decode b_LN_write 138 = .ok (.invokevirtual 100, 3) := by decide +kernel
theorem d_LN_write_141 : decode b_LN_write 141 = .ok (.aload_n 0, 1) := by decide +kernel
theorem d_LN_write_142 : decode b_LN_write 142 = .ok (.aload 4, 2) := by decide +kernel
theorem d_LN_write_144 : decode b_LN_write 144 = .ok (.iload_n 2, 1) := by decide +kernel
theorem d_LN_write_145 : decode b_LN_write 145 = .ok (.iload 5, 2) := by decide +kernel
theorem d_LN_write_147 : decode b_LN_write 147 = .ok (.iadd, 1) := by decide +kernel
theorem d_LN_write_148 : decode b_LN_write 148 = .ok (.iload 5, 2) := by decide +kernel
theorem d_LN_write_150 : decode b_LN_write 150 = .ok (.invokevirtual 104, 3) := by decide +kernel
theorem d_LN_write_153 : decode b_LN_write 153 = .ok (.iload 5, 2) := by decide +kernel
theorem d_LN_write_155 : decode b_LN_write 155 = .ok (.iconst 1, 1) := by decide +kernel
theorem d_LN_write_156 : decode b_LN_write 156 = .ok (.iadd, 1) := by decide +kernel
theorem d_LN_write_157 : decode b_LN_write 157 = .ok (.ireturn, 1) := by decide +kernel
abbrev b_LN_read : ByteArray := prog_1_method_8_code
abbrev y_LN_read : MethodName := ⟨"LongNames", "read", "(III)I"⟩
abbrev w_LN_read : List Cond := .code y_LN_read b_LN_read 5 (some .int) :: BIG
theorem d_LN_read_0 : decode b_LN_read 0 = .ok (.aload_n 0, 1) := by decide +kernel
theorem d_LN_read_1 : decode b_LN_read 1 = .ok (.iload_n 1, 1) := by decide +kernel
theorem d_LN_read_2 : decode b_LN_read 2 = .ok (.invokevirtual 40, 3) := by decide +kernel
theorem d_LN_read_5 : decode b_LN_read 5 = .ok (.astore 4, 2) := by decide +kernel
theorem d_LN_read_7 : decode b_LN_read 7 = .ok (.aload 4, 2) := by decide +kernel
theorem d_LN_read_9 : decode b_LN_read 9 = .ok (.ifnonnull 13, 3) := by decide +kernel
theorem d_LN_read_12 : decode b_LN_read 12 = .ok (.new 77, 3) := by decide +kernel
theorem d_LN_read_15 : decode b_LN_read 15 = .ok (.dup, 1) := by decide +kernel
theorem d_LN_read_16 : decode b_LN_read 16 = .ok (.ldc 108, 2) := by decide +kernel
theorem d_LN_read_18 : decode b_LN_read 18 = .ok (.invokespecial 81, 3) := by decide +kernel
theorem d_LN_read_21 : decode b_LN_read 21 = .ok (.athrow, 1) := by decide +kernel
theorem d_LN_read_22 : decode b_LN_read 22 = .ok (.aload 4, 2) := by decide +kernel
theorem d_LN_read_24 : decode b_LN_read 24 = .ok (.invokevirtual 53, 3) := by decide +kernel
theorem d_LN_read_27 : decode b_LN_read 27 = .ok (.iload_n 3, 1) := by decide +kernel
theorem d_LN_read_28 : decode b_LN_read 28 = .ok (.ifCond .lt 9, 3) := by decide +kernel
theorem d_LN_read_31 : decode b_LN_read 31 = .ok (.iload_n 3, 1) := by decide +kernel
theorem d_LN_read_32 : decode b_LN_read 32 = .ok (.bipush 20, 2) := by decide +kernel
theorem d_LN_read_34 : decode b_LN_read 34 = .ok (.if_icmp .le 13, 3) := by decide +kernel
theorem d_LN_read_37 : decode b_LN_read 37 = .ok (.new 77, 3) := by decide +kernel
theorem d_LN_read_40 : decode b_LN_read 40 = .ok (.dup, 1) := by decide +kernel
theorem d_LN_read_41 : decode b_LN_read 41 = .ok (.ldc 110, 2) := by decide +kernel
theorem d_LN_read_43 : decode b_LN_read 43 = .ok (.invokespecial 81, 3) := by decide +kernel
theorem d_LN_read_46 : decode b_LN_read 46 = .ok (.athrow, 1) := by decide +kernel
theorem d_LN_read_47 : decode b_LN_read 47 = .ok (.iload_n 2, 1) := by decide +kernel
theorem d_LN_read_48 : decode b_LN_read 48 = .ok (.invokestatic 88, 3) := by decide +kernel
theorem d_LN_read_51 : decode b_LN_read 51 = .ok (.ifCond .eq 8, 3) := by decide +kernel
theorem d_LN_read_54 : decode b_LN_read 54 = .ok (.iload_n 3, 1) := by decide +kernel
theorem d_LN_read_55 : decode b_LN_read 55 = .ok (.iload_n 2, 1) := by decide +kernel
theorem d_LN_read_56 : decode b_LN_read 56 = .ok (.if_icmp .le 13, 3) := by decide +kernel
theorem d_LN_read_59 : decode b_LN_read 59 = .ok (.new 91, 3) := by decide +kernel
theorem d_LN_read_62 : decode b_LN_read 62 = .ok (.dup, 1) := by decide +kernel
theorem d_LN_read_63 : decode b_LN_read 63 = .ok (.ldc 112, 2) := by decide +kernel
theorem d_LN_read_65 : decode b_LN_read 65 = .ok (.invokespecial 95, 3) := by decide +kernel
theorem d_LN_read_68 : decode b_LN_read 68 = .ok (.athrow, 1) := by decide +kernel
theorem d_LN_read_69 : decode b_LN_read 69 = .ok (.aload_n 0, 1) := by decide +kernel
theorem d_LN_read_70 : decode b_LN_read 70 = .ok (.getfield 22, 3) := by decide +kernel
theorem d_LN_read_73 : decode b_LN_read 73 = .ok (.aload_n 0, 1) := by decide +kernel
theorem d_LN_read_74 : decode b_LN_read 74 = .ok (.getfield 36, 3) := by decide +kernel
theorem d_LN_read_77 : decode b_LN_read 77 = .ok (.iload_n 2, 1) := by decide +kernel
theorem d_LN_read_78 : decode b_LN_read 78 = .ok (.invokevirtual 114, 3) := by decide +kernel
theorem d_LN_read_81 : decode b_LN_read 81 = .ok (.aload_n 0, 1) := by decide +kernel
theorem d_LN_read_82 : decode b_LN_read 82 = .ok (.getfield 22, 3) := by decide +kernel
theorem d_LN_read_85 : decode b_LN_read 85 = .ok (.invokevirtual 118, 3) := by decide +kernel
theorem d_LN_read_88 : decode b_LN_read 88 = .ok (.ifCond .ne 13, 3) := by decide +kernel
theorem d_LN_read_91 : decode b_LN_read 91 = .ok (.new 121, 3) := by decide +kernel
theorem d_LN_read_94 : decode b_LN_read 94 = .ok (.dup, 1) := by decide +kernel
theorem d_LN_read_95 : decode b_LN_read 95 = .ok (.ldc 123, 2) := by decide +kernel
theorem d_LN_read_97 : decode b_LN_read 97 = .ok (.invokespecial 125, 3) := by decide +kernel
theorem d_LN_read_100 : decode b_LN_read 100 = .ok (.athrow, 1) := by decide +kernel
theorem d_LN_read_101 : decode b_LN_read 101 = .ok (.iload_n 3, 1) := by decide +kernel
theorem d_LN_read_102 : decode b_LN_read 102 = .ok (.ifCond .ne 15, 3) := by decide +kernel
theorem d_LN_read_105 : decode b_LN_read 105 = .ok (.aload_n 0, 1) := by decide +kernel
theorem d_LN_read_106 : decode b_LN_read 106 = .ok (.getfield 22, 3) := by decide +kernel
theorem d_LN_read_109 : decode b_LN_read 109 = .ok (.aload 4, 2) := by decide +kernel
theorem d_LN_read_111 : decode b_LN_read 111 = .ok (.invokevirtual 126, 3) := by decide +kernel
theorem d_LN_read_114 : decode b_LN_read 114 = .ok (.goto 29, 3) := by decide +kernel
theorem d_LN_read_117 : decode b_LN_read 117 = .ok (.aload_n 0, 1) := by decide +kernel
theorem d_LN_read_118 : decode b_LN_read 118 = .ok (.aload 4, 2) := by decide +kernel
theorem d_LN_read_120 : decode b_LN_read 120 = .ok (.iload_n 2, 1) := by decide +kernel
theorem d_LN_read_121 : decode b_LN_read 121 = .ok (.iload_n 3, 1) := by decide +kernel
theorem d_LN_read_122 : decode b_LN_read 122 = .ok (.invokevirtual 129, 3) := by decide +kernel
theorem d_LN_read_125 : decode b_LN_read 125 = .ok (.ifCond .ne 18, 3) := by decide +kernel
theorem d_LN_read_128 : decode b_LN_read 128 = .ok (.aload 4, 2) := by decide +kernel
theorem d_LN_read_130 : decode b_LN_read 130 = .ok (.invokevirtual 53, 3) := by decide +kernel
theorem d_LN_read_133 : decode b_LN_read 133 = .ok (.new 121, 3) := by decide +kernel
theorem d_LN_read_136 : decode b_LN_read 136 = .ok (.dup, 1) := by decide +kernel
theorem d_LN_read_137 : decode b_LN_read 137 = .ok (.ldc 133, 2) := by decide +kernel
theorem d_LN_read_139 : decode b_LN_read 139 = .ok (.invokespecial 125, 3) := by decide +kernel
theorem d_LN_read_142 : decode b_LN_read 142 = .ok (.athrow, 1) := by decide +kernel
theorem d_LN_read_143 : decode b_LN_read 143 = .ok (.aload 4, 2) := by decide +kernel
theorem d_LN_read_145 : decode b_LN_read 145 = .ok (.invokevirtual 49, 3) := by decide +kernel
theorem d_LN_read_148 : decode b_LN_read 148 = .ok (.ireturn, 1) := by decide +kernel
abbrev b_LN_poke : ByteArray := prog_1_method_9_code
abbrev y_LN_poke : MethodName := ⟨"LongNames", "poke", "(III)Z"⟩
abbrev w_LN_poke : List Cond := .code y_LN_poke b_LN_poke 4 (some .boolean) :: BIG
theorem d_LN_poke_0 : decode b_LN_poke 0 = .ok (.aload_n 0, 1) := by decide +kernel
theorem d_LN_poke_1 : decode b_LN_poke 1 = .ok (.getfield 36, 3) := by decide +kernel
theorem d_LN_poke_4 : decode b_LN_poke 4 = .ok (.iload_n 1, 1) := by decide +kernel
theorem d_LN_poke_5 : decode b_LN_poke 5 = .ok (.iload_n 2, 1) := by decide +kernel
theorem d_LN_poke_6 : decode b_LN_poke 6 = .ok (.iload_n 3, 1) := by decide +kernel
theorem d_LN_poke_7 : decode b_LN_poke 7 = .ok (.invokevirtual 135, 3) := by decide +kernel
theorem d_LN_poke_10 : decode b_LN_poke 10 = .ok (.ireturn, 1) := by decide +kernel
abbrev b_LN_byteAt : ByteArray := prog_1_method_10_code
abbrev y_LN_byteAt : MethodName := ⟨"LongNames", "byteAt", "(II)I"⟩
abbrev w_LN_byteAt : List Cond := .code y_LN_byteAt b_LN_byteAt 3 (some .int) :: BIG
theorem d_LN_byteAt_0 : decode b_LN_byteAt 0 = .ok (.aload_n 0, 1) := by decide +kernel
theorem d_LN_byteAt_1 : decode b_LN_byteAt 1 = .ok (.getfield 36, 3) := by decide +kernel
theorem d_LN_byteAt_4 : decode b_LN_byteAt 4 = .ok (.iload_n 1, 1) := by decide +kernel
theorem d_LN_byteAt_5 : decode b_LN_byteAt 5 = .ok (.iload_n 2, 1) := by decide +kernel
theorem d_LN_byteAt_6 : decode b_LN_byteAt 6 = .ok (.invokevirtual 139, 3) := by decide +kernel
theorem d_LN_byteAt_9 : decode b_LN_byteAt 9 = .ok (.ireturn, 1) := by decide +kernel
abbrev b_LN_sum : ByteArray := prog_1_method_11_code
abbrev y_LN_sum : MethodName := ⟨"LongNames", "sum", "(I)I"⟩
abbrev w_LN_sum : List Cond := .code y_LN_sum b_LN_sum 2 (some .int) :: BIG
theorem d_LN_sum_0 : decode b_LN_sum 0 = .ok (.iload_n 1, 1) := by decide +kernel
theorem d_LN_sum_1 : decode b_LN_sum 1 = .ok (.invokestatic 88, 3) := by decide +kernel
theorem d_LN_sum_4 : decode b_LN_sum 4 = .ok (.ifCond .eq 14, 3) := by decide +kernel
theorem d_LN_sum_7 : decode b_LN_sum 7 = .ok (.aload_n 0, 1) := by decide +kernel
theorem d_LN_sum_8 : decode b_LN_sum 8 = .ok (.getfield 36, 3) := by decide +kernel
theorem d_LN_sum_11 : decode b_LN_sum 11 = .ok (.iload_n 1, 1) := by decide +kernel
theorem d_LN_sum_12 : decode b_LN_sum 12 = .ok (.invokevirtual 143, 3) := by decide +kernel
theorem d_LN_sum_15 : decode b_LN_sum 15 = .ok (.goto 4, 3) := by decide +kernel
theorem d_LN_sum_18 : decode b_LN_sum 18 = .ok (.iconst (-1), 1) := by decide +kernel
theorem d_LN_sum_19 : decode b_LN_sum 19 = .ok (.ireturn, 1) := by decide +kernel
abbrev b_LN_seconds : ByteArray := prog_1_method_12_code
abbrev y_LN_seconds : MethodName := ⟨"LongNames", "seconds", "(II)J"⟩
abbrev w_LN_seconds : List Cond := .code y_LN_seconds b_LN_seconds 3 (some .long) :: BIG
theorem d_LN_seconds_0 : decode b_LN_seconds 0 = .ok (.iload_n 1, 1) := by decide +kernel
theorem d_LN_seconds_1 : decode b_LN_seconds 1 = .ok (.invokestatic 146, 3) := by decide +kernel
theorem d_LN_seconds_4 : decode b_LN_seconds 4 = .ok (.ifCond .eq 10, 3) := by decide +kernel
theorem d_LN_seconds_7 : decode b_LN_seconds 7 = .ok (.iload_n 2, 1) := by decide +kernel
theorem d_LN_seconds_8 : decode b_LN_seconds 8 = .ok (.invokestatic 151, 3) := by decide +kernel
theorem d_LN_seconds_11 : decode b_LN_seconds 11 = .ok (.ifCond .ne 7, 3) := by decide +kernel
theorem d_LN_seconds_14 : decode b_LN_seconds 14 = .ok (.ldc2_w 154, 3) := by decide +kernel
theorem d_LN_seconds_17 : decode b_LN_seconds 17 = .ok (.lreturn, 1) := by decide +kernel
theorem d_LN_seconds_18 : decode b_LN_seconds 18 = .ok (.iload_n 1, 1) := by decide +kernel
theorem d_LN_seconds_19 : decode b_LN_seconds 19 = .ok (.invokestatic 156, 3) := by decide +kernel
theorem d_LN_seconds_22 : decode b_LN_seconds 22 = .ok (.iload_n 2, 1) := by decide +kernel
theorem d_LN_seconds_23 : decode b_LN_seconds 23 = .ok (.invokestatic 160, 3) := by decide +kernel
theorem d_LN_seconds_26 : decode b_LN_seconds 26 = .ok (.ladd, 1) := by decide +kernel
theorem d_LN_seconds_27 : decode b_LN_seconds 27 = .ok (.lreturn, 1) := by decide +kernel
abbrev b_LN_rowOf : ByteArray := prog_1_method_13_code
abbrev y_LN_rowOf : MethodName := ⟨"LongNames", "rowOf", "(I)LLongNames$Row;"⟩
abbrev w_LN_rowOf : List Cond := .code y_LN_rowOf b_LN_rowOf 2 (some (.object "LongNames$Row")) :: BIG
theorem d_LN_rowOf_0 : decode b_LN_rowOf 0 = .ok (.iload_n 1, 1) := by decide +kernel
theorem d_LN_rowOf_1 : decode b_LN_rowOf 1 = .ok (.ifCond .ne 8, 3) := by decide +kernel
theorem d_LN_rowOf_4 : decode b_LN_rowOf 4 = .ok (.aload_n 0, 1) := by decide +kernel
theorem d_LN_rowOf_5 : decode b_LN_rowOf 5 = .ok (.getfield 10, 3) := by decide +kernel
theorem d_LN_rowOf_8 : decode b_LN_rowOf 8 = .ok (.areturn, 1) := by decide +kernel
theorem d_LN_rowOf_9 : decode b_LN_rowOf 9 = .ok (.iload_n 1, 1) := by decide +kernel
theorem d_LN_rowOf_10 : decode b_LN_rowOf 10 = .ok (.iconst 1, 1) := by decide +kernel
theorem d_LN_rowOf_11 : decode b_LN_rowOf 11 = .ok (.if_icmp .ne 10, 3) := by decide +kernel
theorem d_LN_rowOf_14 : decode b_LN_rowOf 14 = .ok (.aload_n 0, 1) := by decide +kernel
theorem d_LN_rowOf_15 : decode b_LN_rowOf 15 = .ok (.getfield 16, 3) := by decide +kernel
theorem d_LN_rowOf_18 : decode b_LN_rowOf 18 = .ok (.goto 4, 3) := by decide +kernel
theorem d_LN_rowOf_21 : decode b_LN_rowOf 21 = .ok (.aconst_null, 1) := by decide +kernel
theorem d_LN_rowOf_22 : decode b_LN_rowOf 22 = .ok (.areturn, 1) := by decide +kernel
abbrev b_LN_writeSlots : ByteArray := prog_1_method_14_code
abbrev y_LN_writeSlots : MethodName := ⟨"LongNames", "writeSlots", "(LLongNames$Row;II)V"⟩
abbrev w_LN_writeSlots : List Cond := .code y_LN_writeSlots b_LN_writeSlots 6 none :: BIG
theorem d_LN_writeSlots_0 : decode b_LN_writeSlots 0 = .ok (.aload_n 0, 1) := by decide +kernel
theorem d_LN_writeSlots_1 : decode b_LN_writeSlots 1 = .ok (.getfield 22, 3) := by decide +kernel
theorem d_LN_writeSlots_4 : decode b_LN_writeSlots 4 = .ok (.aload_n 0, 1) := by decide +kernel
theorem d_LN_writeSlots_5 : decode b_LN_writeSlots 5 = .ok (.getfield 36, 3) := by decide +kernel
theorem d_LN_writeSlots_8 : decode b_LN_writeSlots 8 = .ok (.iload_n 2, 1) := by decide +kernel
theorem d_LN_writeSlots_9 : decode b_LN_writeSlots 9 = .ok (.invokevirtual 163, 3) := by decide +kernel
theorem d_LN_writeSlots_12 : decode b_LN_writeSlots 12 = .ok (.aload_n 0, 1) := by decide +kernel
theorem d_LN_writeSlots_13 : decode b_LN_writeSlots 13 = .ok (.getfield 36, 3) := by decide +kernel
theorem d_LN_writeSlots_16 : decode b_LN_writeSlots 16 = .ok (.iload_n 2, 1) := by decide +kernel
theorem d_LN_writeSlots_17 : decode b_LN_writeSlots 17 = .ok (.invokevirtual 143, 3) := by decide +kernel
theorem d_LN_writeSlots_20 : decode b_LN_writeSlots 20 = .ok (.istore 4, 2) := by decide +kernel
theorem d_LN_writeSlots_22 : decode b_LN_writeSlots 22 = .ok (.iconst 1, 1) := by decide +kernel
theorem d_LN_writeSlots_23 : decode b_LN_writeSlots 23 = .ok (.istore 5, 2) := by decide +kernel
theorem d_LN_writeSlots_25 : decode b_LN_writeSlots 25 = .ok (.iload 5, 2) := by decide +kernel
theorem d_LN_writeSlots_27 : decode b_LN_writeSlots 27 = .ok (.iload_n 3, 1) := by decide +kernel
theorem d_LN_writeSlots_28 : decode b_LN_writeSlots 28 = .ok (.if_icmp .gt 36, 3) := by decide +kernel
theorem d_LN_writeSlots_31 : decode b_LN_writeSlots 31 = .ok (.aload_n 0, 1) := by decide +kernel
theorem d_LN_writeSlots_32 : decode b_LN_writeSlots 32 = .ok (.getfield 29, 3) := by decide +kernel
theorem d_LN_writeSlots_35 : decode b_LN_writeSlots 35 = .ok (.aload_n 1, 1) := by decide +kernel
theorem d_LN_writeSlots_36 : decode b_LN_writeSlots 36 = .ok (.iload 5, 2) := by decide +kernel
theorem d_LN_writeSlots_38 : decode b_LN_writeSlots 38 = .ok (.iload 4, 2) := by decide +kernel
theorem d_LN_writeSlots_40 : decode b_LN_writeSlots 40 = .ok (.invokevirtual 166, 3) := by decide +kernel
theorem d_LN_writeSlots_43 : decode b_LN_writeSlots 43 = .ok (.aload_n 0, 1) := by decide +kernel
theorem d_LN_writeSlots_44 : decode b_LN_writeSlots 44 = .ok (.getfield 29, 3) := by decide +kernel
theorem d_LN_writeSlots_47 : decode b_LN_writeSlots 47 = .ok (.aload_n 0, 1) := by decide +kernel
theorem d_LN_writeSlots_48 : decode b_LN_writeSlots 48 = .ok (.getfield 36, 3) := by decide +kernel
theorem d_LN_writeSlots_51 : decode b_LN_writeSlots 51 = .ok (.iload_n 2, 1) := by decide +kernel
theorem d_LN_writeSlots_52 : decode b_LN_writeSlots 52 = .ok (.iload 5, 2) := by decide +kernel
theorem d_LN_writeSlots_54 : decode b_LN_writeSlots 54 = .ok (.isub, 1) := by decide +kernel
theorem d_LN_writeSlots_55 : decode b_LN_writeSlots 55 = .ok (.invokevirtual 169, 3) := by decide +kernel
theorem d_LN_writeSlots_58 : decode b_LN_writeSlots 58 = .ok (.iinc 5 1, 3) := by decide +kernel
theorem d_LN_writeSlots_61 : decode b_LN_writeSlots 61 = .ok (.goto (-36), 3) := by decide +kernel
theorem d_LN_writeSlots_64 : decode b_LN_writeSlots 64 = .ok (.return_, 1) := by decide +kernel
abbrev b_LN_readParts : ByteArray := prog_1_method_15_code
abbrev y_LN_readParts : MethodName := ⟨"LongNames", "readParts", "(LLongNames$Row;II)Z"⟩
abbrev w_LN_readParts : List Cond := .code y_LN_readParts b_LN_readParts 6 (some .boolean) :: BIG
theorem d_LN_readParts_0 : decode b_LN_readParts 0 = .ok (.aload_n 0, 1) := by decide +kernel
theorem d_LN_readParts_1 : decode b_LN_readParts 1 = .ok (.aload_n 1, 1) := by decide +kernel
theorem d_LN_readParts_2 : decode b_LN_readParts 2 = .ok (.iload_n 2, 1) := by decide +kernel
theorem d_LN_readParts_3 : decode b_LN_readParts 3 = .ok (.iload_n 3, 1) := by decide +kernel
theorem d_LN_readParts_4 : decode b_LN_readParts 4 = .ok (.invokevirtual 172, 3) := by decide +kernel
theorem d_LN_readParts_7 : decode b_LN_readParts 7 = .ok (.aload_n 1, 1) := by decide +kernel
theorem d_LN_readParts_8 : decode b_LN_readParts 8 = .ok (.invokevirtual 56, 3) := by decide +kernel
theorem d_LN_readParts_11 : decode b_LN_readParts 11 = .ok (.ifCond .eq 11, 3) := by decide +kernel
theorem d_LN_readParts_14 : decode b_LN_readParts 14 = .ok (.aload_n 1, 1) := by decide +kernel
theorem d_LN_readParts_15 : decode b_LN_readParts 15 = .ok (.invokevirtual 63, 3) := by decide +kernel
theorem d_LN_readParts_18 : decode b_LN_readParts 18 = .ok (.iload_n 3, 1) := by decide +kernel
theorem d_LN_readParts_19 : decode b_LN_readParts 19 = .ok (.if_icmp .eq 5, 3) := by decide +kernel
theorem d_LN_readParts_22 : decode b_LN_readParts 22 = .ok (.iconst 0, 1) := by decide +kernel
theorem d_LN_readParts_23 : decode b_LN_readParts 23 = .ok (.ireturn, 1) := by decide +kernel
theorem d_LN_readParts_24 : decode b_LN_readParts 24 = .ok (.aload_n 0, 1) := by decide +kernel
theorem d_LN_readParts_25 : decode b_LN_readParts 25 = .ok (.getfield 36, 3) := by decide +kernel
theorem d_LN_readParts_28 : decode b_LN_readParts 28 = .ok (.iload_n 2, 1) := by decide +kernel
theorem d_LN_readParts_29 : decode b_LN_readParts 29 = .ok (.invokevirtual 143, 3) := by decide +kernel
theorem d_LN_readParts_32 : decode b_LN_readParts 32 = .ok (.istore 4, 2) := by decide +kernel
theorem d_LN_readParts_34 : decode b_LN_readParts 34 = .ok (.iconst 1, 1) := by decide +kernel
theorem d_LN_readParts_35 : decode b_LN_readParts 35 = .ok (.istore 5, 2) := by decide +kernel
theorem d_LN_readParts_37 : decode b_LN_readParts 37 = .ok (.iload 5, 2) := by decide +kernel
theorem d_LN_readParts_39 : decode b_LN_readParts 39 = .ok (.iload_n 3, 1) := by decide +kernel
theorem d_LN_readParts_40 : decode b_LN_readParts 40 = .ok (.if_icmp .gt 41, 3) := by decide +kernel
theorem d_LN_readParts_43 : decode b_LN_readParts 43 = .ok (.aload_n 0, 1) := by decide +kernel
theorem d_LN_readParts_44 : decode b_LN_readParts 44 = .ok (.getfield 29, 3) := by decide +kernel
theorem d_LN_readParts_47 : decode b_LN_readParts 47 = .ok (.aload_n 1, 1) := by decide +kernel
theorem d_LN_readParts_48 : decode b_LN_readParts 48 = .ok (.iload 5, 2) := by decide +kernel
theorem d_LN_readParts_50 : decode b_LN_readParts 50 = .ok (.iload 4, 2) := by decide +kernel
theorem d_LN_readParts_52 : decode b_LN_readParts 52 = .ok (.invokevirtual 166, 3) := by decide +kernel
theorem d_LN_readParts_55 : decode b_LN_readParts 55 = .ok (.aload_n 0, 1) := by decide +kernel
theorem d_LN_readParts_56 : decode b_LN_readParts 56 = .ok (.getfield 29, 3) := by decide +kernel
theorem d_LN_readParts_59 : decode b_LN_readParts 59 = .ok (.aload_n 0, 1) := by decide +kernel
theorem d_LN_readParts_60 : decode b_LN_readParts 60 = .ok (.getfield 36, 3) := by decide +kernel
theorem d_LN_readParts_63 : decode b_LN_readParts 63 = .ok (.iload_n 2, 1) := by decide +kernel
theorem d_LN_readParts_64 : decode b_LN_readParts 64 = .ok (.iload 5, 2) := by decide +kernel
theorem d_LN_readParts_66 : decode b_LN_readParts 66 = .ok (.isub, 1) := by decide +kernel
theorem d_LN_readParts_67 : decode b_LN_readParts 67 = .ok (.invokevirtual 175, 3) := by decide +kernel
theorem d_LN_readParts_70 : decode b_LN_readParts 70 = .ok (.ifCond .ne 5, 3) := by decide +kernel
theorem d_LN_readParts_73 : decode b_LN_readParts 73 = .ok (.iconst 0, 1) := by decide +kernel
theorem d_LN_readParts_74 : decode b_LN_readParts 74 = .ok (.ireturn, 1) := by decide +kernel
theorem d_LN_readParts_75 : decode b_LN_readParts 75 = .ok (.iinc 5 1, 3) := by decide +kernel
theorem d_LN_readParts_78 : decode b_LN_readParts 78 = .ok (.goto (-41), 3) := by decide +kernel
theorem d_LN_readParts_81 : decode b_LN_readParts 81 = .ok (.iconst 1, 1) := by decide +kernel
theorem d_LN_readParts_82 : decode b_LN_readParts 82 = .ok (.ireturn, 1) := by decide +kernel
abbrev b_LN_collectUnits : ByteArray := prog_1_method_16_code
abbrev y_LN_collectUnits : MethodName := ⟨"LongNames", "collectUnits", "(LLongNames$Row;II)V"⟩
abbrev w_LN_collectUnits : List Cond := .code y_LN_collectUnits b_LN_collectUnits 7 none :: BIG
theorem d_LN_collectUnits_0 : decode b_LN_collectUnits 0 = .ok (.iconst 1, 1) := by decide +kernel
theorem d_LN_collectUnits_1 : decode b_LN_collectUnits 1 = .ok (.istore 4, 2) := by decide +kernel
theorem d_LN_collectUnits_3 : decode b_LN_collectUnits 3 = .ok (.iload 4, 2) := by decide +kernel
theorem d_LN_collectUnits_5 : decode b_LN_collectUnits 5 = .ok (.iload_n 3, 1) := by decide +kernel
theorem d_LN_collectUnits_6 : decode b_LN_collectUnits 6 = .ok (.if_icmp .gt 55, 3) := by decide +kernel
theorem d_LN_collectUnits_9 : decode b_LN_collectUnits 9 = .ok (.iconst 0, 1) := by decide +kernel
theorem d_LN_collectUnits_10 : decode b_LN_collectUnits 10 = .ok (.istore 5, 2) := by decide +kernel
theorem d_LN_collectUnits_12 : decode b_LN_collectUnits 12 = .ok (.iload 5, 2) := by decide +kernel
theorem d_LN_collectUnits_14 : decode b_LN_collectUnits 14 = .ok (.bipush 13, 2) := by decide +kernel
theorem d_LN_collectUnits_16 : decode b_LN_collectUnits 16 = .ok (.if_icmp .ge 39, 3) := by decide +kernel
theorem d_LN_collectUnits_19 : decode b_LN_collectUnits 19 = .ok (.aload_n 0, 1) := by decide +kernel
theorem d_LN_collectUnits_20 : decode b_LN_collectUnits 20 = .ok (.getfield 36, 3) := by decide +kernel
theorem d_LN_collectUnits_23 : decode b_LN_collectUnits 23 = .ok (.iload_n 2, 1) := by decide +kernel
theorem d_LN_collectUnits_24 : decode b_LN_collectUnits 24 = .ok (.iload 4, 2) := by decide +kernel
theorem d_LN_collectUnits_26 : decode b_LN_collectUnits 26 = .ok (.isub, 1) := by decide +kernel
theorem d_LN_collectUnits_27 : decode b_LN_collectUnits 27 = .ok (.iload 5, 2) := by decide +kernel
theorem d_LN_collectUnits_29 : decode b_LN_collectUnits 29 = .ok (.invokestatic 179, 3) := by decide +kernel
theorem d_LN_collectUnits_32 : decode b_LN_collectUnits 32 = .ok (.istore 6, 2) := by decide +kernel
theorem d_LN_collectUnits_34 : decode b_LN_collectUnits 34 = .ok (.iload 6, 2) := by decide +kernel
theorem d_LN_collectUnits_36 : decode b_LN_collectUnits 36 = .ok (.ifCond .le 12, 3) := by decide +kernel
theorem d_LN_collectUnits_39 : decode b_LN_collectUnits 39 = .ok (.aload_n 1, 1) := by decide +kernel
theorem d_LN_collectUnits_40 : decode b_LN_collectUnits 40 = .ok (.iload 6, 2) := by decide +kernel
theorem d_LN_collectUnits_42 : decode b_LN_collectUnits 42 = .ok (.invokevirtual 45, 3) := by decide +kernel
theorem d_LN_collectUnits_45 : decode b_LN_collectUnits 45 = .ok (.ifCond .ne 4, 3) := by decide +kernel
theorem d_LN_collectUnits_48 : decode b_LN_collectUnits 48 = .ok (.return_, 1) := by decide +kernel
theorem d_LN_collectUnits_49 : decode b_LN_collectUnits 49 = .ok (.iinc 5 1, 3) := by decide +kernel
theorem d_LN_collectUnits_52 : decode b_LN_collectUnits 52 = .ok (.goto (-40), 3) := by decide +kernel
theorem d_LN_collectUnits_55 : decode b_LN_collectUnits 55 = .ok (.iinc 4 1, 3) := by decide +kernel
theorem d_LN_collectUnits_58 : decode b_LN_collectUnits 58 = .ok (.goto (-55), 3) := by decide +kernel
theorem d_LN_collectUnits_61 : decode b_LN_collectUnits 61 = .ok (.return_, 1) := by decide +kernel
abbrev b_Ro_init : ByteArray := prog_4_method_1_code
abbrev y_Ro_init : MethodName := ⟨"LongNames$Row", "<init>", "()V"⟩
abbrev w_Ro_init : List Cond := .code y_Ro_init b_Ro_init 1 none :: BIG
theorem d_Ro_init_0 : decode b_Ro_init 0 = .ok (.aload_n 0, 1) := by decide +kernel
theorem d_Ro_init_1 : decode b_Ro_init 1 = .ok (.invokespecial 3, 3) := by decide +kernel
theorem d_Ro_init_4 : decode b_Ro_init 4 = .ok (.aload_n 0, 1) := by decide +kernel
theorem d_Ro_init_5 : decode b_Ro_init 5 = .ok (.sipush 255, 3) := by decide +kernel
theorem d_Ro_init_8 : decode b_Ro_init 8 = .ok (.newarray .int, 2) := by decide +kernel
theorem d_Ro_init_10 : decode b_Ro_init 10 = .ok (.putfield 11, 3) := by decide +kernel
theorem d_Ro_init_13 : decode b_Ro_init 13 = .ok (.return_, 1) := by decide +kernel
abbrev b_Ro_size : ByteArray := prog_4_method_2_code
abbrev y_Ro_size : MethodName := ⟨"LongNames$Row", "size", "()I"⟩
abbrev w_Ro_size : List Cond := .code y_Ro_size b_Ro_size 1 (some .int) :: BIG
theorem d_Ro_size_0 : decode b_Ro_size 0 = .ok (.aload_n 0, 1) := by decide +kernel
theorem d_Ro_size_1 : decode b_Ro_size 1 = .ok (.getfield 15, 3) := by decide +kernel
theorem d_Ro_size_4 : decode b_Ro_size 4 = .ok (.ireturn, 1) := by decide +kernel
abbrev b_Ro_makeEmpty : ByteArray := prog_4_method_3_code
abbrev y_Ro_makeEmpty : MethodName := ⟨"LongNames$Row", "makeEmpty", "()V"⟩
abbrev w_Ro_makeEmpty : List Cond := .code y_Ro_makeEmpty b_Ro_makeEmpty 1 none :: BIG
theorem d_Ro_makeEmpty_0 : decode b_Ro_makeEmpty 0 = .ok (.aload_n 0, 1) := by decide +kernel
theorem d_Ro_makeEmpty_1 : decode b_Ro_makeEmpty 1 = .ok (.iconst 0, 1) := by decide +kernel
theorem d_Ro_makeEmpty_2 : decode b_Ro_makeEmpty 2 = .ok (.putfield 15, 3) := by decide +kernel
theorem d_Ro_makeEmpty_5 : decode b_Ro_makeEmpty 5 = .ok (.return_, 1) := by decide +kernel
abbrev b_Ro_append : ByteArray := prog_4_method_4_code
abbrev y_Ro_append : MethodName := ⟨"LongNames$Row", "append", "(I)Z"⟩
abbrev w_Ro_append : List Cond := .code y_Ro_append b_Ro_append 2 (some .boolean) :: BIG
theorem d_Ro_append_0 : decode b_Ro_append 0 = .ok (.aload_n 0, 1) := by decide +kernel
theorem d_Ro_append_1 : decode b_Ro_append 1 = .ok (.getfield 15, 3) := by decide +kernel
theorem d_Ro_append_4 : decode b_Ro_append 4 = .ok (.ifCond .lt 13, 3) := by decide +kernel
theorem d_Ro_append_7 : decode b_Ro_append 7 = .ok (.aload_n 0, 1) := by decide +kernel
theorem d_Ro_append_8 : decode b_Ro_append 8 = .ok (.getfield 15, 3) := by decide +kernel
theorem d_Ro_append_11 : decode b_Ro_append 11 = .ok (.sipush 255, 3) := by decide +kernel
theorem d_Ro_append_14 : decode b_Ro_append 14 = .ok (.if_icmp .lt 5, 3) := by decide +kernel
theorem d_Ro_append_17 : decode b_Ro_append 17 = .ok (.iconst 0, 1) := by decide +kernel
theorem d_Ro_append_18 : decode b_Ro_append 18 = .ok (.ireturn, 1) := by decide +kernel
theorem d_Ro_append_19 : decode b_Ro_append 19 = .ok (.aload_n 0, 1) := by decide +kernel
theorem d_Ro_append_20 : decode b_Ro_append 20 = .ok (.getfield 11, 3) := by decide +kernel
theorem d_Ro_append_23 : decode b_Ro_append 23 = .ok (.aload_n 0, 1) := by decide +kernel
theorem d_Ro_append_24 : decode b_Ro_append 24 = .ok (.getfield 15, 3) := by decide +kernel
theorem d_Ro_append_27 : decode b_Ro_append 27 = .ok (.iload_n 1, 1) := by decide +kernel
theorem d_Ro_append_28 : decode b_Ro_append 28 = .ok (.iastore, 1) := by decide +kernel
theorem d_Ro_append_29 : decode b_Ro_append 29 = .ok (.aload_n 0, 1) := by decide +kernel
theorem d_Ro_append_30 : decode b_Ro_append 30 = .ok (.dup, 1) := by decide +kernel
theorem d_Ro_append_31 : decode b_Ro_append 31 = .ok (.getfield 15, 3) := by decide +kernel
theorem d_Ro_append_34 : decode b_Ro_append 34 = .ok (.iconst 1, 1) := by decide +kernel
theorem d_Ro_append_35 : decode b_Ro_append 35 = .ok (.iadd, 1) := by decide +kernel
theorem d_Ro_append_36 : decode b_Ro_append 36 = .ok (.putfield 15, 3) := by decide +kernel
theorem d_Ro_append_39 : decode b_Ro_append 39 = .ok (.iconst 1, 1) := by decide +kernel
theorem d_Ro_append_40 : decode b_Ro_append 40 = .ok (.ireturn, 1) := by decide +kernel
abbrev b_Ro_get : ByteArray := prog_4_method_5_code
abbrev y_Ro_get : MethodName := ⟨"LongNames$Row", "get", "(I)I"⟩
abbrev w_Ro_get : List Cond := .code y_Ro_get b_Ro_get 2 (some .int) :: BIG
theorem d_Ro_get_0 : decode b_Ro_get 0 = .ok (.iload_n 1, 1) := by decide +kernel
theorem d_Ro_get_1 : decode b_Ro_get 1 = .ok (.ifCond .lt 27, 3) := by decide +kernel
theorem d_Ro_get_4 : decode b_Ro_get 4 = .ok (.iload_n 1, 1) := by decide +kernel
theorem d_Ro_get_5 : decode b_Ro_get 5 = .ok (.aload_n 0, 1) := by decide +kernel
theorem d_Ro_get_6 : decode b_Ro_get 6 = .ok (.getfield 15, 3) := by decide +kernel
theorem d_Ro_get_9 : decode b_Ro_get 9 = .ok (.if_icmp .ge 19, 3) := by decide +kernel
theorem d_Ro_get_12 : decode b_Ro_get 12 = .ok (.iload_n 1, 1) := by decide +kernel
theorem d_Ro_get_13 : decode b_Ro_get 13 = .ok (.sipush 255, 3) := by decide +kernel
theorem d_Ro_get_16 : decode b_Ro_get 16 = .ok (.if_icmp .ge 12, 3) := by decide +kernel
theorem d_Ro_get_19 : decode b_Ro_get 19 = .ok (.aload_n 0, 1) := by decide +kernel
theorem d_Ro_get_20 : decode b_Ro_get 20 = .ok (.getfield 11, 3) := by decide +kernel
theorem d_Ro_get_23 : decode b_Ro_get 23 = .ok (.iload_n 1, 1) := by decide +kernel
theorem d_Ro_get_24 : decode b_Ro_get 24 = .ok (.iaload, 1) := by decide +kernel
theorem d_Ro_get_25 : decode b_Ro_get 25 = .ok (.goto 4, 3) := by decide +kernel
theorem d_Ro_get_28 : decode b_Ro_get 28 = .ok (.iconst (-1), 1) := by decide +kernel
theorem d_Ro_get_29 : decode b_Ro_get 29 = .ok (.ireturn, 1) := by decide +kernel
abbrev b_Ro_isName : ByteArray := prog_4_method_6_code
abbrev y_Ro_isName : MethodName := ⟨"LongNames$Row", "isName", "()Z"⟩
abbrev w_Ro_isName : List Cond := .code y_Ro_isName b_Ro_isName 2 (some .boolean) :: BIG
theorem d_Ro_isName_0 : decode b_Ro_isName 0 = .ok (.iconst 0, 1) := by decide +kernel
theorem d_Ro_isName_1 : decode b_Ro_isName 1 = .ok (.istore_n 1, 1) := by decide +kernel
theorem d_Ro_isName_2 : decode b_Ro_isName 2 = .ok (.iload_n 1, 1) := by decide +kernel
theorem d_Ro_isName_3 : decode b_Ro_isName 3 = .ok (.aload_n 0, 1) := by decide +kernel
theorem d_Ro_isName_4 : decode b_Ro_isName 4 = .ok (.getfield 15, 3) := by decide +kernel
theorem d_Ro_isName_7 : decode b_Ro_isName 7 = .ok (.if_icmp .ge 22, 3) := by decide +kernel
theorem d_Ro_isName_10 : decode b_Ro_isName 10 = .ok (.aload_n 0, 1) := by decide +kernel
theorem d_Ro_isName_11 : decode b_Ro_isName 11 = .ok (.iload_n 1, 1) := by decide +kernel
theorem d_Ro_isName_12 : decode b_Ro_isName 12 = .ok (.invokevirtual 19, 3) := by decide +kernel
theorem d_Ro_isName_15 : decode b_Ro_isName 15 = .ok (.invokestatic 23, 3) := by decide +kernel
theorem d_Ro_isName_18 : decode b_Ro_isName 18 = .ok (.ifCond .ne 5, 3) := by decide +kernel
theorem d_Ro_isName_21 : decode b_Ro_isName 21 = .ok (.iconst 0, 1) := by decide +kernel
theorem d_Ro_isName_22 : decode b_Ro_isName 22 = .ok (.ireturn, 1) := by decide +kernel
theorem d_Ro_isName_23 : decode b_Ro_isName 23 = .ok (.iinc 1 1, 3) := by decide +kernel
theorem d_Ro_isName_26 : decode b_Ro_isName 26 = .ok (.goto (-24), 3) := by decide +kernel
theorem d_Ro_isName_29 : decode b_Ro_isName 29 = .ok (.aload_n 0, 1) := by decide +kernel
theorem d_Ro_isName_30 : decode b_Ro_isName 30 = .ok (.aload_n 0, 1) := by decide +kernel
theorem d_Ro_isName_31 : decode b_Ro_isName 31 = .ok (.getfield 15, 3) := by decide +kernel
theorem d_Ro_isName_34 : decode b_Ro_isName 34 = .ok (.iconst 1, 1) := by decide +kernel
theorem d_Ro_isName_35 : decode b_Ro_isName 35 = .ok (.isub, 1) := by decide +kernel
theorem d_Ro_isName_36 : decode b_Ro_isName 36 = .ok (.invokevirtual 19, 3) := by decide +kernel
theorem d_Ro_isName_39 : decode b_Ro_isName 39 = .ok (.istore_n 1, 1) := by decide +kernel
theorem d_Ro_isName_40 : decode b_Ro_isName 40 = .ok (.aload_n 0, 1) := by decide +kernel
theorem d_Ro_isName_41 : decode b_Ro_isName 41 = .ok (.getfield 15, 3) := by decide +kernel
theorem d_Ro_isName_44 : decode b_Ro_isName 44 = .ok (.ifCond .le 19, 3) := by decide +kernel
theorem d_Ro_isName_47 : decode b_Ro_isName 47 = .ok (.iload_n 1, 1) := by decide +kernel
theorem d_Ro_isName_48 : decode b_Ro_isName 48 = .ok (.bipush 32, 2) := by decide +kernel
theorem d_Ro_isName_50 : decode b_Ro_isName 50 = .ok (.if_icmp .eq 13, 3) := by decide +kernel
theorem d_Ro_isName_53 : decode b_Ro_isName 53 = .ok (.iload_n 1, 1) := by decide +kernel
theorem d_Ro_isName_54 : decode b_Ro_isName 54 = .ok (.bipush 46, 2) := by decide +kernel
theorem d_Ro_isName_56 : decode b_Ro_isName 56 = .ok (.if_icmp .eq 7, 3) := by decide +kernel
theorem d_Ro_isName_59 : decode b_Ro_isName 59 = .ok (.iconst 1, 1) := by decide +kernel
theorem d_Ro_isName_60 : decode b_Ro_isName 60 = .ok (.goto 4, 3) := by decide +kernel
theorem d_Ro_isName_63 : decode b_Ro_isName 63 = .ok (.iconst 0, 1) := by decide +kernel
theorem d_Ro_isName_64 : decode b_Ro_isName 64 = .ok (.ireturn, 1) := by decide +kernel
abbrev b_Ro_isShortAsShown : ByteArray := prog_4_method_7_code
abbrev y_Ro_isShortAsShown : MethodName := ⟨"LongNames$Row", "isShortAsShown", "()Z"⟩
abbrev w_Ro_isShortAsShown : List Cond := .code y_Ro_isShortAsShown b_Ro_isShortAsShown 5 (some .boolean) :: BIG
theorem d_Ro_isShortAsShown_0 : decode b_Ro_isShortAsShown 0 = .ok (.aload_n 0, 1) := by decide +kernel
theorem d_Ro_isShortAsShown_1 : decode b_Ro_isShortAsShown 1 = .ok (.invokevirtual 29, 3) := by decide +kernel
theorem d_Ro_isShortAsShown_4 : decode b_Ro_isShortAsShown 4 = .ok (.istore_n 1, 1) := by decide +kernel
theorem d_Ro_isShortAsShown_5 : decode b_Ro_isShortAsShown 5 = .ok (.iload_n 1, 1) := by decide +kernel
theorem d_Ro_isShortAsShown_6 : decode b_Ro_isShortAsShown 6 = .ok (.iconst (-1), 1) := by decide +kernel
theorem d_Ro_isShortAsShown_7 : decode b_Ro_isShortAsShown 7 = .ok (.if_icmp .ne 10, 3) := by decide +kernel
theorem d_Ro_isShortAsShown_10 : decode b_Ro_isShortAsShown 10 = .ok (.aload_n 0, 1) := by decide +kernel
theorem d_Ro_isShortAsShown_11 : decode b_Ro_isShortAsShown 11 = .ok (.getfield 15, 3) := by decide +kernel
theorem d_Ro_isShortAsShown_14 : decode b_Ro_isShortAsShown 14 = .ok (.goto 4, 3) := by decide +kernel
theorem d_Ro_isShortAsShown_17 : decode b_Ro_isShortAsShown 17 = .ok (.iload_n 1, 1) := by decide +kernel
theorem d_Ro_isShortAsShown_18 : decode b_Ro_isShortAsShown 18 = .ok (.istore_n 2, 1) := by decide +kernel
theorem d_Ro_isShortAsShown_19 : decode b_Ro_isShortAsShown 19 = .ok (.aload_n 0, 1) := by decide +kernel
theorem d_Ro_isShortAsShown_20 : decode b_Ro_isShortAsShown 20 = .ok (.getfield 15, 3) := by decide +kernel
theorem d_Ro_isShortAsShown_23 : decode b_Ro_isShortAsShown 23 = .ok (.iload_n 2, 1) := by decide +kernel
theorem d_Ro_isShortAsShown_24 : decode b_Ro_isShortAsShown 24 = .ok (.isub, 1) := by decide +kernel
theorem d_Ro_isShortAsShown_25 : decode b_Ro_isShortAsShown 25 = .ok (.iconst 1, 1) := by decide +kernel
theorem d_Ro_isShortAsShown_26 : decode b_Ro_isShortAsShown 26 = .ok (.isub, 1) := by decide +kernel
theorem d_Ro_isShortAsShown_27 : decode b_Ro_isShortAsShown 27 = .ok (.istore_n 3, 1) := by decide +kernel
theorem d_Ro_isShortAsShown_28 : decode b_Ro_isShortAsShown 28 = .ok (.iload_n 2, 1) := by decide +kernel
theorem d_Ro_isShortAsShown_29 : decode b_Ro_isShortAsShown 29 = .ok (.iconst 1, 1) := by decide +kernel
theorem d_Ro_isShortAsShown_30 : decode b_Ro_isShortAsShown 30 = .ok (.if_icmp .lt 9, 3) := by decide +kernel
theorem d_Ro_isShortAsShown_33 : decode b_Ro_isShortAsShown 33 = .ok (.iload_n 2, 1) := by decide +kernel
theorem d_Ro_isShortAsShown_34 : decode b_Ro_isShortAsShown 34 = .ok (.bipush 8, 2) := by decide +kernel
theorem d_Ro_isShortAsShown_36 : decode b_Ro_isShortAsShown 36 = .ok (.if_icmp .le 5, 3) := by decide +kernel
theorem d_Ro_isShortAsShown_39 : decode b_Ro_isShortAsShown 39 = .ok (.iconst 0, 1) := by decide +kernel
theorem d_Ro_isShortAsShown_40 : decode b_Ro_isShortAsShown 40 = .ok (.ireturn, 1) := by decide +kernel
theorem d_Ro_isShortAsShown_41 : decode b_Ro_isShortAsShown 41 = .ok (.iload_n 1, 1) := by decide +kernel
theorem d_Ro_isShortAsShown_42 : decode b_Ro_isShortAsShown 42 = .ok (.iconst (-1), 1) := by decide +kernel
theorem d_Ro_isShortAsShown_43 : decode b_Ro_isShortAsShown 43 = .ok (.if_icmp .eq 15, 3) := by decide +kernel
theorem d_Ro_isShortAsShown_46 : decode b_Ro_isShortAsShown 46 = .ok (.iload_n 3, 1) := by decide +kernel
theorem d_Ro_isShortAsShown_47 : decode b_Ro_isShortAsShown 47 = .ok (.iconst 1, 1) := by decide +kernel
theorem d_Ro_isShortAsShown_48 : decode b_Ro_isShortAsShown 48 = .ok (.if_icmp .lt 8, 3) := by decide +kernel
theorem d_Ro_isShortAsShown_51 : decode b_Ro_isShortAsShown 51 = .ok (.iload_n 3, 1) := by decide +kernel
theorem d_Ro_isShortAsShown_52 : decode b_Ro_isShortAsShown 52 = .ok (.iconst 3, 1) := by decide +kernel
theorem d_Ro_isShortAsShown_53 : decode b_Ro_isShortAsShown 53 = .ok (.if_icmp .le 5, 3) := by decide +kernel
theorem d_Ro_isShortAsShown_56 : decode b_Ro_isShortAsShown 56 = .ok (.iconst 0, 1) := by decide +kernel
theorem d_Ro_isShortAsShown_57 : decode b_Ro_isShortAsShown 57 = .ok (.ireturn, 1) := by decide +kernel
theorem d_Ro_isShortAsShown_58 : decode b_Ro_isShortAsShown 58 = .ok (.iconst 0, 1) := by decide +kernel
theorem d_Ro_isShortAsShown_59 : decode b_Ro_isShortAsShown 59 = .ok (.istore 4, 2) := by decide +kernel
theorem d_Ro_isShortAsShown_61 : decode b_Ro_isShortAsShown 61 = .ok (.iload 4, 2) := by decide +kernel
theorem d_Ro_isShortAsShown_63 : decode b_Ro_isShortAsShown 63 = .ok (.aload_n 0, 1) := by decide +kernel
theorem d_Ro_isShortAsShown_64 : decode b_Ro_isShortAsShown 64 = .ok (.getfield 15, 3) := by decide +kernel
theorem d_Ro_isShortAsShown_67 : decode b_Ro_isShortAsShown 67 = .ok (.if_icmp .ge 29, 3) := by decide +kernel
theorem d_Ro_isShortAsShown_70 : decode b_Ro_isShortAsShown 70 = .ok (.iload 4, 2) := by decide +kernel
theorem d_Ro_isShortAsShown_72 : decode b_Ro_isShortAsShown 72 = .ok (.iload_n 1, 1) := by decide +kernel
theorem d_Ro_isShortAsShown_73 : decode b_Ro_isShortAsShown 73 = .ok (.if_icmp .eq 17, 3) := by decide +kernel
theorem d_Ro_isShortAsShown_76 : decode b_Ro_isShortAsShown 76 = .ok (.aload_n 0, 1) := by decide +kernel
theorem d_Ro_isShortAsShown_77 : decode b_Ro_isShortAsShown 77 = .ok (.iload 4, 2) := by decide +kernel
theorem d_Ro_isShortAsShown_79 : decode b_Ro_isShortAsShown 79 = .ok (.invokevirtual 19, 3) := by decide +kernel
theorem d_Ro_isShortAsShown_82 : decode b_Ro_isShortAsShown 82 = .ok (.invokestatic 35, 3) := by decide +kernel
theorem d_Ro_isShortAsShown_85 : decode b_Ro_isShortAsShown 85 = .ok (.ifCond .ne 5, 3) := by decide +kernel
theorem d_Ro_isShortAsShown_88 : decode b_Ro_isShortAsShown 88 = .ok (.iconst 0, 1) := by decide +kernel
theorem d_Ro_isShortAsShown_89 : decode b_Ro_isShortAsShown 89 = .ok (.ireturn, 1) := by decide +kernel
theorem d_Ro_isShortAsShown_90 : decode b_Ro_isShortAsShown 90 = .ok (.iinc 4 1, 3) := by decide +kernel
theorem d_Ro_isShortAsShown_93 : decode b_Ro_isShortAsShown 93 = .ok (.goto (-32), 3) := by decide +kernel
theorem d_Ro_isShortAsShown_96 : decode b_Ro_isShortAsShown 96 = .ok (.iconst 1, 1) := by decide +kernel
theorem d_Ro_isShortAsShown_97 : decode b_Ro_isShortAsShown 97 = .ok (.ireturn, 1) := by decide +kernel
abbrev b_Ro_lastPoint : ByteArray := prog_4_method_8_code
abbrev y_Ro_lastPoint : MethodName := ⟨"LongNames$Row", "lastPoint", "()I"⟩
abbrev w_Ro_lastPoint : List Cond := .code y_Ro_lastPoint b_Ro_lastPoint 2 (some .int) :: BIG
theorem d_Ro_lastPoint_0 : decode b_Ro_lastPoint 0 = .ok (.aload_n 0, 1) := by decide +kernel
theorem d_Ro_lastPoint_1 : decode b_Ro_lastPoint 1 = .ok (.getfield 15, 3) := by decide +kernel
theorem d_Ro_lastPoint_4 : decode b_Ro_lastPoint 4 = .ok (.iconst 1, 1) := by decide +kernel
theorem d_Ro_lastPoint_5 : decode b_Ro_lastPoint 5 = .ok (.isub, 1) := by decide +kernel
theorem d_Ro_lastPoint_6 : decode b_Ro_lastPoint 6 = .ok (.istore_n 1, 1) := by decide +kernel
theorem d_Ro_lastPoint_7 : decode b_Ro_lastPoint 7 = .ok (.iload_n 1, 1) := by decide +kernel
theorem d_Ro_lastPoint_8 : decode b_Ro_lastPoint 8 = .ok (.ifCond .lt 21, 3) := by decide +kernel
theorem d_Ro_lastPoint_11 : decode b_Ro_lastPoint 11 = .ok (.aload_n 0, 1) := by decide +kernel
theorem d_Ro_lastPoint_12 : decode b_Ro_lastPoint 12 = .ok (.iload_n 1, 1) := by decide +kernel
theorem d_Ro_lastPoint_13 : decode b_Ro_lastPoint 13 = .ok (.invokevirtual 19, 3) := by decide +kernel
theorem d_Ro_lastPoint_16 : decode b_Ro_lastPoint 16 = .ok (.bipush 46, 2) := by decide +kernel
theorem d_Ro_lastPoint_18 : decode b_Ro_lastPoint 18 = .ok (.if_icmp .ne 5, 3) := by decide +kernel
theorem d_Ro_lastPoint_21 : decode b_Ro_lastPoint 21 = .ok (.iload_n 1, 1) := by decide +kernel
theorem d_Ro_lastPoint_22 : decode b_Ro_lastPoint 22 = .ok (.ireturn, 1) := by decide +kernel
theorem d_Ro_lastPoint_23 : decode b_Ro_lastPoint 23 = .ok (.iinc 1 (-1), 3) := by decide +kernel
theorem d_Ro_lastPoint_26 : decode b_Ro_lastPoint 26 = .ok (.goto (-19), 3) := by decide +kernel
theorem d_Ro_lastPoint_29 : decode b_Ro_lastPoint 29 = .ok (.iconst (-1), 1) := by decide +kernel
theorem d_Ro_lastPoint_30 : decode b_Ro_lastPoint 30 = .ok (.ireturn, 1) := by decide +kernel
abbrev b_Ro_partsNeeded : ByteArray := prog_4_method_9_code
abbrev y_Ro_partsNeeded : MethodName := ⟨"LongNames$Row", "partsNeeded", "()I"⟩
abbrev w_Ro_partsNeeded : List Cond := .code y_Ro_partsNeeded b_Ro_partsNeeded 1 (some .int) :: BIG
theorem d_Ro_partsNeeded_0 : decode b_Ro_partsNeeded 0 = .ok (.aload_n 0, 1) := by decide +kernel
theorem d_Ro_partsNeeded_1 : decode b_Ro_partsNeeded 1 = .ok (.getfield 15, 3) := by decide +kernel
theorem d_Ro_partsNeeded_4 : decode b_Ro_partsNeeded 4 = .ok (.bipush 13, 2) := by decide +kernel
theorem d_Ro_partsNeeded_6 : decode b_Ro_partsNeeded 6 = .ok (.iadd, 1) := by decide +kernel
theorem d_Ro_partsNeeded_7 : decode b_Ro_partsNeeded 7 = .ok (.iconst 1, 1) := by decide +kernel
theorem d_Ro_partsNeeded_8 : decode b_Ro_partsNeeded 8 = .ok (.isub, 1) := by decide +kernel
theorem d_Ro_partsNeeded_9 : decode b_Ro_partsNeeded 9 = .ok (.bipush 13, 2) := by decide +kernel
theorem d_Ro_partsNeeded_11 : decode b_Ro_partsNeeded 11 = .ok (.idiv, 1) := by decide +kernel
theorem d_Ro_partsNeeded_12 : decode b_Ro_partsNeeded 12 = .ok (.ireturn, 1) := by decide +kernel
abbrev b_Ro_encodedSize : ByteArray := prog_4_method_10_code
abbrev y_Ro_encodedSize : MethodName := ⟨"LongNames$Row", "encodedSize", "()I"⟩
abbrev w_Ro_encodedSize : List Cond := .code y_Ro_encodedSize b_Ro_encodedSize 3 (some .int) :: BIG
theorem d_Ro_encodedSize_0 : decode b_Ro_encodedSize 0 = .ok (.iconst 0, 1) := by decide +kernel
theorem d_Ro_encodedSize_1 : decode b_Ro_encodedSize 1 = .ok (.istore_n 1, 1) := by decide +kernel
theorem d_Ro_encodedSize_2 : decode b_Ro_encodedSize 2 = .ok (.iconst 0, 1) := by decide +kernel
theorem d_Ro_encodedSize_3 : decode b_Ro_encodedSize 3 = .ok (.istore_n 2, 1) := by decide +kernel
theorem d_Ro_encodedSize_4 : decode b_Ro_encodedSize 4 = .ok (.iload_n 2, 1) := by decide +kernel
theorem d_Ro_encodedSize_5 : decode b_Ro_encodedSize 5 = .ok (.aload_n 0, 1) := by decide +kernel
theorem d_Ro_encodedSize_6 : decode b_Ro_encodedSize 6 = .ok (.getfield 15, 3) := by decide +kernel
theorem d_Ro_encodedSize_9 : decode b_Ro_encodedSize 9 = .ok (.if_icmp .ge 20, 3) := by decide +kernel
theorem d_Ro_encodedSize_12 : decode b_Ro_encodedSize 12 = .ok (.iload_n 1, 1) := by decide +kernel
theorem d_Ro_encodedSize_13 : decode b_Ro_encodedSize 13 = .ok (.aload_n 0, 1) := by decide +kernel
theorem d_Ro_encodedSize_14 : decode b_Ro_encodedSize 14 = .ok (.iload_n 2, 1) := by decide +kernel
theorem d_Ro_encodedSize_15 : decode b_Ro_encodedSize 15 = .ok (.invokevirtual 19, 3) := by decide +kernel
theorem d_Ro_encodedSize_18 : decode b_Ro_encodedSize 18 = .ok (.invokestatic 40, 3) := by decide +kernel
theorem d_Ro_encodedSize_21 : decode b_Ro_encodedSize 21 = .ok (.iadd, 1) := by decide +kernel
theorem d_Ro_encodedSize_22 : decode b_Ro_encodedSize 22 = .ok (.istore_n 1, 1) := by decide +kernel
theorem d_Ro_encodedSize_23 : decode b_Ro_encodedSize 23 = .ok (.iinc 2 1, 3) := by decide +kernel
theorem d_Ro_encodedSize_26 : decode b_Ro_encodedSize 26 = .ok (.goto (-22), 3) := by decide +kernel
theorem d_Ro_encodedSize_29 : decode b_Ro_encodedSize 29 = .ok (.iload_n 1, 1) := by decide +kernel
theorem d_Ro_encodedSize_30 : decode b_Ro_encodedSize 30 = .ok (.ireturn, 1) := by decide +kernel
abbrev b_Ro_encodedByte : ByteArray := prog_4_method_11_code
abbrev y_Ro_encodedByte : MethodName := ⟨"LongNames$Row", "encodedByte", "(I)I"⟩
abbrev w_Ro_encodedByte : List Cond := .code y_Ro_encodedByte b_Ro_encodedByte 5 (some .int) :: BIG
theorem d_Ro_encodedByte_0 : decode b_Ro_encodedByte 0 = .ok (.iload_n 1, 1) := by decide +kernel
theorem d_Ro_encodedByte_1 : decode b_Ro_encodedByte 1 = .ok (.ifCond .ge 5, 3) := by decide +kernel
theorem d_Ro_encodedByte_4 : decode b_Ro_encodedByte 4 = .ok (.iconst (-1), 1) := by decide +kernel
theorem d_Ro_encodedByte_5 : decode b_Ro_encodedByte 5 = .ok (.ireturn, 1) := by decide +kernel
theorem d_Ro_encodedByte_6 : decode b_Ro_encodedByte 6 = .ok (.iload_n 1, 1) := by decide +kernel
theorem d_Ro_encodedByte_7 : decode b_Ro_encodedByte 7 = .ok (.istore_n 2, 1) := by decide +kernel
theorem d_Ro_encodedByte_8 : decode b_Ro_encodedByte 8 = .ok (.iconst 0, 1) := by decide +kernel
theorem d_Ro_encodedByte_9 : decode b_Ro_encodedByte 9 = .ok (.istore_n 3, 1) := by decide +kernel
theorem d_Ro_encodedByte_10 : decode b_Ro_encodedByte 10 = .ok (.iload_n 3, 1) := by decide +kernel
theorem d_Ro_encodedByte_11 : decode b_Ro_encodedByte 11 = .ok (.aload_n 0, 1) := by decide +kernel
theorem d_Ro_encodedByte_12 : decode b_Ro_encodedByte 12 = .ok (.getfield 15, 3) := by decide +kernel
theorem d_Ro_encodedByte_15 : decode b_Ro_encodedByte 15 = .ok (.if_icmp .ge 40, 3) := by decide +kernel
theorem d_Ro_encodedByte_18 : decode b_Ro_encodedByte 18 = .ok (.aload_n 0, 1) := by decide +kernel
theorem d_Ro_encodedByte_19 : decode b_Ro_encodedByte 19 = .ok (.iload_n 3, 1) := by decide +kernel
theorem d_Ro_encodedByte_20 : decode b_Ro_encodedByte 20 = .ok (.invokevirtual 19, 3) := by decide +kernel
theorem d_Ro_encodedByte_23 : decode b_Ro_encodedByte 23 = .ok (.invokestatic 40, 3) := by decide +kernel
theorem d_Ro_encodedByte_26 : decode b_Ro_encodedByte 26 = .ok (.istore 4, 2) := by decide +kernel
theorem d_Ro_encodedByte_28 : decode b_Ro_encodedByte 28 = .ok (.iload_n 2, 1) := by decide +kernel
theorem d_Ro_encodedByte_29 : decode b_Ro_encodedByte 29 = .ok (.iload 4, 2) := by decide +kernel
theorem d_Ro_encodedByte_31 : decode b_Ro_encodedByte 31 = .ok (.if_icmp .ge 13, 3) := by decide +kernel
theorem d_Ro_encodedByte_34 : decode b_Ro_encodedByte 34 = .ok (.aload_n 0, 1) := by decide +kernel
theorem d_Ro_encodedByte_35 : decode b_Ro_encodedByte 35 = .ok (.iload_n 3, 1) := by decide +kernel
theorem d_Ro_encodedByte_36 : decode b_Ro_encodedByte 36 = .ok (.invokevirtual 19, 3) := by decide +kernel
theorem d_Ro_encodedByte_39 : decode b_Ro_encodedByte 39 = .ok (.iload_n 2, 1) := by decide +kernel
theorem d_Ro_encodedByte_40 : decode b_Ro_encodedByte 40 = .ok (.invokestatic 43, 3) := by decide +kernel
theorem d_Ro_encodedByte_43 : decode b_Ro_encodedByte 43 = .ok (.ireturn, 1) := by decide +kernel
theorem d_Ro_encodedByte_44 : decode b_Ro_encodedByte 44 = .ok (.iload_n 2, 1) := by decide +kernel
theorem d_Ro_encodedByte_45 : decode b_Ro_encodedByte 45 = .ok (.iload 4, 2) := by decide +kernel
theorem d_Ro_encodedByte_47 : decode b_Ro_encodedByte 47 = .ok (.isub, 1) := by decide +kernel
theorem d_Ro_encodedByte_48 : decode b_Ro_encodedByte 48 = .ok (.istore_n 2, 1) := by decide +kernel
theorem d_Ro_encodedByte_49 : decode b_Ro_encodedByte 49 = .ok (.iinc 3 1, 3) := by decide +kernel
theorem d_Ro_encodedByte_52 : decode b_Ro_encodedByte 52 = .ok (.goto (-42), 3) := by decide +kernel
theorem d_Ro_encodedByte_55 : decode b_Ro_encodedByte 55 = .ok (.iconst (-1), 1) := by decide +kernel
theorem d_Ro_encodedByte_56 : decode b_Ro_encodedByte 56 = .ok (.ireturn, 1) := by decide +kernel
abbrev b_Ro_isLike : ByteArray := prog_4_method_12_code
abbrev y_Ro_isLike : MethodName := ⟨"LongNames$Row", "isLike", "(LLongNames$Row;)Z"⟩
abbrev w_Ro_isLike : List Cond := .code y_Ro_isLike b_Ro_isLike 3 (some .boolean) :: BIG
theorem d_Ro_isLike_0 : decode b_Ro_isLike 0 = .ok (.aload_n 1, 1) := by decide +kernel
theorem d_Ro_isLike_1 : decode b_Ro_isLike 1 = .ok (.ifnull 14, 3) := by decide +kernel
theorem d_Ro_isLike_4 : decode b_Ro_isLike 4 = .ok (.aload_n 0, 1) := by decide +kernel
theorem d_Ro_isLike_5 : decode b_Ro_isLike 5 = .ok (.getfield 15, 3) := by decide +kernel
theorem d_Ro_isLike_8 : decode b_Ro_isLike 8 = .ok (.aload_n 1, 1) := by decide +kernel
theorem d_Ro_isLike_9 : decode b_Ro_isLike 9 = .ok (.getfield 15, 3) := by decide +kernel
theorem d_Ro_isLike_12 : decode b_Ro_isLike 12 = .ok (.if_icmp .eq 5, 3) := by decide +kernel
theorem d_Ro_isLike_15 : decode b_Ro_isLike 15 = .ok (.iconst 0, 1) := by decide +kernel
theorem d_Ro_isLike_16 : decode b_Ro_isLike 16 = .ok (.ireturn, 1) := by decide +kernel
theorem d_Ro_isLike_17 : decode b_Ro_isLike 17 = .ok (.iconst 0, 1) := by decide +kernel
theorem d_Ro_isLike_18 : decode b_Ro_isLike 18 = .ok (.istore_n 2, 1) := by decide +kernel
theorem d_Ro_isLike_19 : decode b_Ro_isLike 19 = .ok (.iload_n 2, 1) := by decide +kernel
theorem d_Ro_isLike_20 : decode b_Ro_isLike 20 = .ok (.aload_n 0, 1) := by decide +kernel
theorem d_Ro_isLike_21 : decode b_Ro_isLike 21 = .ok (.getfield 15, 3) := by decide +kernel
theorem d_Ro_isLike_24 : decode b_Ro_isLike 24 = .ok (.if_icmp .ge 30, 3) := by decide +kernel
theorem d_Ro_isLike_27 : decode b_Ro_isLike 27 = .ok (.aload_n 0, 1) := by decide +kernel
theorem d_Ro_isLike_28 : decode b_Ro_isLike 28 = .ok (.iload_n 2, 1) := by decide +kernel
theorem d_Ro_isLike_29 : decode b_Ro_isLike 29 = .ok (.invokevirtual 19, 3) := by decide +kernel
theorem d_Ro_isLike_32 : decode b_Ro_isLike 32 = .ok (.invokestatic 47, 3) := by decide +kernel
theorem d_Ro_isLike_35 : decode b_Ro_isLike 35 = .ok (.aload_n 1, 1) := by decide +kernel
theorem d_Ro_isLike_36 : decode b_Ro_isLike 36 = .ok (.iload_n 2, 1) := by decide +kernel
theorem d_Ro_isLike_37 : decode b_Ro_isLike 37 = .ok (.invokevirtual 19, 3) := by decide +kernel
theorem d_Ro_isLike_40 : decode b_Ro_isLike 40 = .ok (.invokestatic 47, 3) := by decide +kernel
theorem d_Ro_isLike_43 : decode b_Ro_isLike 43 = .ok (.if_icmp .eq 5, 3) := by decide +kernel
theorem d_Ro_isLike_46 : decode b_Ro_isLike 46 = .ok (.iconst 0, 1) := by decide +kernel
theorem d_Ro_isLike_47 : decode b_Ro_isLike 47 = .ok (.ireturn, 1) := by decide +kernel
theorem d_Ro_isLike_48 : decode b_Ro_isLike 48 = .ok (.iinc 2 1, 3) := by decide +kernel
theorem d_Ro_isLike_51 : decode b_Ro_isLike 51 = .ok (.goto (-32), 3) := by decide +kernel
theorem d_Ro_isLike_54 : decode b_Ro_isLike 54 = .ok (.iconst 1, 1) := by decide +kernel
theorem d_Ro_isLike_55 : decode b_Ro_isLike 55 = .ok (.ireturn, 1) := by decide +kernel
abbrev b_Sn_init : ByteArray := prog_5_method_1_code
abbrev y_Sn_init : MethodName := ⟨"LongNames$ShortName", "<init>", "()V"⟩
abbrev w_Sn_init : List Cond := .code y_Sn_init b_Sn_init 1 none :: BIG
theorem d_Sn_init_0 : decode b_Sn_init 0 = .ok (.aload_n 0, 1) := by decide +kernel
theorem d_Sn_init_1 : decode b_Sn_init 1 = .ok (.invokespecial 5, 3) := by decide +kernel
theorem d_Sn_init_4 : decode b_Sn_init 4 = .ok (.aload_n 0, 1) := by decide +kernel
theorem d_Sn_init_5 : decode b_Sn_init 5 = .ok (.bipush 11, 2) := by decide +kernel
theorem d_Sn_init_7 : decode b_Sn_init 7 = .ok (.newarray .int, 2) := by decide +kernel
theorem d_Sn_init_9 : decode b_Sn_init 9 = .ok (.putfield 11, 3) := by decide +kernel
theorem d_Sn_init_12 : decode b_Sn_init 12 = .ok (.return_, 1) := by decide +kernel
abbrev b_Sn_takeShown : ByteArray := prog_5_method_2_code
abbrev y_Sn_takeShown : MethodName := ⟨"LongNames$ShortName", "takeShown", "(LLongNames$Row;)V"⟩
abbrev w_Sn_takeShown : List Cond := .code y_Sn_takeShown b_Sn_takeShown 4 none :: BIG
theorem d_Sn_takeShown_0 : decode b_Sn_takeShown 0 = .ok (.aload_n 0, 1) := by decide +kernel
theorem d_Sn_takeShown_1 : decode b_Sn_takeShown 1 = .ok (.getfield 11, 3) := by decide +kernel
theorem d_Sn_takeShown_4 : decode b_Sn_takeShown 4 = .ok (.bipush 32, 2) := by decide +kernel
theorem d_Sn_takeShown_6 : decode b_Sn_takeShown 6 = .ok (.invokestatic 15, 3) := by decide +kernel
theorem d_Sn_takeShown_9 : decode b_Sn_takeShown 9 = .ok (.aload_n 1, 1) := by decide +kernel
theorem d_Sn_takeShown_10 : decode b_Sn_takeShown 10 = .ok (.invokevirtual 21, 3) := by decide +kernel
theorem d_Sn_takeShown_13 : decode b_Sn_takeShown 13 = .ok (.istore_n 2, 1) := by decide +kernel
theorem d_Sn_takeShown_14 : decode b_Sn_takeShown 14 = .ok (.iload_n 2, 1) := by decide +kernel
theorem d_Sn_takeShown_15 : decode b_Sn_takeShown 15 = .ok (.iconst (-1), 1) := by decide +kernel
theorem d_Sn_takeShown_16 : decode b_Sn_takeShown 16 = .ok (.if_icmp .ne 10, 3) := by decide +kernel
theorem d_Sn_takeShown_19 : decode b_Sn_takeShown 19 = .ok (.aload_n 1, 1) := by decide +kernel
theorem d_Sn_takeShown_20 : decode b_Sn_takeShown 20 = .ok (.invokevirtual 27, 3) := by decide +kernel
theorem d_Sn_takeShown_23 : decode b_Sn_takeShown 23 = .ok (.goto 4, 3) := by decide +kernel
theorem d_Sn_takeShown_26 : decode b_Sn_takeShown 26 = .ok (.iload_n 2, 1) := by decide +kernel
theorem d_Sn_takeShown_27 : decode b_Sn_takeShown 27 = .ok (.istore_n 3, 1) := by decide +kernel
theorem d_Sn_takeShown_28 : decode b_Sn_takeShown 28 = .ok (.aload_n 0, 1) := by decide +kernel
theorem d_Sn_takeShown_29 : decode b_Sn_takeShown 29 = .ok (.aload_n 1, 1) := by decide +kernel
theorem d_Sn_takeShown_30 : decode b_Sn_takeShown 30 = .ok (.iconst 0, 1) := by decide +kernel
theorem d_Sn_takeShown_31 : decode b_Sn_takeShown 31 = .ok (.iload_n 3, 1) := by decide +kernel
theorem d_Sn_takeShown_32 : decode b_Sn_takeShown 32 = .ok (.iconst 0, 1) := by decide +kernel
theorem d_Sn_takeShown_33 : decode b_Sn_takeShown 33 = .ok (.bipush 8, 2) := by decide +kernel
theorem d_Sn_takeShown_35 : decode b_Sn_takeShown 35 = .ok (.invokevirtual 30, 3) := by decide +kernel
theorem d_Sn_takeShown_38 : decode b_Sn_takeShown 38 = .ok (.pop, 1) := by decide +kernel
theorem d_Sn_takeShown_39 : decode b_Sn_takeShown 39 = .ok (.aload_n 0, 1) := by decide +kernel
theorem d_Sn_takeShown_40 : decode b_Sn_takeShown 40 = .ok (.aload_n 1, 1) := by decide +kernel
theorem d_Sn_takeShown_41 : decode b_Sn_takeShown 41 = .ok (.iload_n 3, 1) := by decide +kernel
theorem d_Sn_takeShown_42 : decode b_Sn_takeShown 42 = .ok (.iconst 1, 1) := by decide +kernel
theorem d_Sn_takeShown_43 : decode b_Sn_takeShown 43 = .ok (.iadd, 1) := by decide +kernel
theorem d_Sn_takeShown_44 : decode b_Sn_takeShown 44 = .ok (.aload_n 1, 1) := by decide +kernel
theorem d_Sn_takeShown_45 : decode b_Sn_takeShown 45 = .ok (.invokevirtual 27, 3) := by decide +kernel
theorem d_Sn_takeShown_48 : decode b_Sn_takeShown 48 = .ok (.bipush 8, 2) := by decide +kernel
theorem d_Sn_takeShown_50 : decode b_Sn_takeShown 50 = .ok (.iconst 3, 1) := by decide +kernel
theorem d_Sn_takeShown_51 : decode b_Sn_takeShown 51 = .ok (.invokevirtual 30, 3) := by decide +kernel
theorem d_Sn_takeShown_54 : decode b_Sn_takeShown 54 = .ok (.pop, 1) := by decide +kernel
theorem d_Sn_takeShown_55 : decode b_Sn_takeShown 55 = .ok (.return_, 1) := by decide +kernel
abbrev b_Sn_takeTailed : ByteArray := prog_5_method_3_code
abbrev y_Sn_takeTailed : MethodName := ⟨"LongNames$ShortName", "takeTailed", "(LLongNames$Row;I)V"⟩
abbrev w_Sn_takeTailed : List Cond := .code y_Sn_takeTailed b_Sn_takeTailed 7 none :: BIG
theorem d_Sn_takeTailed_0 : decode b_Sn_takeTailed 0 = .ok (.aload_n 0, 1) := by decide +kernel
theorem d_Sn_takeTailed_1 : decode b_Sn_takeTailed 1 = .ok (.getfield 11, 3) := by decide +kernel
theorem d_Sn_takeTailed_4 : decode b_Sn_takeTailed 4 = .ok (.bipush 32, 2) := by decide +kernel
theorem d_Sn_takeTailed_6 : decode b_Sn_takeTailed 6 = .ok (.invokestatic 15, 3) := by decide +kernel
theorem d_Sn_takeTailed_9 : decode b_Sn_takeTailed 9 = .ok (.aload_n 1, 1) := by decide +kernel
theorem d_Sn_takeTailed_10 : decode b_Sn_takeTailed 10 = .ok (.invokevirtual 21, 3) := by decide +kernel
theorem d_Sn_takeTailed_13 : decode b_Sn_takeTailed 13 = .ok (.istore_n 3, 1) := by decide +kernel
theorem d_Sn_takeTailed_14 : decode b_Sn_takeTailed 14 = .ok (.iload_n 3, 1) := by decide +kernel
theorem d_Sn_takeTailed_15 : decode b_Sn_takeTailed 15 = .ok (.ifCond .le 7, 3) := by decide +kernel
theorem d_Sn_takeTailed_18 : decode b_Sn_takeTailed 18 = .ok (.iload_n 3, 1) := by decide +kernel
theorem d_Sn_takeTailed_19 : decode b_Sn_takeTailed 19 = .ok (.goto 7, 3) := by decide +kernel
theorem d_Sn_takeTailed_22 : decode b_Sn_takeTailed 22 = .ok (.aload_n 1, 1) := by decide +kernel
theorem d_Sn_takeTailed_23 : decode b_Sn_takeTailed 23 = .ok (.invokevirtual 27, 3) := by decide +kernel
theorem d_Sn_takeTailed_26 : decode b_Sn_takeTailed 26 = .ok (.istore 4, 2) := by decide +kernel
theorem d_Sn_takeTailed_28 : decode b_Sn_takeTailed 28 = .ok (.iload_n 2, 1) := by decide +kernel
theorem d_Sn_takeTailed_29 : decode b_Sn_takeTailed 29 = .ok (.invokestatic 34, 3) := by decide +kernel
theorem d_Sn_takeTailed_32 : decode b_Sn_takeTailed 32 = .ok (.istore 5, 2) := by decide +kernel
theorem d_Sn_takeTailed_34 : decode b_Sn_takeTailed 34 = .ok (.aload_n 0, 1) := by decide +kernel
theorem d_Sn_takeTailed_35 : decode b_Sn_takeTailed 35 = .ok (.aload_n 1, 1) := by decide +kernel
theorem d_Sn_takeTailed_36 : decode b_Sn_takeTailed 36 = .ok (.iconst 0, 1) := by decide +kernel
theorem d_Sn_takeTailed_37 : decode b_Sn_takeTailed 37 = .ok (.iload 4, 2) := by decide +kernel
theorem d_Sn_takeTailed_39 : decode b_Sn_takeTailed 39 = .ok (.iconst 0, 1) := by decide +kernel
theorem d_Sn_takeTailed_40 : decode b_Sn_takeTailed 40 = .ok (.bipush 7, 2) := by decide +kernel
theorem d_Sn_takeTailed_42 : decode b_Sn_takeTailed 42 = .ok (.iload 5, 2) := by decide +kernel
theorem d_Sn_takeTailed_44 : decode b_Sn_takeTailed 44 = .ok (.isub, 1) := by decide +kernel
theorem d_Sn_takeTailed_45 : decode b_Sn_takeTailed 45 = .ok (.invokevirtual 30, 3) := by decide +kernel
theorem d_Sn_takeTailed_48 : decode b_Sn_takeTailed 48 = .ok (.istore 6, 2) := by decide +kernel
theorem d_Sn_takeTailed_50 : decode b_Sn_takeTailed 50 = .ok (.aload_n 0, 1) := by decide +kernel
theorem d_Sn_takeTailed_51 : decode b_Sn_takeTailed 51 = .ok (.iload 6, 2) := by decide +kernel
theorem d_Sn_takeTailed_53 : decode b_Sn_takeTailed 53 = .ok (.bipush 126, 2) := by decide +kernel
theorem d_Sn_takeTailed_55 : decode b_Sn_takeTailed 55 = .ok (.invokevirtual 38, 3) := by decide +kernel
theorem d_Sn_takeTailed_58 : decode b_Sn_takeTailed 58 = .ok (.aload_n 0, 1) := by decide +kernel
theorem d_Sn_takeTailed_59 : decode b_Sn_takeTailed 59 = .ok (.iload 6, 2) := by decide +kernel
theorem d_Sn_takeTailed_61 : decode b_Sn_takeTailed 61 = .ok (.iconst 1, 1) := by decide +kernel
theorem d_Sn_takeTailed_62 : decode b_Sn_takeTailed 62 = .ok (.iadd, 1) := by decide +kernel
theorem d_Sn_takeTailed_63 : decode b_Sn_takeTailed 63 = .ok (.iload 5, 2) := by decide +kernel
theorem d_Sn_takeTailed_65 : decode b_Sn_takeTailed 65 = .ok (.iload_n 2, 1) := by decide +kernel
theorem d_Sn_takeTailed_66 : decode b_Sn_takeTailed 66 = .ok (.invokevirtual 42, 3) := by decide +kernel
theorem d_Sn_takeTailed_69 : decode b_Sn_takeTailed 69 = .ok (.aload_n 0, 1) := by decide +kernel
theorem d_Sn_takeTailed_70 : decode b_Sn_takeTailed 70 = .ok (.aload_n 1, 1) := by decide +kernel
theorem d_Sn_takeTailed_71 : decode b_Sn_takeTailed 71 = .ok (.iload 4, 2) := by decide +kernel
theorem d_Sn_takeTailed_73 : decode b_Sn_takeTailed 73 = .ok (.iconst 1, 1) := by decide +kernel
theorem d_Sn_takeTailed_74 : decode b_Sn_takeTailed 74 = .ok (.iadd, 1) := by decide +kernel
theorem d_Sn_takeTailed_75 : decode b_Sn_takeTailed 75 = .ok (.aload_n 1, 1) := by decide +kernel
theorem d_Sn_takeTailed_76 : decode b_Sn_takeTailed 76 = .ok (.invokevirtual 27, 3) := by decide +kernel
theorem d_Sn_takeTailed_79 : decode b_Sn_takeTailed 79 = .ok (.bipush 8, 2) := by decide +kernel
theorem d_Sn_takeTailed_81 : decode b_Sn_takeTailed 81 = .ok (.iconst 3, 1) := by decide +kernel
theorem d_Sn_takeTailed_82 : decode b_Sn_takeTailed 82 = .ok (.invokevirtual 30, 3) := by decide +kernel
theorem d_Sn_takeTailed_85 : decode b_Sn_takeTailed 85 = .ok (.pop, 1) := by decide +kernel
theorem d_Sn_takeTailed_86 : decode b_Sn_takeTailed 86 = .ok (.return_, 1) := by decide +kernel
abbrev b_Sn_takeEntry : ByteArray := prog_5_method_4_code
abbrev y_Sn_takeEntry : MethodName := ⟨"LongNames$ShortName", "takeEntry", "(LLongNames$Slots;I)V"⟩
abbrev w_Sn_takeEntry : List Cond := .code y_Sn_takeEntry b_Sn_takeEntry 4 none :: BIG
theorem d_Sn_takeEntry_0 : decode b_Sn_takeEntry 0 = .ok (.iconst 0, 1) := by decide +kernel
theorem d_Sn_takeEntry_1 : decode b_Sn_takeEntry 1 = .ok (.istore_n 3, 1) := by decide +kernel
theorem d_Sn_takeEntry_2 : decode b_Sn_takeEntry 2 = .ok (.iload_n 3, 1) := by decide +kernel
theorem d_Sn_takeEntry_3 : decode b_Sn_takeEntry 3 = .ok (.bipush 11, 2) := by decide +kernel
theorem d_Sn_takeEntry_5 : decode b_Sn_takeEntry 5 = .ok (.if_icmp .ge 20, 3) := by decide +kernel
theorem d_Sn_takeEntry_8 : decode b_Sn_takeEntry 8 = .ok (.aload_n 0, 1) := by decide +kernel
theorem d_Sn_takeEntry_9 : decode b_Sn_takeEntry 9 = .ok (.iload_n 3, 1) := by decide +kernel
theorem d_Sn_takeEntry_10 : decode b_Sn_takeEntry 10 = .ok (.aload_n 1, 1) := by decide +kernel
theorem d_Sn_takeEntry_11 : decode b_Sn_takeEntry 11 = .ok (.iload_n 2, 1) := by decide +kernel
theorem d_Sn_takeEntry_12 : decode b_Sn_takeEntry 12 = .ok (.iload_n 3, 1) := by decide +kernel
theorem d_Sn_takeEntry_13 : decode b_Sn_takeEntry 13 = .ok (.invokevirtual 46, 3) := by decide +kernel
theorem d_Sn_takeEntry_16 : decode b_Sn_takeEntry 16 = .ok (.invokevirtual 38, 3) := by decide +kernel
theorem d_Sn_takeEntry_19 : decode b_Sn_takeEntry 19 = .ok (.iinc 3 1, 3) := by decide +kernel
theorem d_Sn_takeEntry_22 : decode b_Sn_takeEntry 22 = .ok (.goto (-20), 3) := by decide +kernel
theorem d_Sn_takeEntry_25 : decode b_Sn_takeEntry 25 = .ok (.return_, 1) := by decide +kernel
abbrev b_Sn_storeEntry : ByteArray := prog_5_method_5_code
abbrev y_Sn_storeEntry : MethodName := ⟨"LongNames$ShortName", "storeEntry", "(LLongNames$Slots;I)V"⟩
abbrev w_Sn_storeEntry : List Cond := .code y_Sn_storeEntry b_Sn_storeEntry 4 none :: BIG
theorem d_Sn_storeEntry_0 : decode b_Sn_storeEntry 0 = .ok (.iconst 0, 1) := by decide +kernel
theorem d_Sn_storeEntry_1 : decode b_Sn_storeEntry 1 = .ok (.istore_n 3, 1) := by decide +kernel
theorem d_Sn_storeEntry_2 : decode b_Sn_storeEntry 2 = .ok (.iload_n 3, 1) := by decide +kernel
theorem d_Sn_storeEntry_3 : decode b_Sn_storeEntry 3 = .ok (.bipush 32, 2) := by decide +kernel
theorem d_Sn_storeEntry_5 : decode b_Sn_storeEntry 5 = .ok (.if_icmp .ge 31, 3) := by decide +kernel
theorem d_Sn_storeEntry_8 : decode b_Sn_storeEntry 8 = .ok (.aload_n 1, 1) := by decide +kernel
theorem d_Sn_storeEntry_9 : decode b_Sn_storeEntry 9 = .ok (.iload_n 2, 1) := by decide +kernel
theorem d_Sn_storeEntry_10 : decode b_Sn_storeEntry 10 = .ok (.iload_n 3, 1) := by decide +kernel
theorem d_Sn_storeEntry_11 : decode b_Sn_storeEntry 11 = .ok (.iload_n 3, 1) := by decide +kernel
theorem d_Sn_storeEntry_12 : decode b_Sn_storeEntry 12 = .ok (.bipush 11, 2) := by decide +kernel
theorem d_Sn_storeEntry_14 : decode b_Sn_storeEntry 14 = .ok (.if_icmp .ge 11, 3) := by decide +kernel
theorem d_Sn_storeEntry_17 : decode b_Sn_storeEntry 17 = .ok (.aload_n 0, 1) := by decide +kernel
theorem d_Sn_storeEntry_18 : decode b_Sn_storeEntry 18 = .ok (.iload_n 3, 1) := by decide +kernel
theorem d_Sn_storeEntry_19 : decode b_Sn_storeEntry 19 = .ok (.invokevirtual 52, 3) := by decide +kernel
theorem d_Sn_storeEntry_22 : decode b_Sn_storeEntry 22 = .ok (.goto 4, 3) := by decide +kernel
theorem d_Sn_storeEntry_25 : decode b_Sn_storeEntry 25 = .ok (.iconst 0, 1) := by decide +kernel
theorem d_Sn_storeEntry_26 : decode b_Sn_storeEntry 26 = .ok (.invokevirtual 54, 3) := by decide +kernel
theorem d_Sn_storeEntry_29 : decode b_Sn_storeEntry 29 = .ok (.pop, 1) := by decide +kernel
theorem d_Sn_storeEntry_30 : decode b_Sn_storeEntry 30 = .ok (.iinc 3 1, 3) := by decide +kernel
theorem d_Sn_storeEntry_33 : decode b_Sn_storeEntry 33 = .ok (.goto (-31), 3) := by decide +kernel
theorem d_Sn_storeEntry_36 : decode b_Sn_storeEntry 36 = .ok (.return_, 1) := by decide +kernel
abbrev b_Sn_isValid : ByteArray := prog_5_method_6_code
abbrev y_Sn_isValid : MethodName := ⟨"LongNames$ShortName", "isValid", "()Z"⟩
abbrev w_Sn_isValid : List Cond := .code y_Sn_isValid b_Sn_isValid 1 (some .boolean) :: BIG
theorem d_Sn_isValid_0 : decode b_Sn_isValid 0 = .ok (.aload_n 0, 1) := by decide +kernel
theorem d_Sn_isValid_1 : decode b_Sn_isValid 1 = .ok (.iconst 0, 1) := by decide +kernel
theorem d_Sn_isValid_2 : decode b_Sn_isValid 2 = .ok (.invokevirtual 52, 3) := by decide +kernel
theorem d_Sn_isValid_5 : decode b_Sn_isValid 5 = .ok (.bipush 32, 2) := by decide +kernel
theorem d_Sn_isValid_7 : decode b_Sn_isValid 7 = .ok (.if_icmp .eq 28, 3) := by decide +kernel
theorem d_Sn_isValid_10 : decode b_Sn_isValid 10 = .ok (.aload_n 0, 1) := by decide +kernel
theorem d_Sn_isValid_11 : decode b_Sn_isValid 11 = .ok (.iconst 0, 1) := by decide +kernel
theorem d_Sn_isValid_12 : decode b_Sn_isValid 12 = .ok (.bipush 8, 2) := by decide +kernel
theorem d_Sn_isValid_14 : decode b_Sn_isValid 14 = .ok (.invokevirtual 58, 3) := by decide +kernel
theorem d_Sn_isValid_17 : decode b_Sn_isValid 17 = .ok (.ifCond .eq 18, 3) := by decide +kernel
theorem d_Sn_isValid_20 : decode b_Sn_isValid 20 = .ok (.aload_n 0, 1) := by decide +kernel
theorem d_Sn_isValid_21 : decode b_Sn_isValid 21 = .ok (.bipush 8, 2) := by decide +kernel
theorem d_Sn_isValid_23 : decode b_Sn_isValid 23 = .ok (.bipush 11, 2) := by decide +kernel
theorem d_Sn_isValid_25 : decode b_Sn_isValid 25 = .ok (.invokevirtual 58, 3) := by decide +kernel
theorem d_Sn_isValid_28 : decode b_Sn_isValid 28 = .ok (.ifCond .eq 7, 3) := by decide +kernel
theorem d_Sn_isValid_31 : decode b_Sn_isValid 31 = .ok (.iconst 1, 1) := by decide +kernel
theorem d_Sn_isValid_32 : decode b_Sn_isValid 32 = .ok (.goto 4, 3) := by decide +kernel
theorem d_Sn_isValid_35 : decode b_Sn_isValid 35 = .ok (.iconst 0, 1) := by decide +kernel
theorem d_Sn_isValid_36 : decode b_Sn_isValid 36 = .ok (.ireturn, 1) := by decide +kernel
abbrev b_Sn_showIn : ByteArray := prog_5_method_7_code
abbrev y_Sn_showIn : MethodName := ⟨"LongNames$ShortName", "showIn", "(LLongNames$Row;)V"⟩
abbrev w_Sn_showIn : List Cond := .code y_Sn_showIn b_Sn_showIn 2 none :: BIG
theorem d_Sn_showIn_0 : decode b_Sn_showIn 0 = .ok (.aload_n 0, 1) := by decide +kernel
theorem d_Sn_showIn_1 : decode b_Sn_showIn 1 = .ok (.aload_n 1, 1) := by decide +kernel
theorem d_Sn_showIn_2 : decode b_Sn_showIn 2 = .ok (.iconst 0, 1) := by decide +kernel
theorem d_Sn_showIn_3 : decode b_Sn_showIn 3 = .ok (.bipush 8, 2) := by decide +kernel
theorem d_Sn_showIn_5 : decode b_Sn_showIn 5 = .ok (.invokevirtual 62, 3) := by decide +kernel
theorem d_Sn_showIn_8 : decode b_Sn_showIn 8 = .ok (.aload_n 0, 1) := by decide +kernel
theorem d_Sn_showIn_9 : decode b_Sn_showIn 9 = .ok (.bipush 8, 2) := by decide +kernel
theorem d_Sn_showIn_11 : decode b_Sn_showIn 11 = .ok (.invokevirtual 52, 3) := by decide +kernel
theorem d_Sn_showIn_14 : decode b_Sn_showIn 14 = .ok (.bipush 32, 2) := by decide +kernel
theorem d_Sn_showIn_16 : decode b_Sn_showIn 16 = .ok (.if_icmp .eq 19, 3) := by decide +kernel
theorem d_Sn_showIn_19 : decode b_Sn_showIn 19 = .ok (.aload_n 1, 1) := by decide +kernel
theorem d_Sn_showIn_20 : decode b_Sn_showIn 20 = .ok (.bipush 46, 2) := by decide +kernel
theorem d_Sn_showIn_22 : decode b_Sn_showIn 22 = .ok (.invokevirtual 66, 3) := by decide +kernel
theorem d_Sn_showIn_25 : decode b_Sn_showIn 25 = .ok (.pop, 1) := by decide +kernel
theorem d_Sn_showIn_26 : decode b_Sn_showIn 26 = .ok (.aload_n 0, 1) := by decide +kernel
theorem d_Sn_showIn_27 : decode b_Sn_showIn 27 = .ok (.aload_n 1, 1) := by decide +kernel
theorem d_Sn_showIn_28 : decode b_Sn_showIn 28 = .ok (.bipush 8, 2) := by decide +kernel
theorem d_Sn_showIn_30 : decode b_Sn_showIn 30 = .ok (.bipush 11, 2) := by decide +kernel
theorem d_Sn_showIn_32 : decode b_Sn_showIn 32 = .ok (.invokevirtual 62, 3) := by decide +kernel
theorem d_Sn_showIn_35 : decode b_Sn_showIn 35 = .ok (.return_, 1) := by decide +kernel
abbrev b_Sn_showBytes : ByteArray := prog_5_method_8_code
abbrev y_Sn_showBytes : MethodName := ⟨"LongNames$ShortName", "showBytes", "(LLongNames$Row;II)V"⟩
abbrev w_Sn_showBytes : List Cond := .code y_Sn_showBytes b_Sn_showBytes 5 none :: BIG
theorem d_Sn_showBytes_0 : decode b_Sn_showBytes 0 = .ok (.iload_n 2, 1) := by decide +kernel
theorem d_Sn_showBytes_1 : decode b_Sn_showBytes 1 = .ok (.istore 4, 2) := by decide +kernel
theorem d_Sn_showBytes_3 : decode b_Sn_showBytes 3 = .ok (.iload 4, 2) := by decide +kernel
theorem d_Sn_showBytes_5 : decode b_Sn_showBytes 5 = .ok (.iload_n 3, 1) := by decide +kernel
theorem d_Sn_showBytes_6 : decode b_Sn_showBytes 6 = .ok (.if_icmp .ge 31, 3) := by decide +kernel
theorem d_Sn_showBytes_9 : decode b_Sn_showBytes 9 = .ok (.aload_n 0, 1) := by decide +kernel
theorem d_Sn_showBytes_10 : decode b_Sn_showBytes 10 = .ok (.iload 4, 2) := by decide +kernel
theorem d_Sn_showBytes_12 : decode b_Sn_showBytes 12 = .ok (.invokevirtual 52, 3) := by decide +kernel
theorem d_Sn_showBytes_15 : decode b_Sn_showBytes 15 = .ok (.bipush 32, 2) := by decide +kernel
theorem d_Sn_showBytes_17 : decode b_Sn_showBytes 17 = .ok (.if_icmp .eq 20, 3) := by decide +kernel
theorem d_Sn_showBytes_20 : decode b_Sn_showBytes 20 = .ok (.aload_n 1, 1) := by decide +kernel
theorem d_Sn_showBytes_21 : decode b_Sn_showBytes 21 = .ok (.aload_n 0, 1) := by decide +kernel
theorem d_Sn_showBytes_22 : decode b_Sn_showBytes 22 = .ok (.iload 4, 2) := by decide +kernel
theorem d_Sn_showBytes_24 : decode b_Sn_showBytes 24 = .ok (.invokevirtual 52, 3) := by decide +kernel
theorem d_Sn_showBytes_27 : decode b_Sn_showBytes 27 = .ok (.invokevirtual 66, 3) := by decide +kernel
theorem d_Sn_showBytes_30 : decode b_Sn_showBytes 30 = .ok (.pop, 1) := by decide +kernel
theorem d_Sn_showBytes_31 : decode b_Sn_showBytes 31 = .ok (.iinc 4 1, 3) := by decide +kernel
theorem d_Sn_showBytes_34 : decode b_Sn_showBytes 34 = .ok (.goto (-31), 3) := by decide +kernel
theorem d_Sn_showBytes_37 : decode b_Sn_showBytes 37 = .ok (.return_, 1) := by decide +kernel
abbrev b_Sn_blanksOnlyEnd : ByteArray := prog_5_method_9_code
abbrev y_Sn_blanksOnlyEnd : MethodName := ⟨"LongNames$ShortName", "blanksOnlyEnd", "(II)Z"⟩
abbrev w_Sn_blanksOnlyEnd : List Cond := .code y_Sn_blanksOnlyEnd b_Sn_blanksOnlyEnd 5 (some .boolean) :: BIG
theorem d_Sn_blanksOnlyEnd_0 : decode b_Sn_blanksOnlyEnd 0 = .ok (.iconst 0, 1) := by decide +kernel
theorem d_Sn_blanksOnlyEnd_1 : decode b_Sn_blanksOnlyEnd 1 = .ok (.istore_n 3, 1) := by decide +kernel
theorem d_Sn_blanksOnlyEnd_2 : decode b_Sn_blanksOnlyEnd 2 = .ok (.iload_n 1, 1) := by decide +kernel
theorem d_Sn_blanksOnlyEnd_3 : decode b_Sn_blanksOnlyEnd 3 = .ok (.istore 4, 2) := by decide +kernel
theorem d_Sn_blanksOnlyEnd_5 : decode b_Sn_blanksOnlyEnd 5 = .ok (.iload 4, 2) := by decide +kernel
theorem d_Sn_blanksOnlyEnd_7 : decode b_Sn_blanksOnlyEnd 7 = .ok (.iload_n 2, 1) := by decide +kernel
theorem d_Sn_blanksOnlyEnd_8 : decode b_Sn_blanksOnlyEnd 8 = .ok (.if_icmp .ge 43, 3) := by decide +kernel
theorem d_Sn_blanksOnlyEnd_11 : decode b_Sn_blanksOnlyEnd 11 = .ok (.aload_n 0, 1) := by decide +kernel
theorem d_Sn_blanksOnlyEnd_12 : decode b_Sn_blanksOnlyEnd 12 = .ok (.iload 4, 2) := by decide +kernel
theorem d_Sn_blanksOnlyEnd_14 : decode b_Sn_blanksOnlyEnd 14 = .ok (.invokevirtual 52, 3) := by decide +kernel
theorem d_Sn_blanksOnlyEnd_17 : decode b_Sn_blanksOnlyEnd 17 = .ok (.bipush 32, 2) := by decide +kernel
theorem d_Sn_blanksOnlyEnd_19 : decode b_Sn_blanksOnlyEnd 19 = .ok (.if_icmp .ne 8, 3) := by decide +kernel
theorem d_Sn_blanksOnlyEnd_22 : decode b_Sn_blanksOnlyEnd 22 = .ok (.iconst 1, 1) := by decide +kernel
theorem d_Sn_blanksOnlyEnd_23 : decode b_Sn_blanksOnlyEnd 23 = .ok (.istore_n 3, 1) := by decide +kernel
theorem d_Sn_blanksOnlyEnd_24 : decode b_Sn_blanksOnlyEnd 24 = .ok (.goto 21, 3) := by decide +kernel
theorem d_Sn_blanksOnlyEnd_27 : decode b_Sn_blanksOnlyEnd 27 = .ok (.iload_n 3, 1) := by decide +kernel
theorem d_Sn_blanksOnlyEnd_28 : decode b_Sn_blanksOnlyEnd 28 = .ok (.ifCond .ne 15, 3) := by decide +kernel
theorem d_Sn_blanksOnlyEnd_31 : decode b_Sn_blanksOnlyEnd 31 = .ok (.aload_n 0, 1) := by decide +kernel
theorem d_Sn_blanksOnlyEnd_32 : decode b_Sn_blanksOnlyEnd 32 = .ok (.iload 4, 2) := by decide +kernel
theorem d_Sn_blanksOnlyEnd_34 : decode b_Sn_blanksOnlyEnd 34 = .ok (.invokevirtual 52, 3) := by decide +kernel
theorem d_Sn_blanksOnlyEnd_37 : decode b_Sn_blanksOnlyEnd 37 = .ok (.invokestatic 70, 3) := by decide +kernel
theorem d_Sn_blanksOnlyEnd_40 : decode b_Sn_blanksOnlyEnd 40 = .ok (.ifCond .ne 5, 3) := by decide +kernel
theorem d_Sn_blanksOnlyEnd_43 : decode b_Sn_blanksOnlyEnd 43 = .ok (.iconst 0, 1) := by decide +kernel
theorem d_Sn_blanksOnlyEnd_44 : decode b_Sn_blanksOnlyEnd 44 = .ok (.ireturn, 1) := by decide +kernel
theorem d_Sn_blanksOnlyEnd_45 : decode b_Sn_blanksOnlyEnd 45 = .ok (.iinc 4 1, 3) := by decide +kernel
theorem d_Sn_blanksOnlyEnd_48 : decode b_Sn_blanksOnlyEnd 48 = .ok (.goto (-43), 3) := by decide +kernel
theorem d_Sn_blanksOnlyEnd_51 : decode b_Sn_blanksOnlyEnd 51 = .ok (.iconst 1, 1) := by decide +kernel
theorem d_Sn_blanksOnlyEnd_52 : decode b_Sn_blanksOnlyEnd 52 = .ok (.ireturn, 1) := by decide +kernel
abbrev b_Sn_shorten : ByteArray := prog_5_method_10_code
abbrev y_Sn_shorten : MethodName := ⟨"LongNames$ShortName", "shorten", "(LLongNames$Row;IIII)I"⟩
abbrev w_Sn_shorten : List Cond := .code y_Sn_shorten b_Sn_shorten 9 (some .int) :: BIG
theorem d_Sn_shorten_0 : decode b_Sn_shorten 0 = .ok (.iconst 0, 1) := by decide +kernel
theorem d_Sn_shorten_1 : decode b_Sn_shorten 1 = .ok (.istore 6, 2) := by decide +kernel
theorem d_Sn_shorten_3 : decode b_Sn_shorten 3 = .ok (.iload_n 2, 1) := by decide +kernel
theorem d_Sn_shorten_4 : decode b_Sn_shorten 4 = .ok (.istore 7, 2) := by decide +kernel
theorem d_Sn_shorten_6 : decode b_Sn_shorten 6 = .ok (.iload 7, 2) := by decide +kernel
theorem d_Sn_shorten_8 : decode b_Sn_shorten 8 = .ok (.iload_n 3, 1) := by decide +kernel
theorem d_Sn_shorten_9 : decode b_Sn_shorten 9 = .ok (.if_icmp .ge 55, 3) := by decide +kernel
theorem d_Sn_shorten_12 : decode b_Sn_shorten 12 = .ok (.iload 6, 2) := by decide +kernel
theorem d_Sn_shorten_14 : decode b_Sn_shorten 14 = .ok (.iload 5, 2) := by decide +kernel
theorem d_Sn_shorten_16 : decode b_Sn_shorten 16 = .ok (.if_icmp .ge 48, 3) := by decide +kernel
theorem d_Sn_shorten_19 : decode b_Sn_shorten 19 = .ok (.aload_n 1, 1) := by decide +kernel
theorem d_Sn_shorten_20 : decode b_Sn_shorten 20 = .ok (.iload 7, 2) := by decide +kernel
theorem d_Sn_shorten_22 : decode b_Sn_shorten 22 = .ok (.invokevirtual 75, 3) := by decide +kernel
theorem d_Sn_shorten_25 : decode b_Sn_shorten 25 = .ok (.istore 8, 2) := by decide +kernel
theorem d_Sn_shorten_27 : decode b_Sn_shorten 27 = .ok (.iload 8, 2) := by decide +kernel
theorem d_Sn_shorten_29 : decode b_Sn_shorten 29 = .ok (.bipush 32, 2) := by decide +kernel
theorem d_Sn_shorten_31 : decode b_Sn_shorten 31 = .ok (.if_icmp .eq 27, 3) := by decide +kernel
theorem d_Sn_shorten_34 : decode b_Sn_shorten 34 = .ok (.iload 8, 2) := by decide +kernel
theorem d_Sn_shorten_36 : decode b_Sn_shorten 36 = .ok (.bipush 46, 2) := by decide +kernel
theorem d_Sn_shorten_38 : decode b_Sn_shorten 38 = .ok (.if_icmp .eq 20, 3) := by decide +kernel
theorem d_Sn_shorten_41 : decode b_Sn_shorten 41 = .ok (.aload_n 0, 1) := by decide +kernel
theorem d_Sn_shorten_42 : decode b_Sn_shorten 42 = .ok (.iload 4, 2) := by decide +kernel
theorem d_Sn_shorten_44 : decode b_Sn_shorten 44 = .ok (.iload 6, 2) := by decide +kernel
theorem d_Sn_shorten_46 : decode b_Sn_shorten 46 = .ok (.iadd, 1) := by decide +kernel
theorem d_Sn_shorten_47 : decode b_Sn_shorten 47 = .ok (.iload 8, 2) := by decide +kernel
theorem d_Sn_shorten_49 : decode b_Sn_shorten 49 = .ok (.invokestatic 76, 3) := by decide +kernel
theorem d_Sn_shorten_52 : decode b_Sn_shorten 52 = .ok (.invokevirtual 38, 3) := by decide +kernel
theorem d_Sn_shorten_55 : decode b_Sn_shorten 55 = .ok (.iinc 6 1, 3) := by decide +kernel
theorem d_Sn_shorten_58 : decode b_Sn_shorten 58 = .ok (.iinc 7 1, 3) := by decide +kernel
theorem d_Sn_shorten_61 : decode b_Sn_shorten 61 = .ok (.goto (-55), 3) := by decide +kernel
theorem d_Sn_shorten_64 : decode b_Sn_shorten 64 = .ok (.iload 6, 2) := by decide +kernel
theorem d_Sn_shorten_66 : decode b_Sn_shorten 66 = .ok (.ireturn, 1) := by decide +kernel
abbrev b_Sn_setNumber : ByteArray := prog_5_method_11_code
abbrev y_Sn_setNumber : MethodName := ⟨"LongNames$ShortName", "setNumber", "(III)V"⟩
abbrev w_Sn_setNumber : List Cond := .code y_Sn_setNumber b_Sn_setNumber 6 none :: BIG
theorem d_Sn_setNumber_0 : decode b_Sn_setNumber 0 = .ok (.iload_n 3, 1) := by decide +kernel
theorem d_Sn_setNumber_1 : decode b_Sn_setNumber 1 = .ok (.istore 4, 2) := by decide +kernel
theorem d_Sn_setNumber_3 : decode b_Sn_setNumber 3 = .ok (.iload_n 2, 1) := by decide +kernel
theorem d_Sn_setNumber_4 : decode b_Sn_setNumber 4 = .ok (.iconst 1, 1) := by decide +kernel
theorem d_Sn_setNumber_5 : decode b_Sn_setNumber 5 = .ok (.isub, 1) := by decide +kernel
theorem d_Sn_setNumber_6 : decode b_Sn_setNumber 6 = .ok (.istore 5, 2) := by decide +kernel
theorem d_Sn_setNumber_8 : decode b_Sn_setNumber 8 = .ok (.iload 5, 2) := by decide +kernel
theorem d_Sn_setNumber_10 : decode b_Sn_setNumber 10 = .ok (.ifCond .lt 32, 3) := by decide +kernel
theorem d_Sn_setNumber_13 : decode b_Sn_setNumber 13 = .ok (.aload_n 0, 1) := by decide +kernel
theorem d_Sn_setNumber_14 : decode b_Sn_setNumber 14 = .ok (.iload_n 1, 1) := by decide +kernel
theorem d_Sn_setNumber_15 : decode b_Sn_setNumber 15 = .ok (.iload 5, 2) := by decide +kernel
theorem d_Sn_setNumber_17 : decode b_Sn_setNumber 17 = .ok (.iadd, 1) := by decide +kernel
theorem d_Sn_setNumber_18 : decode b_Sn_setNumber 18 = .ok (.bipush 48, 2) := by decide +kernel
theorem d_Sn_setNumber_20 : decode b_Sn_setNumber 20 = .ok (.iload 4, 2) := by decide +kernel
theorem d_Sn_setNumber_22 : decode b_Sn_setNumber 22 = .ok (.bipush 10, 2) := by decide +kernel
theorem d_Sn_setNumber_24 : decode b_Sn_setNumber 24 = .ok (.irem, 1) := by decide +kernel
theorem d_Sn_setNumber_25 : decode b_Sn_setNumber 25 = .ok (.iadd, 1) := by decide +kernel
theorem d_Sn_setNumber_26 : decode b_Sn_setNumber 26 = .ok (.invokevirtual 38, 3) := by decide +kernel
theorem d_Sn_setNumber_29 : decode b_Sn_setNumber 29 = .ok (.iload 4, 2) := by decide +kernel
theorem d_Sn_setNumber_31 : decode b_Sn_setNumber 31 = .ok (.bipush 10, 2) := by decide +kernel
theorem d_Sn_setNumber_33 : decode b_Sn_setNumber 33 = .ok (.idiv, 1) := by decide +kernel
theorem d_Sn_setNumber_34 : decode b_Sn_setNumber 34 = .ok (.istore 4, 2) := by decide +kernel
theorem d_Sn_setNumber_36 : decode b_Sn_setNumber 36 = .ok (.iinc 5 (-1), 3) := by decide +kernel
theorem d_Sn_setNumber_39 : decode b_Sn_setNumber 39 = .ok (.goto (-31), 3) := by decide +kernel
theorem d_Sn_setNumber_42 : decode b_Sn_setNumber 42 = .ok (.return_, 1) := by decide +kernel
abbrev b_Sn_digitsOf : ByteArray := prog_5_method_12_code
abbrev y_Sn_digitsOf : MethodName := ⟨"LongNames$ShortName", "digitsOf", "(I)I"⟩
abbrev w_Sn_digitsOf : List Cond := .code y_Sn_digitsOf b_Sn_digitsOf 1 (some .int) :: BIG
theorem d_Sn_digitsOf_0 : decode b_Sn_digitsOf 0 = .ok (.iload_n 0, 1) := by decide +kernel
theorem d_Sn_digitsOf_1 : decode b_Sn_digitsOf 1 = .ok (.bipush 100, 2) := by decide +kernel
theorem d_Sn_digitsOf_3 : decode b_Sn_digitsOf 3 = .ok (.if_icmp .ge 15, 3) := by decide +kernel
theorem d_Sn_digitsOf_6 : decode b_Sn_digitsOf 6 = .ok (.iload_n 0, 1) := by decide +kernel
theorem d_Sn_digitsOf_7 : decode b_Sn_digitsOf 7 = .ok (.bipush 10, 2) := by decide +kernel
theorem d_Sn_digitsOf_9 : decode b_Sn_digitsOf 9 = .ok (.if_icmp .ge 7, 3) := by decide +kernel
theorem d_Sn_digitsOf_12 : decode b_Sn_digitsOf 12 = .ok (.iconst 1, 1) := by decide +kernel
theorem d_Sn_digitsOf_13 : decode b_Sn_digitsOf 13 = .ok (.goto 4, 3) := by decide +kernel
theorem d_Sn_digitsOf_16 : decode b_Sn_digitsOf 16 = .ok (.iconst 2, 1) := by decide +kernel
theorem d_Sn_digitsOf_17 : decode b_Sn_digitsOf 17 = .ok (.ireturn, 1) := by decide +kernel
theorem d_Sn_digitsOf_18 : decode b_Sn_digitsOf 18 = .ok (.iload_n 0, 1) := by decide +kernel
theorem d_Sn_digitsOf_19 : decode b_Sn_digitsOf 19 = .ok (.sipush 1000, 3) := by decide +kernel
theorem d_Sn_digitsOf_22 : decode b_Sn_digitsOf 22 = .ok (.if_icmp .ge 7, 3) := by decide +kernel
theorem d_Sn_digitsOf_25 : decode b_Sn_digitsOf 25 = .ok (.iconst 3, 1) := by decide +kernel
theorem d_Sn_digitsOf_26 : decode b_Sn_digitsOf 26 = .ok (.goto 4, 3) := by decide +kernel
theorem d_Sn_digitsOf_29 : decode b_Sn_digitsOf 29 = .ok (.iconst 4, 1) := by decide +kernel
theorem d_Sn_digitsOf_30 : decode b_Sn_digitsOf 30 = .ok (.ireturn, 1) := by decide +kernel
abbrev b_Sn_set : ByteArray := prog_5_method_13_code
abbrev y_Sn_set : MethodName := ⟨"LongNames$ShortName", "set", "(II)V"⟩
abbrev w_Sn_set : List Cond := .code y_Sn_set b_Sn_set 3 none :: BIG
theorem d_Sn_set_0 : decode b_Sn_set 0 = .ok (.iload_n 1, 1) := by decide +kernel
theorem d_Sn_set_1 : decode b_Sn_set 1 = .ok (.ifCond .lt 16, 3) := by decide +kernel
theorem d_Sn_set_4 : decode b_Sn_set 4 = .ok (.iload_n 1, 1) := by decide +kernel
theorem d_Sn_set_5 : decode b_Sn_set 5 = .ok (.bipush 11, 2) := by decide +kernel
theorem d_Sn_set_7 : decode b_Sn_set 7 = .ok (.if_icmp .ge 10, 3) := by decide +kernel
theorem d_Sn_set_10 : decode b_Sn_set 10 = .ok (.aload_n 0, 1) := by decide +kernel
theorem d_Sn_set_11 : decode b_Sn_set 11 = .ok (.getfield 11, 3) := by decide +kernel
theorem d_Sn_set_14 : decode b_Sn_set 14 = .ok (.iload_n 1, 1) := by decide +kernel
theorem d_Sn_set_15 : decode b_Sn_set 15 = .ok (.iload_n 2, 1) := by decide +kernel
theorem d_Sn_set_16 : decode b_Sn_set 16 = .ok (.iastore, 1) := by decide +kernel
theorem d_Sn_set_17 : decode b_Sn_set 17 = .ok (.return_, 1) := by decide +kernel
abbrev b_Sn_get : ByteArray := prog_5_method_14_code
abbrev y_Sn_get : MethodName := ⟨"LongNames$ShortName", "get", "(I)I"⟩
abbrev w_Sn_get : List Cond := .code y_Sn_get b_Sn_get 2 (some .int) :: BIG
theorem d_Sn_get_0 : decode b_Sn_get 0 = .ok (.iload_n 1, 1) := by decide +kernel
theorem d_Sn_get_1 : decode b_Sn_get 1 = .ok (.ifCond .lt 18, 3) := by decide +kernel
theorem d_Sn_get_4 : decode b_Sn_get 4 = .ok (.iload_n 1, 1) := by decide +kernel
theorem d_Sn_get_5 : decode b_Sn_get 5 = .ok (.bipush 11, 2) := by decide +kernel
theorem d_Sn_get_7 : decode b_Sn_get 7 = .ok (.if_icmp .ge 12, 3) := by decide +kernel
theorem d_Sn_get_10 : decode b_Sn_get 10 = .ok (.aload_n 0, 1) := by decide +kernel
theorem d_Sn_get_11 : decode b_Sn_get 11 = .ok (.getfield 11, 3) := by decide +kernel
theorem d_Sn_get_14 : decode b_Sn_get 14 = .ok (.iload_n 1, 1) := by decide +kernel
theorem d_Sn_get_15 : decode b_Sn_get 15 = .ok (.iaload, 1) := by decide +kernel
theorem d_Sn_get_16 : decode b_Sn_get 16 = .ok (.goto 4, 3) := by decide +kernel
theorem d_Sn_get_19 : decode b_Sn_get 19 = .ok (.iconst (-1), 1) := by decide +kernel
theorem d_Sn_get_20 : decode b_Sn_get 20 = .ok (.ireturn, 1) := by decide +kernel
abbrev b_Pt_init : ByteArray := prog_3_method_1_code
abbrev y_Pt_init : MethodName := ⟨"LongNames$Part", "<init>", "()V"⟩
abbrev w_Pt_init : List Cond := .code y_Pt_init b_Pt_init 1 none :: BIG
theorem d_Pt_init_0 : decode b_Pt_init 0 = .ok (.aload_n 0, 1) := by decide +kernel
theorem d_Pt_init_1 : decode b_Pt_init 1 = .ok (.invokespecial 3, 3) := by decide +kernel
theorem d_Pt_init_4 : decode b_Pt_init 4 = .ok (.aload_n 0, 1) := by decide +kernel
theorem d_Pt_init_5 : decode b_Pt_init 5 = .ok (.bipush 32, 2) := by decide +kernel
theorem d_Pt_init_7 : decode b_Pt_init 7 = .ok (.newarray .int, 2) := by decide +kernel
theorem d_Pt_init_9 : decode b_Pt_init 9 = .ok (.putfield 11, 3) := by decide +kernel
theorem d_Pt_init_12 : decode b_Pt_init 12 = .ok (.return_, 1) := by decide +kernel
abbrev b_Pt_build : ByteArray := prog_3_method_2_code
abbrev y_Pt_build : MethodName := ⟨"LongNames$Part", "build", "(LLongNames$Row;II)V"⟩
abbrev w_Pt_build : List Cond := .code y_Pt_build b_Pt_build 6 none :: BIG
theorem d_Pt_build_0 : decode b_Pt_build 0 = .ok (.aload_n 0, 1) := by decide +kernel
theorem d_Pt_build_1 : decode b_Pt_build 1 = .ok (.getfield 11, 3) := by decide +kernel
theorem d_Pt_build_4 : decode b_Pt_build 4 = .ok (.iconst 0, 1) := by decide +kernel
theorem d_Pt_build_5 : decode b_Pt_build 5 = .ok (.invokestatic 17, 3) := by decide +kernel
theorem d_Pt_build_8 : decode b_Pt_build 8 = .ok (.aload_n 0, 1) := by decide +kernel
theorem d_Pt_build_9 : decode b_Pt_build 9 = .ok (.iconst 0, 1) := by decide +kernel
theorem d_Pt_build_10 : decode b_Pt_build 10 = .ok (.iload_n 2, 1) := by decide +kernel
theorem d_Pt_build_11 : decode b_Pt_build 11 = .ok (.aload_n 1, 1) := by decide +kernel
theorem d_Pt_build_12 : decode b_Pt_build 12 = .ok (.invokevirtual 23, 3) := by decide +kernel
theorem d_Pt_build_15 : decode b_Pt_build 15 = .ok (.if_icmp .ne 10, 3) := by decide +kernel
theorem d_Pt_build_18 : decode b_Pt_build 18 = .ok (.iload_n 2, 1) := by decide +kernel
theorem d_Pt_build_19 : decode b_Pt_build 19 = .ok (.bipush 64, 2) := by decide +kernel
theorem d_Pt_build_21 : decode b_Pt_build 21 = .ok (.iadd, 1) := by decide +kernel
theorem d_Pt_build_22 : decode b_Pt_build 22 = .ok (.goto 4, 3) := by decide +kernel
theorem d_Pt_build_25 : decode b_Pt_build 25 = .ok (.iload_n 2, 1) := by decide +kernel
theorem d_Pt_build_26 : decode b_Pt_build 26 = .ok (.invokevirtual 29, 3) := by decide +kernel
theorem d_Pt_build_29 : decode b_Pt_build 29 = .ok (.aload_n 0, 1) := by decide +kernel
theorem d_Pt_build_30 : decode b_Pt_build 30 = .ok (.bipush 11, 2) := by decide +kernel
theorem d_Pt_build_32 : decode b_Pt_build 32 = .ok (.bipush 15, 2) := by decide +kernel
theorem d_Pt_build_34 : decode b_Pt_build 34 = .ok (.invokevirtual 29, 3) := by decide +kernel
theorem d_Pt_build_37 : decode b_Pt_build 37 = .ok (.aload_n 0, 1) := by decide +kernel
theorem d_Pt_build_38 : decode b_Pt_build 38 = .ok (.bipush 13, 2) := by decide +kernel
theorem d_Pt_build_40 : decode b_Pt_build 40 = .ok (.iload_n 3, 1) := by decide +kernel
theorem d_Pt_build_41 : decode b_Pt_build 41 = .ok (.invokevirtual 29, 3) := by decide +kernel
theorem d_Pt_build_44 : decode b_Pt_build 44 = .ok (.iconst 0, 1) := by decide +kernel
theorem d_Pt_build_45 : decode b_Pt_build 45 = .ok (.istore 4, 2) := by decide +kernel
theorem d_Pt_build_47 : decode b_Pt_build 47 = .ok (.iload 4, 2) := by decide +kernel
theorem d_Pt_build_49 : decode b_Pt_build 49 = .ok (.bipush 13, 2) := by decide +kernel
theorem d_Pt_build_51 : decode b_Pt_build 51 = .ok (.if_icmp .ge 55, 3) := by decide +kernel
theorem d_Pt_build_54 : decode b_Pt_build 54 = .ok (.aload_n 1, 1) := by decide +kernel
theorem d_Pt_build_55 : decode b_Pt_build 55 = .ok (.bipush 13, 2) := by decide +kernel
theorem d_Pt_build_57 : decode b_Pt_build 57 = .ok (.iload_n 2, 1) := by decide +kernel
theorem d_Pt_build_58 : decode b_Pt_build 58 = .ok (.iconst 1, 1) := by decide +kernel
theorem d_Pt_build_59 : decode b_Pt_build 59 = .ok (.isub, 1) := by decide +kernel
theorem d_Pt_build_60 : decode b_Pt_build 60 = .ok (.imul, 1) := by decide +kernel
theorem d_Pt_build_61 : decode b_Pt_build 61 = .ok (.iload 4, 2) := by decide +kernel
theorem d_Pt_build_63 : decode b_Pt_build 63 = .ok (.iadd, 1) := by decide +kernel
theorem d_Pt_build_64 : decode b_Pt_build 64 = .ok (.invokestatic 33, 3) := by decide +kernel
theorem d_Pt_build_67 : decode b_Pt_build 67 = .ok (.istore 5, 2) := by decide +kernel
theorem d_Pt_build_69 : decode b_Pt_build 69 = .ok (.aload_n 0, 1) := by decide +kernel
theorem d_Pt_build_70 : decode b_Pt_build 70 = .ok (.iload 4, 2) := by decide +kernel
theorem d_Pt_build_72 : decode b_Pt_build 72 = .ok (.invokestatic 37, 3) := by decide +kernel
theorem d_Pt_build_75 : decode b_Pt_build 75 = .ok (.iload 5, 2) := by decide +kernel
theorem d_Pt_build_77 : decode b_Pt_build 77 = .ok (.sipush 255, 3) := by decide +kernel
theorem d_Pt_build_80 : decode b_Pt_build 80 = .ok (.iand, 1) := by decide +kernel
theorem d_Pt_build_81 : decode b_Pt_build 81 = .ok (.invokevirtual 29, 3) := by decide +kernel
theorem d_Pt_build_84 : decode b_Pt_build 84 = .ok (.aload_n 0, 1) := by decide +kernel
theorem d_Pt_build_85 : decode b_Pt_build 85 = .ok (.iload 4, 2) := by decide +kernel
theorem d_Pt_build_87 : decode b_Pt_build 87 = .ok (.invokestatic 37, 3) := by decide +kernel
theorem d_Pt_build_90 : decode b_Pt_build 90 = .ok (.iconst 1, 1) := by decide +kernel
theorem d_Pt_build_91 : decode b_Pt_build 91 = .ok (.iadd, 1) := by decide +kernel
theorem d_Pt_build_92 : decode b_Pt_build 92 = .ok (.iload 5, 2) := by decide +kernel
theorem d_Pt_build_94 : decode b_Pt_build 94 = .ok (.bipush 8, 2) := by decide +kernel
theorem d_Pt_build_96 : decode b_Pt_build 96 = .ok (.ishr, 1) := by decide +kernel
theorem d_Pt_build_97 : decode b_Pt_build 97 = .ok (.invokevirtual 29, 3) := by decide +kernel
theorem d_Pt_build_100 : decode b_Pt_build 100 = .ok (.iinc 4 1, 3) := by decide +kernel
theorem d_Pt_build_103 : decode b_Pt_build 103 = .ok (.goto (-56), 3) := by decide +kernel
theorem d_Pt_build_106 : decode b_Pt_build 106 = .ok (.return_, 1) := by decide +kernel
abbrev b_Pt_storeIn : ByteArray := prog_3_method_3_code
abbrev y_Pt_storeIn : MethodName := ⟨"LongNames$Part", "storeIn", "(LLongNames$Slots;I)V"⟩
abbrev w_Pt_storeIn : List Cond := .code y_Pt_storeIn b_Pt_storeIn 4 none :: BIG
theorem d_Pt_storeIn_0 : decode b_Pt_storeIn 0 = .ok (.iconst 0, 1) := by decide +kernel
theorem d_Pt_storeIn_1 : decode b_Pt_storeIn 1 = .ok (.istore_n 3, 1) := by decide +kernel
theorem d_Pt_storeIn_2 : decode b_Pt_storeIn 2 = .ok (.iload_n 3, 1) := by decide +kernel
theorem d_Pt_storeIn_3 : decode b_Pt_storeIn 3 = .ok (.bipush 32, 2) := by decide +kernel
theorem d_Pt_storeIn_5 : decode b_Pt_storeIn 5 = .ok (.if_icmp .ge 21, 3) := by decide +kernel
theorem d_Pt_storeIn_8 : decode b_Pt_storeIn 8 = .ok (.aload_n 1, 1) := by decide +kernel
theorem d_Pt_storeIn_9 : decode b_Pt_storeIn 9 = .ok (.iload_n 2, 1) := by decide +kernel
theorem d_Pt_storeIn_10 : decode b_Pt_storeIn 10 = .ok (.iload_n 3, 1) := by decide +kernel
theorem d_Pt_storeIn_11 : decode b_Pt_storeIn 11 = .ok (.aload_n 0, 1) := by decide +kernel
theorem d_Pt_storeIn_12 : decode b_Pt_storeIn 12 = .ok (.iload_n 3, 1) := by decide +kernel
theorem d_Pt_storeIn_13 : decode b_Pt_storeIn 13 = .ok (.invokevirtual 41, 3) := by decide +kernel
theorem d_Pt_storeIn_16 : decode b_Pt_storeIn 16 = .ok (.invokevirtual 44, 3) := by decide +kernel
theorem d_Pt_storeIn_19 : decode b_Pt_storeIn 19 = .ok (.pop, 1) := by decide +kernel
theorem d_Pt_storeIn_20 : decode b_Pt_storeIn 20 = .ok (.iinc 3 1, 3) := by decide +kernel
theorem d_Pt_storeIn_23 : decode b_Pt_storeIn 23 = .ok (.goto (-21), 3) := by decide +kernel
theorem d_Pt_storeIn_26 : decode b_Pt_storeIn 26 = .ok (.return_, 1) := by decide +kernel
abbrev b_Pt_isIn : ByteArray := prog_3_method_4_code
abbrev y_Pt_isIn : MethodName := ⟨"LongNames$Part", "isIn", "(LLongNames$Slots;I)Z"⟩
abbrev w_Pt_isIn : List Cond := .code y_Pt_isIn b_Pt_isIn 4 (some .boolean) :: BIG
theorem d_Pt_isIn_0 : decode b_Pt_isIn 0 = .ok (.iconst 0, 1) := by decide +kernel
theorem d_Pt_isIn_1 : decode b_Pt_isIn 1 = .ok (.istore_n 3, 1) := by decide +kernel
theorem d_Pt_isIn_2 : decode b_Pt_isIn 2 = .ok (.iload_n 3, 1) := by decide +kernel
theorem d_Pt_isIn_3 : decode b_Pt_isIn 3 = .ok (.bipush 32, 2) := by decide +kernel
theorem d_Pt_isIn_5 : decode b_Pt_isIn 5 = .ok (.if_icmp .ge 25, 3) := by decide +kernel
theorem d_Pt_isIn_8 : decode b_Pt_isIn 8 = .ok (.aload_n 1, 1) := by decide +kernel
theorem d_Pt_isIn_9 : decode b_Pt_isIn 9 = .ok (.iload_n 2, 1) := by decide +kernel
theorem d_Pt_isIn_10 : decode b_Pt_isIn 10 = .ok (.iload_n 3, 1) := by decide +kernel
theorem d_Pt_isIn_11 : decode b_Pt_isIn 11 = .ok (.invokevirtual 48, 3) := by decide +kernel
theorem d_Pt_isIn_14 : decode b_Pt_isIn 14 = .ok (.aload_n 0, 1) := by decide +kernel
theorem d_Pt_isIn_15 : decode b_Pt_isIn 15 = .ok (.iload_n 3, 1) := by decide +kernel
theorem d_Pt_isIn_16 : decode b_Pt_isIn 16 = .ok (.invokevirtual 41, 3) := by decide +kernel
theorem d_Pt_isIn_19 : decode b_Pt_isIn 19 = .ok (.if_icmp .eq 5, 3) := by decide +kernel
theorem d_Pt_isIn_22 : decode b_Pt_isIn 22 = .ok (.iconst 0, 1) := by decide +kernel
theorem d_Pt_isIn_23 : decode b_Pt_isIn 23 = .ok (.ireturn, 1) := by decide +kernel
theorem d_Pt_isIn_24 : decode b_Pt_isIn 24 = .ok (.iinc 3 1, 3) := by decide +kernel
theorem d_Pt_isIn_27 : decode b_Pt_isIn 27 = .ok (.goto (-25), 3) := by decide +kernel
theorem d_Pt_isIn_30 : decode b_Pt_isIn 30 = .ok (.iconst 1, 1) := by decide +kernel
theorem d_Pt_isIn_31 : decode b_Pt_isIn 31 = .ok (.ireturn, 1) := by decide +kernel
abbrev b_Pt_unitIn : ByteArray := prog_3_method_5_code
abbrev y_Pt_unitIn : MethodName := ⟨"LongNames$Part", "unitIn", "(LLongNames$Slots;II)I"⟩
abbrev w_Pt_unitIn : List Cond := .code y_Pt_unitIn b_Pt_unitIn 4 (some .int) :: BIG
theorem d_Pt_unitIn_0 : decode b_Pt_unitIn 0 = .ok (.iload_n 2, 1) := by decide +kernel
theorem d_Pt_unitIn_1 : decode b_Pt_unitIn 1 = .ok (.invokestatic 37, 3) := by decide +kernel
theorem d_Pt_unitIn_4 : decode b_Pt_unitIn 4 = .ok (.istore_n 3, 1) := by decide +kernel
theorem d_Pt_unitIn_5 : decode b_Pt_unitIn 5 = .ok (.aload_n 0, 1) := by decide +kernel
theorem d_Pt_unitIn_6 : decode b_Pt_unitIn 6 = .ok (.iload_n 1, 1) := by decide +kernel
theorem d_Pt_unitIn_7 : decode b_Pt_unitIn 7 = .ok (.iload_n 3, 1) := by decide +kernel
theorem d_Pt_unitIn_8 : decode b_Pt_unitIn 8 = .ok (.invokevirtual 48, 3) := by decide +kernel
theorem d_Pt_unitIn_11 : decode b_Pt_unitIn 11 = .ok (.sipush 256, 3) := by decide +kernel
theorem d_Pt_unitIn_14 : decode b_Pt_unitIn 14 = .ok (.aload_n 0, 1) := by decide +kernel
theorem d_Pt_unitIn_15 : decode b_Pt_unitIn 15 = .ok (.iload_n 1, 1) := by decide +kernel
theorem d_Pt_unitIn_16 : decode b_Pt_unitIn 16 = .ok (.iload_n 3, 1) := by decide +kernel
theorem d_Pt_unitIn_17 : decode b_Pt_unitIn 17 = .ok (.iconst 1, 1) := by decide +kernel
theorem d_Pt_unitIn_18 : decode b_Pt_unitIn 18 = .ok (.iadd, 1) := by decide +kernel
theorem d_Pt_unitIn_19 : decode b_Pt_unitIn 19 = .ok (.invokevirtual 48, 3) := by decide +kernel
theorem d_Pt_unitIn_22 : decode b_Pt_unitIn 22 = .ok (.imul, 1) := by decide +kernel
theorem d_Pt_unitIn_23 : decode b_Pt_unitIn 23 = .ok (.iadd, 1) := by decide +kernel
theorem d_Pt_unitIn_24 : decode b_Pt_unitIn 24 = .ok (.ireturn, 1) := by decide +kernel
abbrev b_Pt_unitOrFill : ByteArray := prog_3_method_6_code
abbrev y_Pt_unitOrFill : MethodName := ⟨"LongNames$Part", "unitOrFill", "(LLongNames$Row;I)I"⟩
abbrev w_Pt_unitOrFill : List Cond := .code y_Pt_unitOrFill b_Pt_unitOrFill 2 (some .int) :: BIG
theorem d_Pt_unitOrFill_0 : decode b_Pt_unitOrFill 0 = .ok (.iload_n 1, 1) := by decide +kernel
theorem d_Pt_unitOrFill_1 : decode b_Pt_unitOrFill 1 = .ok (.aload_n 0, 1) := by decide +kernel
theorem d_Pt_unitOrFill_2 : decode b_Pt_unitOrFill 2 = .ok (.invokevirtual 51, 3) := by decide +kernel
theorem d_Pt_unitOrFill_5 : decode b_Pt_unitOrFill 5 = .ok (.if_icmp .ge 9, 3) := by decide +kernel
theorem d_Pt_unitOrFill_8 : decode b_Pt_unitOrFill 8 = .ok (.aload_n 0, 1) := by decide +kernel
theorem d_Pt_unitOrFill_9 : decode b_Pt_unitOrFill 9 = .ok (.iload_n 1, 1) := by decide +kernel
theorem d_Pt_unitOrFill_10 : decode b_Pt_unitOrFill 10 = .ok (.invokevirtual 54, 3) := by decide +kernel
theorem d_Pt_unitOrFill_13 : decode b_Pt_unitOrFill 13 = .ok (.ireturn, 1) := by decide +kernel
theorem d_Pt_unitOrFill_14 : decode b_Pt_unitOrFill 14 = .ok (.iload_n 1, 1) := by decide +kernel
theorem d_Pt_unitOrFill_15 : decode b_Pt_unitOrFill 15 = .ok (.aload_n 0, 1) := by decide +kernel
theorem d_Pt_unitOrFill_16 : decode b_Pt_unitOrFill 16 = .ok (.invokevirtual 51, 3) := by decide +kernel
theorem d_Pt_unitOrFill_19 : decode b_Pt_unitOrFill 19 = .ok (.if_icmp .ne 7, 3) := by decide +kernel
theorem d_Pt_unitOrFill_22 : decode b_Pt_unitOrFill 22 = .ok (.iconst 0, 1) := by decide +kernel
theorem d_Pt_unitOrFill_23 : decode b_Pt_unitOrFill 23 = .ok (.goto 5, 3) := by decide +kernel
theorem d_Pt_unitOrFill_26 : decode b_Pt_unitOrFill 26 = .ok (.ldc 55, 2) := by decide +kernel
theorem d_Pt_unitOrFill_28 : decode b_Pt_unitOrFill 28 = .ok (.ireturn, 1) := by decide +kernel
abbrev b_Pt_placeOf : ByteArray := prog_3_method_7_code
abbrev y_Pt_placeOf : MethodName := ⟨"LongNames$Part", "placeOf", "(I)I"⟩
abbrev w_Pt_placeOf : List Cond := .code y_Pt_placeOf b_Pt_placeOf 1 (some .int) :: BIG
theorem d_Pt_placeOf_0 : decode b_Pt_placeOf 0 = .ok (.iload_n 0, 1) := by decide +kernel
theorem d_Pt_placeOf_1 : decode b_Pt_placeOf 1 = .ok (.ifCond .lt 19, 3) := by decide +kernel
theorem d_Pt_placeOf_4 : decode b_Pt_placeOf 4 = .ok (.iload_n 0, 1) := by decide +kernel
theorem d_Pt_placeOf_5 : decode b_Pt_placeOf 5 = .ok (.getstatic 56, 3) := by decide +kernel
theorem d_Pt_placeOf_8 : decode b_Pt_placeOf 8 = .ok (.arraylength, 1) := by decide +kernel
theorem d_Pt_placeOf_9 : decode b_Pt_placeOf 9 = .ok (.if_icmp .ge 11, 3) := by decide +kernel
theorem d_Pt_placeOf_12 : decode b_Pt_placeOf 12 = .ok (.getstatic 56, 3) := by decide +kernel
theorem d_Pt_placeOf_15 : decode b_Pt_placeOf 15 = .ok (.iload_n 0, 1) := by decide +kernel
theorem d_Pt_placeOf_16 : decode b_Pt_placeOf 16 = .ok (.iaload, 1) := by decide +kernel
theorem d_Pt_placeOf_17 : decode b_Pt_placeOf 17 = .ok (.goto 4, 3) := by decide +kernel
theorem d_Pt_placeOf_20 : decode b_Pt_placeOf 20 = .ok (.iconst (-1), 1) := by decide +kernel
theorem d_Pt_placeOf_21 : decode b_Pt_placeOf 21 = .ok (.ireturn, 1) := by decide +kernel
abbrev b_Pt_set : ByteArray := prog_3_method_8_code
abbrev y_Pt_set : MethodName := ⟨"LongNames$Part", "set", "(II)V"⟩
abbrev w_Pt_set : List Cond := .code y_Pt_set b_Pt_set 3 none :: BIG
theorem d_Pt_set_0 : decode b_Pt_set 0 = .ok (.iload_n 1, 1) := by decide +kernel
theorem d_Pt_set_1 : decode b_Pt_set 1 = .ok (.ifCond .lt 16, 3) := by decide +kernel
theorem d_Pt_set_4 : decode b_Pt_set 4 = .ok (.iload_n 1, 1) := by decide +kernel
theorem d_Pt_set_5 : decode b_Pt_set 5 = .ok (.bipush 32, 2) := by decide +kernel
theorem d_Pt_set_7 : decode b_Pt_set 7 = .ok (.if_icmp .ge 10, 3) := by decide +kernel
theorem d_Pt_set_10 : decode b_Pt_set 10 = .ok (.aload_n 0, 1) := by decide +kernel
theorem d_Pt_set_11 : decode b_Pt_set 11 = .ok (.getfield 11, 3) := by decide +kernel
theorem d_Pt_set_14 : decode b_Pt_set 14 = .ok (.iload_n 1, 1) := by decide +kernel
theorem d_Pt_set_15 : decode b_Pt_set 15 = .ok (.iload_n 2, 1) := by decide +kernel
theorem d_Pt_set_16 : decode b_Pt_set 16 = .ok (.iastore, 1) := by decide +kernel
theorem d_Pt_set_17 : decode b_Pt_set 17 = .ok (.return_, 1) := by decide +kernel
abbrev b_Pt_get : ByteArray := prog_3_method_9_code
abbrev y_Pt_get : MethodName := ⟨"LongNames$Part", "get", "(I)I"⟩
abbrev w_Pt_get : List Cond := .code y_Pt_get b_Pt_get 2 (some .int) :: BIG
theorem d_Pt_get_0 : decode b_Pt_get 0 = .ok (.iload_n 1, 1) := by decide +kernel
theorem d_Pt_get_1 : decode b_Pt_get 1 = .ok (.ifCond .lt 18, 3) := by decide +kernel
theorem d_Pt_get_4 : decode b_Pt_get 4 = .ok (.iload_n 1, 1) := by decide +kernel
theorem d_Pt_get_5 : decode b_Pt_get 5 = .ok (.bipush 32, 2) := by decide +kernel
theorem d_Pt_get_7 : decode b_Pt_get 7 = .ok (.if_icmp .ge 12, 3) := by decide +kernel
theorem d_Pt_get_10 : decode b_Pt_get 10 = .ok (.aload_n 0, 1) := by decide +kernel
theorem d_Pt_get_11 : decode b_Pt_get 11 = .ok (.getfield 11, 3) := by decide +kernel
theorem d_Pt_get_14 : decode b_Pt_get 14 = .ok (.iload_n 1, 1) := by decide +kernel
theorem d_Pt_get_15 : decode b_Pt_get 15 = .ok (.iaload, 1) := by decide +kernel
theorem d_Pt_get_16 : decode b_Pt_get 16 = .ok (.goto 4, 3) := by decide +kernel
theorem d_Pt_get_19 : decode b_Pt_get 19 = .ok (.iconst (-1), 1) := by decide +kernel
theorem d_Pt_get_20 : decode b_Pt_get 20 = .ok (.ireturn, 1) := by decide +kernel
abbrev b_Sl_init : ByteArray := prog_6_method_1_code
abbrev y_Sl_init : MethodName := ⟨"LongNames$Slots", "<init>", "()V"⟩
abbrev w_Sl_init : List Cond := .code y_Sl_init b_Sl_init 1 none :: BIG
theorem d_Sl_init_0 : decode b_Sl_init 0 = .ok (.aload_n 0, 1) := by decide +kernel
theorem d_Sl_init_1 : decode b_Sl_init 1 = .ok (.invokespecial 3, 3) := by decide +kernel
theorem d_Sl_init_4 : decode b_Sl_init 4 = .ok (.aload_n 0, 1) := by decide +kernel
theorem d_Sl_init_5 : decode b_Sl_init 5 = .ok (.sipush 1024, 3) := by decide +kernel
theorem d_Sl_init_8 : decode b_Sl_init 8 = .ok (.newarray .int, 2) := by decide +kernel
theorem d_Sl_init_10 : decode b_Sl_init 10 = .ok (.putfield 11, 3) := by decide +kernel
theorem d_Sl_init_13 : decode b_Sl_init 13 = .ok (.return_, 1) := by decide +kernel
abbrev b_Sl_isSlot : ByteArray := prog_6_method_2_code
abbrev y_Sl_isSlot : MethodName := ⟨"LongNames$Slots", "isSlot", "(I)Z"⟩
abbrev w_Sl_isSlot : List Cond := .code y_Sl_isSlot b_Sl_isSlot 1 (some .boolean) :: BIG
theorem d_Sl_isSlot_0 : decode b_Sl_isSlot 0 = .ok (.iload_n 0, 1) := by decide +kernel
theorem d_Sl_isSlot_1 : decode b_Sl_isSlot 1 = .ok (.ifCond .lt 13, 3) := by decide +kernel
theorem d_Sl_isSlot_4 : decode b_Sl_isSlot 4 = .ok (.iload_n 0, 1) := by decide +kernel
theorem d_Sl_isSlot_5 : decode b_Sl_isSlot 5 = .ok (.bipush 32, 2) := by decide +kernel
theorem d_Sl_isSlot_7 : decode b_Sl_isSlot 7 = .ok (.if_icmp .ge 7, 3) := by decide +kernel
theorem d_Sl_isSlot_10 : decode b_Sl_isSlot 10 = .ok (.iconst 1, 1) := by decide +kernel
theorem d_Sl_isSlot_11 : decode b_Sl_isSlot 11 = .ok (.goto 4, 3) := by decide +kernel
theorem d_Sl_isSlot_14 : decode b_Sl_isSlot 14 = .ok (.iconst 0, 1) := by decide +kernel
theorem d_Sl_isSlot_15 : decode b_Sl_isSlot 15 = .ok (.ireturn, 1) := by decide +kernel
abbrev b_Sl_put : ByteArray := prog_6_method_3_code
abbrev y_Sl_put : MethodName := ⟨"LongNames$Slots", "put", "(III)Z"⟩
abbrev w_Sl_put : List Cond := .code y_Sl_put b_Sl_put 4 (some .boolean) :: BIG
theorem d_Sl_put_0 : decode b_Sl_put 0 = .ok (.iload_n 1, 1) := by decide +kernel
theorem d_Sl_put_1 : decode b_Sl_put 1 = .ok (.iload_n 2, 1) := by decide +kernel
theorem d_Sl_put_2 : decode b_Sl_put 2 = .ok (.invokestatic 15, 3) := by decide +kernel
theorem d_Sl_put_5 : decode b_Sl_put 5 = .ok (.ifCond .ne 5, 3) := by decide +kernel
theorem d_Sl_put_8 : decode b_Sl_put 8 = .ok (.iconst 0, 1) := by decide +kernel
theorem d_Sl_put_9 : decode b_Sl_put 9 = .ok (.ireturn, 1) := by decide +kernel
theorem d_Sl_put_10 : decode b_Sl_put 10 = .ok (.aload_n 0, 1) := by decide +kernel
theorem d_Sl_put_11 : decode b_Sl_put 11 = .ok (.getfield 11, 3) := by decide +kernel
theorem d_Sl_put_14 : decode b_Sl_put 14 = .ok (.iload_n 1, 1) := by decide +kernel
theorem d_Sl_put_15 : decode b_Sl_put 15 = .ok (.bipush 32, 2) := by decide +kernel
theorem d_Sl_put_17 : decode b_Sl_put 17 = .ok (.imul, 1) := by decide +kernel
theorem d_Sl_put_18 : decode b_Sl_put 18 = .ok (.iload_n 2, 1) := by decide +kernel
theorem d_Sl_put_19 : decode b_Sl_put 19 = .ok (.iadd, 1) := by decide +kernel
theorem d_Sl_put_20 : decode b_Sl_put 20 = .ok (.iload_n 3, 1) := by decide +kernel
theorem d_Sl_put_21 : decode b_Sl_put 21 = .ok (.sipush 255, 3) := by decide +kernel
theorem d_Sl_put_24 : decode b_Sl_put 24 = .ok (.iand, 1) := by decide +kernel
theorem d_Sl_put_25 : decode b_Sl_put 25 = .ok (.iastore, 1) := by decide +kernel
theorem d_Sl_put_26 : decode b_Sl_put 26 = .ok (.iconst 1, 1) := by decide +kernel
theorem d_Sl_put_27 : decode b_Sl_put 27 = .ok (.ireturn, 1) := by decide +kernel
abbrev b_Sl_get : ByteArray := prog_6_method_4_code
abbrev y_Sl_get : MethodName := ⟨"LongNames$Slots", "get", "(II)I"⟩
abbrev w_Sl_get : List Cond := .code y_Sl_get b_Sl_get 3 (some .int) :: BIG
theorem d_Sl_get_0 : decode b_Sl_get 0 = .ok (.iload_n 1, 1) := by decide +kernel
theorem d_Sl_get_1 : decode b_Sl_get 1 = .ok (.iload_n 2, 1) := by decide +kernel
theorem d_Sl_get_2 : decode b_Sl_get 2 = .ok (.invokestatic 15, 3) := by decide +kernel
theorem d_Sl_get_5 : decode b_Sl_get 5 = .ok (.ifCond .eq 17, 3) := by decide +kernel
theorem d_Sl_get_8 : decode b_Sl_get 8 = .ok (.aload_n 0, 1) := by decide +kernel
theorem d_Sl_get_9 : decode b_Sl_get 9 = .ok (.getfield 11, 3) := by decide +kernel
theorem d_Sl_get_12 : decode b_Sl_get 12 = .ok (.iload_n 1, 1) := by decide +kernel
theorem d_Sl_get_13 : decode b_Sl_get 13 = .ok (.bipush 32, 2) := by decide +kernel
theorem d_Sl_get_15 : decode b_Sl_get 15 = .ok (.imul, 1) := by decide +kernel
theorem d_Sl_get_16 : decode b_Sl_get 16 = .ok (.iload_n 2, 1) := by decide +kernel
theorem d_Sl_get_17 : decode b_Sl_get 17 = .ok (.iadd, 1) := by decide +kernel
theorem d_Sl_get_18 : decode b_Sl_get 18 = .ok (.iaload, 1) := by decide +kernel
theorem d_Sl_get_19 : decode b_Sl_get 19 = .ok (.goto 4, 3) := by decide +kernel
theorem d_Sl_get_22 : decode b_Sl_get 22 = .ok (.iconst (-1), 1) := by decide +kernel
theorem d_Sl_get_23 : decode b_Sl_get 23 = .ok (.ireturn, 1) := by decide +kernel
abbrev b_Sl_entrySum : ByteArray := prog_6_method_5_code
abbrev y_Sl_entrySum : MethodName := ⟨"LongNames$Slots", "entrySum", "(I)I"⟩
abbrev w_Sl_entrySum : List Cond := .code y_Sl_entrySum b_Sl_entrySum 5 (some .int) :: BIG
theorem d_Sl_entrySum_0 : decode b_Sl_entrySum 0 = .ok (.iconst 0, 1) := by decide +kernel
theorem d_Sl_entrySum_1 : decode b_Sl_entrySum 1 = .ok (.istore_n 2, 1) := by decide +kernel
theorem d_Sl_entrySum_2 : decode b_Sl_entrySum 2 = .ok (.iconst 0, 1) := by decide +kernel
theorem d_Sl_entrySum_3 : decode b_Sl_entrySum 3 = .ok (.istore_n 3, 1) := by decide +kernel
theorem d_Sl_entrySum_4 : decode b_Sl_entrySum 4 = .ok (.iload_n 3, 1) := by decide +kernel
theorem d_Sl_entrySum_5 : decode b_Sl_entrySum 5 = .ok (.bipush 11, 2) := by decide +kernel
theorem d_Sl_entrySum_7 : decode b_Sl_entrySum 7 = .ok (.if_icmp .ge 36, 3) := by decide +kernel
theorem d_Sl_entrySum_10 : decode b_Sl_entrySum 10 = .ok (.iload_n 2, 1) := by decide +kernel
theorem d_Sl_entrySum_11 : decode b_Sl_entrySum 11 = .ok (.iconst 1, 1) := by decide +kernel
theorem d_Sl_entrySum_12 : decode b_Sl_entrySum 12 = .ok (.iand, 1) := by decide +kernel
theorem d_Sl_entrySum_13 : decode b_Sl_entrySum 13 = .ok (.sipush 128, 3) := by decide +kernel
theorem d_Sl_entrySum_16 : decode b_Sl_entrySum 16 = .ok (.imul, 1) := by decide +kernel
theorem d_Sl_entrySum_17 : decode b_Sl_entrySum 17 = .ok (.iload_n 2, 1) := by decide +kernel
theorem d_Sl_entrySum_18 : decode b_Sl_entrySum 18 = .ok (.iconst 1, 1) := by decide +kernel
theorem d_Sl_entrySum_19 : decode b_Sl_entrySum 19 = .ok (.ishr, 1) := by decide +kernel
theorem d_Sl_entrySum_20 : decode b_Sl_entrySum 20 = .ok (.iadd, 1) := by decide +kernel
theorem d_Sl_entrySum_21 : decode b_Sl_entrySum 21 = .ok (.istore 4, 2) := by decide +kernel
theorem d_Sl_entrySum_23 : decode b_Sl_entrySum 23 = .ok (.iload 4, 2) := by decide +kernel
theorem d_Sl_entrySum_25 : decode b_Sl_entrySum 25 = .ok (.aload_n 0, 1) := by decide +kernel
theorem d_Sl_entrySum_26 : decode b_Sl_entrySum 26 = .ok (.iload_n 1, 1) := by decide +kernel
theorem d_Sl_entrySum_27 : decode b_Sl_entrySum 27 = .ok (.iload_n 3, 1) := by decide +kernel
theorem d_Sl_entrySum_28 : decode b_Sl_entrySum 28 = .ok (.invokevirtual 21, 3) := by decide +kernel
theorem d_Sl_entrySum_31 : decode b_Sl_entrySum 31 = .ok (.iadd, 1) := by decide +kernel
theorem d_Sl_entrySum_32 : decode b_Sl_entrySum 32 = .ok (.sipush 255, 3) := by decide +kernel
theorem d_Sl_entrySum_35 : decode b_Sl_entrySum 35 = .ok (.iand, 1) := by decide +kernel
theorem d_Sl_entrySum_36 : decode b_Sl_entrySum 36 = .ok (.istore_n 2, 1) := by decide +kernel
theorem d_Sl_entrySum_37 : decode b_Sl_entrySum 37 = .ok (.iinc 3 1, 3) := by decide +kernel
theorem d_Sl_entrySum_40 : decode b_Sl_entrySum 40 = .ok (.goto (-36), 3) := by decide +kernel
theorem d_Sl_entrySum_43 : decode b_Sl_entrySum 43 = .ok (.iload_n 2, 1) := by decide +kernel
theorem d_Sl_entrySum_44 : decode b_Sl_entrySum 44 = .ok (.ireturn, 1) := by decide +kernel
abbrev b_Sl_hasByte : ByteArray := prog_6_method_6_code
abbrev y_Sl_hasByte : MethodName := ⟨"LongNames$Slots", "hasByte", "(II)Z"⟩
abbrev w_Sl_hasByte : List Cond := .code y_Sl_hasByte b_Sl_hasByte 2 (some .boolean) :: BIG
theorem d_Sl_hasByte_0 : decode b_Sl_hasByte 0 = .ok (.iload_n 0, 1) := by decide +kernel
theorem d_Sl_hasByte_1 : decode b_Sl_hasByte 1 = .ok (.invokestatic 25, 3) := by decide +kernel
theorem d_Sl_hasByte_4 : decode b_Sl_hasByte 4 = .ok (.ifCond .eq 17, 3) := by decide +kernel
theorem d_Sl_hasByte_7 : decode b_Sl_hasByte 7 = .ok (.iload_n 1, 1) := by decide +kernel
theorem d_Sl_hasByte_8 : decode b_Sl_hasByte 8 = .ok (.ifCond .lt 13, 3) := by decide +kernel
theorem d_Sl_hasByte_11 : decode b_Sl_hasByte 11 = .ok (.iload_n 1, 1) := by decide +kernel
theorem d_Sl_hasByte_12 : decode b_Sl_hasByte 12 = .ok (.bipush 32, 2) := by decide +kernel
theorem d_Sl_hasByte_14 : decode b_Sl_hasByte 14 = .ok (.if_icmp .ge 7, 3) := by decide +kernel
theorem d_Sl_hasByte_17 : decode b_Sl_hasByte 17 = .ok (.iconst 1, 1) := by decide +kernel
theorem d_Sl_hasByte_18 : decode b_Sl_hasByte 18 = .ok (.goto 4, 3) := by decide +kernel
theorem d_Sl_hasByte_21 : decode b_Sl_hasByte 21 = .ok (.iconst 0, 1) := by decide +kernel
theorem d_Sl_hasByte_22 : decode b_Sl_hasByte 22 = .ok (.ireturn, 1) := by decide +kernel
abbrev b_Un_mayStandInName : ByteArray := prog_7_method_2_code
abbrev y_Un_mayStandInName : MethodName := ⟨"LongNames$Units", "mayStandInName", "(I)Z"⟩
abbrev w_Un_mayStandInName : List Cond := .code y_Un_mayStandInName b_Un_mayStandInName 1 (some .boolean) :: BIG
theorem d_Un_mayStandInName_0 : decode b_Un_mayStandInName 0 = .ok (.iload_n 0, 1) := by decide +kernel
theorem d_Un_mayStandInName_1 : decode b_Un_mayStandInName 1 = .ok (.bipush 32, 2) := by decide +kernel
theorem d_Un_mayStandInName_3 : decode b_Un_mayStandInName 3 = .ok (.if_icmp .lt 21, 3) := by decide +kernel
theorem d_Un_mayStandInName_6 : decode b_Un_mayStandInName 6 = .ok (.iload_n 0, 1) := by decide +kernel
theorem d_Un_mayStandInName_7 : decode b_Un_mayStandInName 7 = .ok (.ldc 7, 2) := by decide +kernel
theorem d_Un_mayStandInName_9 : decode b_Un_mayStandInName 9 = .ok (.if_icmp .gt 15, 3) := by decide +kernel
theorem d_Un_mayStandInName_12 : decode b_Un_mayStandInName 12 = .ok (.iload_n 0, 1) := by decide +kernel
theorem d_Un_mayStandInName_13 : decode b_Un_mayStandInName 13 = .ok (.ldc 8, 2) := by decide +kernel
theorem d_Un_mayStandInName_15 : decode b_Un_mayStandInName 15 = .ok (.if_icmp .lt 11, 3) := by decide +kernel
theorem d_Un_mayStandInName_18 : decode b_Un_mayStandInName 18 = .ok (.iload_n 0, 1) := by decide +kernel
theorem d_Un_mayStandInName_19 : decode b_Un_mayStandInName 19 = .ok (.ldc 9, 2) := by decide +kernel
theorem d_Un_mayStandInName_21 : decode b_Un_mayStandInName 21 = .ok (.if_icmp .gt 5, 3) := by decide +kernel
theorem d_Un_mayStandInName_24 : decode b_Un_mayStandInName 24 = .ok (.iconst 0, 1) := by decide +kernel
theorem d_Un_mayStandInName_25 : decode b_Un_mayStandInName 25 = .ok (.ireturn, 1) := by decide +kernel
theorem d_Un_mayStandInName_26 : decode b_Un_mayStandInName 26 = .ok (.iload_n 0, 1) := by decide +kernel
theorem d_Un_mayStandInName_27 : decode b_Un_mayStandInName 27 = .ok (.lookupswitch 91 #[(34, 89), (42, 89), (47, 89), (58, 89), (60, 89), (62, 89), (63, 89), (92, 89), (124, 89), (127, 89)], 89) := by decide +kernel
theorem d_Un_mayStandInName_116 : decode b_Un_mayStandInName 116 = .ok (.iconst 0, 1) := by decide +kernel
theorem d_Un_mayStandInName_117 : decode b_Un_mayStandInName 117 = .ok (.ireturn, 1) := by decide +kernel
theorem d_Un_mayStandInName_118 : decode b_Un_mayStandInName 118 = .ok (.iconst 1, 1) := by decide +kernel
theorem d_Un_mayStandInName_119 : decode b_Un_mayStandInName 119 = .ok (.ireturn, 1) := by decide +kernel
abbrev b_Un_mayStandInShortName : ByteArray := prog_7_method_3_code
abbrev y_Un_mayStandInShortName : MethodName := ⟨"LongNames$Units", "mayStandInShortName", "(I)Z"⟩
abbrev w_Un_mayStandInShortName : List Cond := .code y_Un_mayStandInShortName b_Un_mayStandInShortName 1 (some .boolean) :: BIG
theorem d_Un_mayStandInShortName_0 : decode b_Un_mayStandInShortName 0 = .ok (.iload_n 0, 1) := by decide +kernel
theorem d_Un_mayStandInShortName_1 : decode b_Un_mayStandInShortName 1 = .ok (.bipush 65, 2) := by decide +kernel
theorem d_Un_mayStandInShortName_3 : decode b_Un_mayStandInShortName 3 = .ok (.if_icmp .lt 9, 3) := by decide +kernel
theorem d_Un_mayStandInShortName_6 : decode b_Un_mayStandInShortName 6 = .ok (.iload_n 0, 1) := by decide +kernel
theorem d_Un_mayStandInShortName_7 : decode b_Un_mayStandInShortName 7 = .ok (.bipush 90, 2) := by decide +kernel
theorem d_Un_mayStandInShortName_9 : decode b_Un_mayStandInShortName 9 = .ok (.if_icmp .le 15, 3) := by decide +kernel
theorem d_Un_mayStandInShortName_12 : decode b_Un_mayStandInShortName 12 = .ok (.iload_n 0, 1) := by decide +kernel
theorem d_Un_mayStandInShortName_13 : decode b_Un_mayStandInShortName 13 = .ok (.bipush 48, 2) := by decide +kernel
theorem d_Un_mayStandInShortName_15 : decode b_Un_mayStandInShortName 15 = .ok (.if_icmp .lt 11, 3) := by decide +kernel
theorem d_Un_mayStandInShortName_18 : decode b_Un_mayStandInShortName 18 = .ok (.iload_n 0, 1) := by decide +kernel
theorem d_Un_mayStandInShortName_19 : decode b_Un_mayStandInShortName 19 = .ok (.bipush 57, 2) := by decide +kernel
theorem d_Un_mayStandInShortName_21 : decode b_Un_mayStandInShortName 21 = .ok (.if_icmp .gt 5, 3) := by decide +kernel
theorem d_Un_mayStandInShortName_24 : decode b_Un_mayStandInShortName 24 = .ok (.iconst 1, 1) := by decide +kernel
theorem d_Un_mayStandInShortName_25 : decode b_Un_mayStandInShortName 25 = .ok (.ireturn, 1) := by decide +kernel
theorem d_Un_mayStandInShortName_26 : decode b_Un_mayStandInShortName 26 = .ok (.iload_n 0, 1) := by decide +kernel
theorem d_Un_mayStandInShortName_27 : decode b_Un_mayStandInShortName 27 = .ok (.lookupswitch 139 #[(33, 137), (35, 137), (36, 137), (37, 137), (38, 137), (39, 137), (40, 137), (41, 137), (45, 137), (64, 137), (94, 137), (95, 137), (96, 137), (123, 137), (125, 137), (126, 137)], 137) := by decide +kernel
theorem d_Un_mayStandInShortName_164 : decode b_Un_mayStandInShortName 164 = .ok (.iconst 1, 1) := by decide +kernel
theorem d_Un_mayStandInShortName_165 : decode b_Un_mayStandInShortName 165 = .ok (.ireturn, 1) := by decide +kernel
theorem d_Un_mayStandInShortName_166 : decode b_Un_mayStandInShortName 166 = .ok (.iconst 0, 1) := by decide +kernel
theorem d_Un_mayStandInShortName_167 : decode b_Un_mayStandInShortName 167 = .ok (.ireturn, 1) := by decide +kernel
abbrev b_Un_capital : ByteArray := prog_7_method_4_code
abbrev y_Un_capital : MethodName := ⟨"LongNames$Units", "capital", "(I)I"⟩
abbrev w_Un_capital : List Cond := .code y_Un_capital b_Un_capital 1 (some .int) :: BIG
theorem d_Un_capital_0 : decode b_Un_capital 0 = .ok (.iload_n 0, 1) := by decide +kernel
theorem d_Un_capital_1 : decode b_Un_capital 1 = .ok (.bipush 97, 2) := by decide +kernel
theorem d_Un_capital_3 : decode b_Un_capital 3 = .ok (.if_icmp .lt 19, 3) := by decide +kernel
theorem d_Un_capital_6 : decode b_Un_capital 6 = .ok (.iload_n 0, 1) := by decide +kernel
theorem d_Un_capital_7 : decode b_Un_capital 7 = .ok (.bipush 122, 2) := by decide +kernel
theorem d_Un_capital_9 : decode b_Un_capital 9 = .ok (.if_icmp .gt 13, 3) := by decide +kernel
theorem d_Un_capital_12 : decode b_Un_capital 12 = .ok (.iload_n 0, 1) := by decide +kernel
theorem d_Un_capital_13 : decode b_Un_capital 13 = .ok (.bipush 97, 2) := by decide +kernel
theorem d_Un_capital_15 : decode b_Un_capital 15 = .ok (.isub, 1) := by decide +kernel
theorem d_Un_capital_16 : decode b_Un_capital 16 = .ok (.bipush 65, 2) := by decide +kernel
theorem d_Un_capital_18 : decode b_Un_capital 18 = .ok (.iadd, 1) := by decide +kernel
theorem d_Un_capital_19 : decode b_Un_capital 19 = .ok (.goto 4, 3) := by decide +kernel
theorem d_Un_capital_22 : decode b_Un_capital 22 = .ok (.iload_n 0, 1) := by decide +kernel
theorem d_Un_capital_23 : decode b_Un_capital 23 = .ok (.ireturn, 1) := by decide +kernel
abbrev b_Un_shortened : ByteArray := prog_7_method_5_code
abbrev y_Un_shortened : MethodName := ⟨"LongNames$Units", "shortened", "(I)I"⟩
abbrev w_Un_shortened : List Cond := .code y_Un_shortened b_Un_shortened 2 (some .int) :: BIG
theorem d_Un_shortened_0 : decode b_Un_shortened 0 = .ok (.iload_n 0, 1) := by decide +kernel
theorem d_Un_shortened_1 : decode b_Un_shortened 1 = .ok (.invokestatic 10, 3) := by decide +kernel
theorem d_Un_shortened_4 : decode b_Un_shortened 4 = .ok (.istore_n 1, 1) := by decide +kernel
theorem d_Un_shortened_5 : decode b_Un_shortened 5 = .ok (.iload_n 1, 1) := by decide +kernel
theorem d_Un_shortened_6 : decode b_Un_shortened 6 = .ok (.invokestatic 16, 3) := by decide +kernel
theorem d_Un_shortened_9 : decode b_Un_shortened 9 = .ok (.ifCond .eq 7, 3) := by decide +kernel
theorem d_Un_shortened_12 : decode b_Un_shortened 12 = .ok (.iload_n 1, 1) := by decide +kernel
theorem d_Un_shortened_13 : decode b_Un_shortened 13 = .ok (.goto 5, 3) := by decide +kernel
theorem d_Un_shortened_16 : decode b_Un_shortened 16 = .ok (.bipush 95, 2) := by decide +kernel
theorem d_Un_shortened_18 : decode b_Un_shortened 18 = .ok (.ireturn, 1) := by decide +kernel
abbrev b_Un_encodedWidth : ByteArray := prog_7_method_6_code
abbrev y_Un_encodedWidth : MethodName := ⟨"LongNames$Units", "encodedWidth", "(I)I"⟩
abbrev w_Un_encodedWidth : List Cond := .code y_Un_encodedWidth b_Un_encodedWidth 1 (some .int) :: BIG
theorem d_Un_encodedWidth_0 : decode b_Un_encodedWidth 0 = .ok (.iload_n 0, 1) := by decide +kernel
theorem d_Un_encodedWidth_1 : decode b_Un_encodedWidth 1 = .ok (.sipush 128, 3) := by decide +kernel
theorem d_Un_encodedWidth_4 : decode b_Un_encodedWidth 4 = .ok (.if_icmp .ge 5, 3) := by decide +kernel
theorem d_Un_encodedWidth_7 : decode b_Un_encodedWidth 7 = .ok (.iconst 1, 1) := by decide +kernel
theorem d_Un_encodedWidth_8 : decode b_Un_encodedWidth 8 = .ok (.ireturn, 1) := by decide +kernel
theorem d_Un_encodedWidth_9 : decode b_Un_encodedWidth 9 = .ok (.iload_n 0, 1) := by decide +kernel
theorem d_Un_encodedWidth_10 : decode b_Un_encodedWidth 10 = .ok (.sipush 2048, 3) := by decide +kernel
theorem d_Un_encodedWidth_13 : decode b_Un_encodedWidth 13 = .ok (.if_icmp .ge 7, 3) := by decide +kernel
theorem d_Un_encodedWidth_16 : decode b_Un_encodedWidth 16 = .ok (.iconst 2, 1) := by decide +kernel
theorem d_Un_encodedWidth_17 : decode b_Un_encodedWidth 17 = .ok (.goto 4, 3) := by decide +kernel
theorem d_Un_encodedWidth_20 : decode b_Un_encodedWidth 20 = .ok (.iconst 3, 1) := by decide +kernel
theorem d_Un_encodedWidth_21 : decode b_Un_encodedWidth 21 = .ok (.ireturn, 1) := by decide +kernel
abbrev b_Un_encodedByte : ByteArray := prog_7_method_7_code
abbrev y_Un_encodedByte : MethodName := ⟨"LongNames$Units", "encodedByte", "(II)I"⟩
abbrev w_Un_encodedByte : List Cond := .code y_Un_encodedByte b_Un_encodedByte 4 (some .int) :: BIG
theorem d_Un_encodedByte_0 : decode b_Un_encodedByte 0 = .ok (.iload_n 0, 1) := by decide +kernel
theorem d_Un_encodedByte_1 : decode b_Un_encodedByte 1 = .ok (.invokestatic 20, 3) := by decide +kernel
theorem d_Un_encodedByte_4 : decode b_Un_encodedByte 4 = .ok (.istore_n 2, 1) := by decide +kernel
theorem d_Un_encodedByte_5 : decode b_Un_encodedByte 5 = .ok (.iload_n 2, 1) := by decide +kernel
theorem d_Un_encodedByte_6 : decode b_Un_encodedByte 6 = .ok (.iconst 1, 1) := by decide +kernel
theorem d_Un_encodedByte_7 : decode b_Un_encodedByte 7 = .ok (.if_icmp .ne 5, 3) := by decide +kernel
theorem d_Un_encodedByte_10 : decode b_Un_encodedByte 10 = .ok (.iload_n 0, 1) := by decide +kernel
theorem d_Un_encodedByte_11 : decode b_Un_encodedByte 11 = .ok (.ireturn, 1) := by decide +kernel
theorem d_Un_encodedByte_12 : decode b_Un_encodedByte 12 = .ok (.iload_n 0, 1) := by decide +kernel
theorem d_Un_encodedByte_13 : decode b_Un_encodedByte 13 = .ok (.bipush 6, 2) := by decide +kernel
theorem d_Un_encodedByte_15 : decode b_Un_encodedByte 15 = .ok (.iload_n 2, 1) := by decide +kernel
theorem d_Un_encodedByte_16 : decode b_Un_encodedByte 16 = .ok (.iconst 1, 1) := by decide +kernel
theorem d_Un_encodedByte_17 : decode b_Un_encodedByte 17 = .ok (.isub, 1) := by decide +kernel
theorem d_Un_encodedByte_18 : decode b_Un_encodedByte 18 = .ok (.iload_n 1, 1) := by decide +kernel
theorem d_Un_encodedByte_19 : decode b_Un_encodedByte 19 = .ok (.isub, 1) := by decide +kernel
theorem d_Un_encodedByte_20 : decode b_Un_encodedByte 20 = .ok (.imul, 1) := by decide +kernel
theorem d_Un_encodedByte_21 : decode b_Un_encodedByte 21 = .ok (.ishr, 1) := by decide +kernel
theorem d_Un_encodedByte_22 : decode b_Un_encodedByte 22 = .ok (.istore_n 3, 1) := by decide +kernel
theorem d_Un_encodedByte_23 : decode b_Un_encodedByte 23 = .ok (.iload_n 1, 1) := by decide +kernel
theorem d_Un_encodedByte_24 : decode b_Un_encodedByte 24 = .ok (.ifCond .le 12, 3) := by decide +kernel
theorem d_Un_encodedByte_27 : decode b_Un_encodedByte 27 = .ok (.sipush 128, 3) := by decide +kernel
theorem d_Un_encodedByte_30 : decode b_Un_encodedByte 30 = .ok (.iload_n 3, 1) := by decide +kernel
theorem d_Un_encodedByte_31 : decode b_Un_encodedByte 31 = .ok (.bipush 63, 2) := by decide +kernel
theorem d_Un_encodedByte_33 : decode b_Un_encodedByte 33 = .ok (.iand, 1) := by decide +kernel
theorem d_Un_encodedByte_34 : decode b_Un_encodedByte 34 = .ok (.iadd, 1) := by decide +kernel
theorem d_Un_encodedByte_35 : decode b_Un_encodedByte 35 = .ok (.ireturn, 1) := by decide +kernel
theorem d_Un_encodedByte_36 : decode b_Un_encodedByte 36 = .ok (.iload_n 2, 1) := by decide +kernel
theorem d_Un_encodedByte_37 : decode b_Un_encodedByte 37 = .ok (.iconst 2, 1) := by decide +kernel
theorem d_Un_encodedByte_38 : decode b_Un_encodedByte 38 = .ok (.if_icmp .ne 9, 3) := by decide +kernel
theorem d_Un_encodedByte_41 : decode b_Un_encodedByte 41 = .ok (.sipush 192, 3) := by decide +kernel
theorem d_Un_encodedByte_44 : decode b_Un_encodedByte 44 = .ok (.goto 6, 3) := by decide +kernel
theorem d_Un_encodedByte_47 : decode b_Un_encodedByte 47 = .ok (.sipush 224, 3) := by decide +kernel
theorem d_Un_encodedByte_50 : decode b_Un_encodedByte 50 = .ok (.iload_n 3, 1) := by decide +kernel
theorem d_Un_encodedByte_51 : decode b_Un_encodedByte 51 = .ok (.iadd, 1) := by decide +kernel
theorem d_Un_encodedByte_52 : decode b_Un_encodedByte 52 = .ok (.ireturn, 1) := by decide +kernel
abbrev b_Dy_isDay : ByteArray := prog_2_method_2_code
abbrev y_Dy_isDay : MethodName := ⟨"LongNames$Days", "isDay", "(I)Z"⟩
abbrev w_Dy_isDay : List Cond := .code y_Dy_isDay b_Dy_isDay 2 (some .boolean) :: BIG
theorem d_Dy_isDay_0 : decode b_Dy_isDay 0 = .ok (.iload_n 0, 1) := by decide +kernel
theorem d_Dy_isDay_1 : decode b_Dy_isDay 1 = .ok (.ifCond .lt 9, 3) := by decide +kernel
theorem d_Dy_isDay_4 : decode b_Dy_isDay 4 = .ok (.iload_n 0, 1) := by decide +kernel
theorem d_Dy_isDay_5 : decode b_Dy_isDay 5 = .ok (.ldc 9, 2) := by decide +kernel
theorem d_Dy_isDay_7 : decode b_Dy_isDay 7 = .ok (.if_icmp .le 5, 3) := by decide +kernel
theorem d_Dy_isDay_10 : decode b_Dy_isDay 10 = .ok (.iconst 0, 1) := by decide +kernel
theorem d_Dy_isDay_11 : decode b_Dy_isDay 11 = .ok (.ireturn, 1) := by decide +kernel
theorem d_Dy_isDay_12 : decode b_Dy_isDay 12 = .ok (.iload_n 0, 1) := by decide +kernel
theorem d_Dy_isDay_13 : decode b_Dy_isDay 13 = .ok (.invokestatic 10, 3) := by decide +kernel
theorem d_Dy_isDay_16 : decode b_Dy_isDay 16 = .ok (.istore_n 1, 1) := by decide +kernel
theorem d_Dy_isDay_17 : decode b_Dy_isDay 17 = .ok (.iload_n 1, 1) := by decide +kernel
theorem d_Dy_isDay_18 : decode b_Dy_isDay 18 = .ok (.iconst 1, 1) := by decide +kernel
theorem d_Dy_isDay_19 : decode b_Dy_isDay 19 = .ok (.if_icmp .lt 22, 3) := by decide +kernel
theorem d_Dy_isDay_22 : decode b_Dy_isDay 22 = .ok (.iload_n 1, 1) := by decide +kernel
theorem d_Dy_isDay_23 : decode b_Dy_isDay 23 = .ok (.iload_n 0, 1) := by decide +kernel
theorem d_Dy_isDay_24 : decode b_Dy_isDay 24 = .ok (.invokestatic 16, 3) := by decide +kernel
theorem d_Dy_isDay_27 : decode b_Dy_isDay 27 = .ok (.iload_n 0, 1) := by decide +kernel
theorem d_Dy_isDay_28 : decode b_Dy_isDay 28 = .ok (.invokestatic 19, 3) := by decide +kernel
theorem d_Dy_isDay_31 : decode b_Dy_isDay 31 = .ok (.invokestatic 22, 3) := by decide +kernel
theorem d_Dy_isDay_34 : decode b_Dy_isDay 34 = .ok (.if_icmp .gt 7, 3) := by decide +kernel
theorem d_Dy_isDay_37 : decode b_Dy_isDay 37 = .ok (.iconst 1, 1) := by decide +kernel
theorem d_Dy_isDay_38 : decode b_Dy_isDay 38 = .ok (.goto 4, 3) := by decide +kernel
theorem d_Dy_isDay_41 : decode b_Dy_isDay 41 = .ok (.iconst 0, 1) := by decide +kernel
theorem d_Dy_isDay_42 : decode b_Dy_isDay 42 = .ok (.ireturn, 1) := by decide +kernel
abbrev b_Dy_isTime : ByteArray := prog_2_method_3_code
abbrev y_Dy_isTime : MethodName := ⟨"LongNames$Days", "isTime", "(I)Z"⟩
abbrev w_Dy_isTime : List Cond := .code y_Dy_isTime b_Dy_isTime 1 (some .boolean) :: BIG
theorem d_Dy_isTime_0 : decode b_Dy_isTime 0 = .ok (.iload_n 0, 1) := by decide +kernel
theorem d_Dy_isTime_1 : decode b_Dy_isTime 1 = .ok (.ifCond .lt 9, 3) := by decide +kernel
theorem d_Dy_isTime_4 : decode b_Dy_isTime 4 = .ok (.iload_n 0, 1) := by decide +kernel
theorem d_Dy_isTime_5 : decode b_Dy_isTime 5 = .ok (.ldc 9, 2) := by decide +kernel
theorem d_Dy_isTime_7 : decode b_Dy_isTime 7 = .ok (.if_icmp .le 5, 3) := by decide +kernel
theorem d_Dy_isTime_10 : decode b_Dy_isTime 10 = .ok (.iconst 0, 1) := by decide +kernel
theorem d_Dy_isTime_11 : decode b_Dy_isTime 11 = .ok (.ireturn, 1) := by decide +kernel
theorem d_Dy_isTime_12 : decode b_Dy_isTime 12 = .ok (.iload_n 0, 1) := by decide +kernel
theorem d_Dy_isTime_13 : decode b_Dy_isTime 13 = .ok (.invokestatic 26, 3) := by decide +kernel
theorem d_Dy_isTime_16 : decode b_Dy_isTime 16 = .ok (.bipush 24, 2) := by decide +kernel
theorem d_Dy_isTime_18 : decode b_Dy_isTime 18 = .ok (.if_icmp .ge 25, 3) := by decide +kernel
theorem d_Dy_isTime_21 : decode b_Dy_isTime 21 = .ok (.iload_n 0, 1) := by decide +kernel
theorem d_Dy_isTime_22 : decode b_Dy_isTime 22 = .ok (.invokestatic 29, 3) := by decide +kernel
theorem d_Dy_isTime_25 : decode b_Dy_isTime 25 = .ok (.bipush 60, 2) := by decide +kernel
theorem d_Dy_isTime_27 : decode b_Dy_isTime 27 = .ok (.if_icmp .ge 16, 3) := by decide +kernel
theorem d_Dy_isTime_30 : decode b_Dy_isTime 30 = .ok (.iload_n 0, 1) := by decide +kernel
theorem d_Dy_isTime_31 : decode b_Dy_isTime 31 = .ok (.invokestatic 32, 3) := by decide +kernel
theorem d_Dy_isTime_34 : decode b_Dy_isTime 34 = .ok (.bipush 30, 2) := by decide +kernel
theorem d_Dy_isTime_36 : decode b_Dy_isTime 36 = .ok (.if_icmp .ge 7, 3) := by decide +kernel
theorem d_Dy_isTime_39 : decode b_Dy_isTime 39 = .ok (.iconst 1, 1) := by decide +kernel
theorem d_Dy_isTime_40 : decode b_Dy_isTime 40 = .ok (.goto 4, 3) := by decide +kernel
theorem d_Dy_isTime_43 : decode b_Dy_isTime 43 = .ok (.iconst 0, 1) := by decide +kernel
theorem d_Dy_isTime_44 : decode b_Dy_isTime 44 = .ok (.ireturn, 1) := by decide +kernel
abbrev b_Dy_secondsBeforeDay : ByteArray := prog_2_method_4_code
abbrev y_Dy_secondsBeforeDay : MethodName := ⟨"LongNames$Days", "secondsBeforeDay", "(I)J"⟩
abbrev w_Dy_secondsBeforeDay : List Cond := .code y_Dy_secondsBeforeDay b_Dy_secondsBeforeDay 6 (some .long) :: BIG
theorem d_Dy_secondsBeforeDay_0 : decode b_Dy_secondsBeforeDay 0 = .ok (.iload_n 0, 1) := by decide +kernel
theorem d_Dy_secondsBeforeDay_1 : decode b_Dy_secondsBeforeDay 1 = .ok (.invokestatic 16, 3) := by decide +kernel
theorem d_Dy_secondsBeforeDay_4 : decode b_Dy_secondsBeforeDay 4 = .ok (.istore_n 1, 1) := by decide +kernel
theorem d_Dy_secondsBeforeDay_5 : decode b_Dy_secondsBeforeDay 5 = .ok (.iload_n 0, 1) := by decide +kernel
theorem d_Dy_secondsBeforeDay_6 : decode b_Dy_secondsBeforeDay 6 = .ok (.invokestatic 10, 3) := by decide +kernel
theorem d_Dy_secondsBeforeDay_9 : decode b_Dy_secondsBeforeDay 9 = .ok (.iconst 1, 1) := by decide +kernel
theorem d_Dy_secondsBeforeDay_10 : decode b_Dy_secondsBeforeDay 10 = .ok (.isub, 1) := by decide +kernel
theorem d_Dy_secondsBeforeDay_11 : decode b_Dy_secondsBeforeDay 11 = .ok (.i2l, 1) := by decide +kernel
theorem d_Dy_secondsBeforeDay_12 : decode b_Dy_secondsBeforeDay 12 = .ok (.lstore_n 2, 1) := by decide +kernel
theorem d_Dy_secondsBeforeDay_13 : decode b_Dy_secondsBeforeDay 13 = .ok (.sipush 1970, 3) := by decide +kernel
theorem d_Dy_secondsBeforeDay_16 : decode b_Dy_secondsBeforeDay 16 = .ok (.istore 4, 2) := by decide +kernel
theorem d_Dy_secondsBeforeDay_18 : decode b_Dy_secondsBeforeDay 18 = .ok (.iload 4, 2) := by decide +kernel
theorem d_Dy_secondsBeforeDay_20 : decode b_Dy_secondsBeforeDay 20 = .ok (.iload_n 1, 1) := by decide +kernel
theorem d_Dy_secondsBeforeDay_21 : decode b_Dy_secondsBeforeDay 21 = .ok (.if_icmp .ge 29, 3) := by decide +kernel
theorem d_Dy_secondsBeforeDay_24 : decode b_Dy_secondsBeforeDay 24 = .ok (.lload_n 2, 1) := by decide +kernel
theorem d_Dy_secondsBeforeDay_25 : decode b_Dy_secondsBeforeDay 25 = .ok (.iload 4, 2) := by decide +kernel
theorem d_Dy_secondsBeforeDay_27 : decode b_Dy_secondsBeforeDay 27 = .ok (.invokestatic 35, 3) := by decide +kernel
theorem d_Dy_secondsBeforeDay_30 : decode b_Dy_secondsBeforeDay 30 = .ok (.ifCond .eq 9, 3) := by decide +kernel
theorem d_Dy_secondsBeforeDay_33 : decode b_Dy_secondsBeforeDay 33 = .ok (.ldc2_w 39, 3) := by decide +kernel
theorem d_Dy_secondsBeforeDay_36 : decode b_Dy_secondsBeforeDay 36 = .ok (.goto 6, 3) := by decide +kernel
theorem d_Dy_secondsBeforeDay_39 : decode b_Dy_secondsBeforeDay 39 = .ok (.ldc2_w 41, 3) := by decide +kernel
theorem d_Dy_secondsBeforeDay_42 : decode b_Dy_secondsBeforeDay 42 = .ok (.ladd, 1) := by decide +kernel
theorem d_Dy_secondsBeforeDay_43 : decode b_Dy_secondsBeforeDay 43 = .ok (.lstore_n 2, 1) := by decide +kernel
theorem d_Dy_secondsBeforeDay_44 : decode b_Dy_secondsBeforeDay 44 = .ok (.iinc 4 1, 3) := by decide +kernel
theorem d_Dy_secondsBeforeDay_47 : decode b_Dy_secondsBeforeDay 47 = .ok (.goto (-29), 3) := by decide +kernel
theorem d_Dy_secondsBeforeDay_50 : decode b_Dy_secondsBeforeDay 50 = .ok (.iload_n 0, 1) := by decide +kernel
theorem d_Dy_secondsBeforeDay_51 : decode b_Dy_secondsBeforeDay 51 = .ok (.invokestatic 19, 3) := by decide +kernel
theorem d_Dy_secondsBeforeDay_54 : decode b_Dy_secondsBeforeDay 54 = .ok (.istore 4, 2) := by decide +kernel
theorem d_Dy_secondsBeforeDay_56 : decode b_Dy_secondsBeforeDay 56 = .ok (.iconst 1, 1) := by decide +kernel
theorem d_Dy_secondsBeforeDay_57 : decode b_Dy_secondsBeforeDay 57 = .ok (.istore 5, 2) := by decide +kernel
theorem d_Dy_secondsBeforeDay_59 : decode b_Dy_secondsBeforeDay 59 = .ok (.iload 5, 2) := by decide +kernel
theorem d_Dy_secondsBeforeDay_61 : decode b_Dy_secondsBeforeDay 61 = .ok (.iload 4, 2) := by decide +kernel
theorem d_Dy_secondsBeforeDay_63 : decode b_Dy_secondsBeforeDay 63 = .ok (.if_icmp .ge 19, 3) := by decide +kernel
theorem d_Dy_secondsBeforeDay_66 : decode b_Dy_secondsBeforeDay 66 = .ok (.lload_n 2, 1) := by decide +kernel
theorem d_Dy_secondsBeforeDay_67 : decode b_Dy_secondsBeforeDay 67 = .ok (.iload_n 1, 1) := by decide +kernel
theorem d_Dy_secondsBeforeDay_68 : decode b_Dy_secondsBeforeDay 68 = .ok (.iload 5, 2) := by decide +kernel
theorem d_Dy_secondsBeforeDay_70 : decode b_Dy_secondsBeforeDay 70 = .ok (.invokestatic 22, 3) := by decide +kernel
theorem d_Dy_secondsBeforeDay_73 : decode b_Dy_secondsBeforeDay 73 = .ok (.i2l, 1) := by decide +kernel
theorem d_Dy_secondsBeforeDay_74 : decode b_Dy_secondsBeforeDay 74 = .ok (.ladd, 1) := by decide +kernel
theorem d_Dy_secondsBeforeDay_75 : decode b_Dy_secondsBeforeDay 75 = .ok (.lstore_n 2, 1) := by decide +kernel
theorem d_Dy_secondsBeforeDay_76 : decode b_Dy_secondsBeforeDay 76 = .ok (.iinc 5 1, 3) := by decide +kernel
theorem d_Dy_secondsBeforeDay_79 : decode b_Dy_secondsBeforeDay 79 = .ok (.goto (-20), 3) := by decide +kernel
theorem d_Dy_secondsBeforeDay_82 : decode b_Dy_secondsBeforeDay 82 = .ok (.lload_n 2, 1) := by decide +kernel
theorem d_Dy_secondsBeforeDay_83 : decode b_Dy_secondsBeforeDay 83 = .ok (.ldc2_w 43, 3) := by decide +kernel
theorem d_Dy_secondsBeforeDay_86 : decode b_Dy_secondsBeforeDay 86 = .ok (.lmul, 1) := by decide +kernel
theorem d_Dy_secondsBeforeDay_87 : decode b_Dy_secondsBeforeDay 87 = .ok (.lreturn, 1) := by decide +kernel
abbrev b_Dy_secondsOfTime : ByteArray := prog_2_method_5_code
abbrev y_Dy_secondsOfTime : MethodName := ⟨"LongNames$Days", "secondsOfTime", "(I)J"⟩
abbrev w_Dy_secondsOfTime : List Cond := .code y_Dy_secondsOfTime b_Dy_secondsOfTime 1 (some .long) :: BIG
theorem d_Dy_secondsOfTime_0 : decode b_Dy_secondsOfTime 0 = .ok (.ldc2_w 45, 3) := by decide +kernel
theorem d_Dy_secondsOfTime_3 : decode b_Dy_secondsOfTime 3 = .ok (.iload_n 0, 1) := by decide +kernel
theorem d_Dy_secondsOfTime_4 : decode b_Dy_secondsOfTime 4 = .ok (.invokestatic 26, 3) := by decide +kernel
theorem d_Dy_secondsOfTime_7 : decode b_Dy_secondsOfTime 7 = .ok (.i2l, 1) := by decide +kernel
theorem d_Dy_secondsOfTime_8 : decode b_Dy_secondsOfTime 8 = .ok (.lmul, 1) := by decide +kernel
theorem d_Dy_secondsOfTime_9 : decode b_Dy_secondsOfTime 9 = .ok (.ldc2_w 47, 3) := by decide +kernel
theorem d_Dy_secondsOfTime_12 : decode b_Dy_secondsOfTime 12 = .ok (.iload_n 0, 1) := by decide +kernel
theorem d_Dy_secondsOfTime_13 : decode b_Dy_secondsOfTime 13 = .ok (.invokestatic 29, 3) := by decide +kernel
theorem d_Dy_secondsOfTime_16 : decode b_Dy_secondsOfTime 16 = .ok (.i2l, 1) := by decide +kernel
theorem d_Dy_secondsOfTime_17 : decode b_Dy_secondsOfTime 17 = .ok (.lmul, 1) := by decide +kernel
theorem d_Dy_secondsOfTime_18 : decode b_Dy_secondsOfTime 18 = .ok (.ladd, 1) := by decide +kernel
theorem d_Dy_secondsOfTime_19 : decode b_Dy_secondsOfTime 19 = .ok (.ldc2_w 49, 3) := by decide +kernel
theorem d_Dy_secondsOfTime_22 : decode b_Dy_secondsOfTime 22 = .ok (.iload_n 0, 1) := by decide +kernel
theorem d_Dy_secondsOfTime_23 : decode b_Dy_secondsOfTime 23 = .ok (.invokestatic 32, 3) := by decide +kernel
theorem d_Dy_secondsOfTime_26 : decode b_Dy_secondsOfTime 26 = .ok (.i2l, 1) := by decide +kernel
theorem d_Dy_secondsOfTime_27 : decode b_Dy_secondsOfTime 27 = .ok (.lmul, 1) := by decide +kernel
theorem d_Dy_secondsOfTime_28 : decode b_Dy_secondsOfTime 28 = .ok (.ladd, 1) := by decide +kernel
theorem d_Dy_secondsOfTime_29 : decode b_Dy_secondsOfTime 29 = .ok (.lreturn, 1) := by decide +kernel
abbrev b_Dy_monthLength : ByteArray := prog_2_method_6_code
abbrev y_Dy_monthLength : MethodName := ⟨"LongNames$Days", "monthLength", "(II)I"⟩
abbrev w_Dy_monthLength : List Cond := .code y_Dy_monthLength b_Dy_monthLength 2 (some .int) :: BIG
theorem d_Dy_monthLength_0 : decode b_Dy_monthLength 0 = .ok (.iload_n 1, 1) := by decide +kernel
theorem d_Dy_monthLength_1 : decode b_Dy_monthLength 1 = .ok (.iconst 1, 1) := by decide +kernel
theorem d_Dy_monthLength_2 : decode b_Dy_monthLength 2 = .ok (.if_icmp .lt 9, 3) := by decide +kernel
theorem d_Dy_monthLength_5 : decode b_Dy_monthLength 5 = .ok (.iload_n 1, 1) := by decide +kernel
theorem d_Dy_monthLength_6 : decode b_Dy_monthLength 6 = .ok (.bipush 12, 2) := by decide +kernel
theorem d_Dy_monthLength_8 : decode b_Dy_monthLength 8 = .ok (.if_icmp .le 5, 3) := by decide +kernel
theorem d_Dy_monthLength_11 : decode b_Dy_monthLength 11 = .ok (.iconst 0, 1) := by decide +kernel
theorem d_Dy_monthLength_12 : decode b_Dy_monthLength 12 = .ok (.ireturn, 1) := by decide +kernel
theorem d_Dy_monthLength_13 : decode b_Dy_monthLength 13 = .ok (.iload_n 1, 1) := by decide +kernel
theorem d_Dy_monthLength_14 : decode b_Dy_monthLength 14 = .ok (.iconst 2, 1) := by decide +kernel
theorem d_Dy_monthLength_15 : decode b_Dy_monthLength 15 = .ok (.if_icmp .ne 15, 3) := by decide +kernel
theorem d_Dy_monthLength_18 : decode b_Dy_monthLength 18 = .ok (.iload_n 0, 1) := by decide +kernel
theorem d_Dy_monthLength_19 : decode b_Dy_monthLength 19 = .ok (.invokestatic 35, 3) := by decide +kernel
theorem d_Dy_monthLength_22 : decode b_Dy_monthLength 22 = .ok (.ifCond .eq 8, 3) := by decide +kernel
theorem d_Dy_monthLength_25 : decode b_Dy_monthLength 25 = .ok (.bipush 29, 2) := by decide +kernel
theorem d_Dy_monthLength_27 : decode b_Dy_monthLength 27 = .ok (.goto 10, 3) := by decide +kernel
theorem d_Dy_monthLength_30 : decode b_Dy_monthLength 30 = .ok (.getstatic 51, 3) := by decide +kernel
theorem d_Dy_monthLength_33 : decode b_Dy_monthLength 33 = .ok (.iload_n 1, 1) := by decide +kernel
theorem d_Dy_monthLength_34 : decode b_Dy_monthLength 34 = .ok (.iconst 1, 1) := by decide +kernel
theorem d_Dy_monthLength_35 : decode b_Dy_monthLength 35 = .ok (.isub, 1) := by decide +kernel
theorem d_Dy_monthLength_36 : decode b_Dy_monthLength 36 = .ok (.iaload, 1) := by decide +kernel
theorem d_Dy_monthLength_37 : decode b_Dy_monthLength 37 = .ok (.ireturn, 1) := by decide +kernel
abbrev b_Dy_isLeap : ByteArray := prog_2_method_7_code
abbrev y_Dy_isLeap : MethodName := ⟨"LongNames$Days", "isLeap", "(I)Z"⟩
abbrev w_Dy_isLeap : List Cond := .code y_Dy_isLeap b_Dy_isLeap 1 (some .boolean) :: BIG
theorem d_Dy_isLeap_0 : decode b_Dy_isLeap 0 = .ok (.iload_n 0, 1) := by decide +kernel
theorem d_Dy_isLeap_1 : decode b_Dy_isLeap 1 = .ok (.iconst 4, 1) := by decide +kernel
theorem d_Dy_isLeap_2 : decode b_Dy_isLeap 2 = .ok (.irem, 1) := by decide +kernel
theorem d_Dy_isLeap_3 : decode b_Dy_isLeap 3 = .ok (.ifCond .ne 22, 3) := by decide +kernel
theorem d_Dy_isLeap_6 : decode b_Dy_isLeap 6 = .ok (.iload_n 0, 1) := by decide +kernel
theorem d_Dy_isLeap_7 : decode b_Dy_isLeap 7 = .ok (.bipush 100, 2) := by decide +kernel
theorem d_Dy_isLeap_9 : decode b_Dy_isLeap 9 = .ok (.irem, 1) := by decide +kernel
theorem d_Dy_isLeap_10 : decode b_Dy_isLeap 10 = .ok (.ifCond .ne 11, 3) := by decide +kernel
theorem d_Dy_isLeap_13 : decode b_Dy_isLeap 13 = .ok (.iload_n 0, 1) := by decide +kernel
theorem d_Dy_isLeap_14 : decode b_Dy_isLeap 14 = .ok (.sipush 400, 3) := by decide +kernel
theorem d_Dy_isLeap_17 : decode b_Dy_isLeap 17 = .ok (.irem, 1) := by decide +kernel
theorem d_Dy_isLeap_18 : decode b_Dy_isLeap 18 = .ok (.ifCond .ne 7, 3) := by decide +kernel
theorem d_Dy_isLeap_21 : decode b_Dy_isLeap 21 = .ok (.iconst 1, 1) := by decide +kernel
theorem d_Dy_isLeap_22 : decode b_Dy_isLeap 22 = .ok (.goto 4, 3) := by decide +kernel
theorem d_Dy_isLeap_25 : decode b_Dy_isLeap 25 = .ok (.iconst 0, 1) := by decide +kernel
theorem d_Dy_isLeap_26 : decode b_Dy_isLeap 26 = .ok (.ireturn, 1) := by decide +kernel
abbrev b_Dy_yearOf : ByteArray := prog_2_method_8_code
abbrev y_Dy_yearOf : MethodName := ⟨"LongNames$Days", "yearOf", "(I)I"⟩
abbrev w_Dy_yearOf : List Cond := .code y_Dy_yearOf b_Dy_yearOf 1 (some .int) :: BIG
theorem d_Dy_yearOf_0 : decode b_Dy_yearOf 0 = .ok (.sipush 1980, 3) := by decide +kernel
theorem d_Dy_yearOf_3 : decode b_Dy_yearOf 3 = .ok (.iload_n 0, 1) := by decide +kernel
theorem d_Dy_yearOf_4 : decode b_Dy_yearOf 4 = .ok (.sipush 512, 3) := by decide +kernel
theorem d_Dy_yearOf_7 : decode b_Dy_yearOf 7 = .ok (.idiv, 1) := by decide +kernel
theorem d_Dy_yearOf_8 : decode b_Dy_yearOf 8 = .ok (.iadd, 1) := by decide +kernel
theorem d_Dy_yearOf_9 : decode b_Dy_yearOf 9 = .ok (.ireturn, 1) := by decide +kernel
abbrev b_Dy_monthOf : ByteArray := prog_2_method_9_code
abbrev y_Dy_monthOf : MethodName := ⟨"LongNames$Days", "monthOf", "(I)I"⟩
abbrev w_Dy_monthOf : List Cond := .code y_Dy_monthOf b_Dy_monthOf 1 (some .int) :: BIG
theorem d_Dy_monthOf_0 : decode b_Dy_monthOf 0 = .ok (.iload_n 0, 1) := by decide +kernel
theorem d_Dy_monthOf_1 : decode b_Dy_monthOf 1 = .ok (.bipush 32, 2) := by decide +kernel
theorem d_Dy_monthOf_3 : decode b_Dy_monthOf 3 = .ok (.idiv, 1) := by decide +kernel
theorem d_Dy_monthOf_4 : decode b_Dy_monthOf 4 = .ok (.bipush 16, 2) := by decide +kernel
theorem d_Dy_monthOf_6 : decode b_Dy_monthOf 6 = .ok (.irem, 1) := by decide +kernel
theorem d_Dy_monthOf_7 : decode b_Dy_monthOf 7 = .ok (.ireturn, 1) := by decide +kernel
abbrev b_Dy_dayOf : ByteArray := prog_2_method_10_code
abbrev y_Dy_dayOf : MethodName := ⟨"LongNames$Days", "dayOf", "(I)I"⟩
abbrev w_Dy_dayOf : List Cond := .code y_Dy_dayOf b_Dy_dayOf 1 (some .int) :: BIG
theorem d_Dy_dayOf_0 : decode b_Dy_dayOf 0 = .ok (.iload_n 0, 1) := by decide +kernel
theorem d_Dy_dayOf_1 : decode b_Dy_dayOf 1 = .ok (.bipush 32, 2) := by decide +kernel
theorem d_Dy_dayOf_3 : decode b_Dy_dayOf 3 = .ok (.irem, 1) := by decide +kernel
theorem d_Dy_dayOf_4 : decode b_Dy_dayOf 4 = .ok (.ireturn, 1) := by decide +kernel
abbrev b_Dy_hourOf : ByteArray := prog_2_method_11_code
abbrev y_Dy_hourOf : MethodName := ⟨"LongNames$Days", "hourOf", "(I)I"⟩
abbrev w_Dy_hourOf : List Cond := .code y_Dy_hourOf b_Dy_hourOf 1 (some .int) :: BIG
theorem d_Dy_hourOf_0 : decode b_Dy_hourOf 0 = .ok (.iload_n 0, 1) := by decide +kernel
theorem d_Dy_hourOf_1 : decode b_Dy_hourOf 1 = .ok (.sipush 2048, 3) := by decide +kernel
theorem d_Dy_hourOf_4 : decode b_Dy_hourOf 4 = .ok (.idiv, 1) := by decide +kernel
theorem d_Dy_hourOf_5 : decode b_Dy_hourOf 5 = .ok (.ireturn, 1) := by decide +kernel
abbrev b_Dy_minuteOf : ByteArray := prog_2_method_12_code
abbrev y_Dy_minuteOf : MethodName := ⟨"LongNames$Days", "minuteOf", "(I)I"⟩
abbrev w_Dy_minuteOf : List Cond := .code y_Dy_minuteOf b_Dy_minuteOf 1 (some .int) :: BIG
theorem d_Dy_minuteOf_0 : decode b_Dy_minuteOf 0 = .ok (.iload_n 0, 1) := by decide +kernel
theorem d_Dy_minuteOf_1 : decode b_Dy_minuteOf 1 = .ok (.bipush 32, 2) := by decide +kernel
theorem d_Dy_minuteOf_3 : decode b_Dy_minuteOf 3 = .ok (.idiv, 1) := by decide +kernel
theorem d_Dy_minuteOf_4 : decode b_Dy_minuteOf 4 = .ok (.bipush 64, 2) := by decide +kernel
theorem d_Dy_minuteOf_6 : decode b_Dy_minuteOf 6 = .ok (.irem, 1) := by decide +kernel
theorem d_Dy_minuteOf_7 : decode b_Dy_minuteOf 7 = .ok (.ireturn, 1) := by decide +kernel
abbrev b_Dy_halfOf : ByteArray := prog_2_method_13_code
abbrev y_Dy_halfOf : MethodName := ⟨"LongNames$Days", "halfOf", "(I)I"⟩
abbrev w_Dy_halfOf : List Cond := .code y_Dy_halfOf b_Dy_halfOf 1 (some .int) :: BIG
theorem d_Dy_halfOf_0 : decode b_Dy_halfOf 0 = .ok (.iload_n 0, 1) := by decide +kernel
theorem d_Dy_halfOf_1 : decode b_Dy_halfOf 1 = .ok (.bipush 32, 2) := by decide +kernel
theorem d_Dy_halfOf_3 : decode b_Dy_halfOf 3 = .ok (.irem, 1) := by decide +kernel
theorem d_Dy_halfOf_4 : decode b_Dy_halfOf 4 = .ok (.ireturn, 1) := by decide +kernel
abbrev b_Ar_fill : ByteArray := prog_17_method_103_code
abbrev y_Ar_fill : MethodName := ⟨"java/util/Arrays", "fill", "([II)V"⟩
abbrev w_Ar_fill : List Cond := .code y_Ar_fill b_Ar_fill 4 none :: BIG
theorem d_Ar_fill_0 : decode b_Ar_fill 0 = .ok (.iconst 0, 1) := by decide +kernel
theorem d_Ar_fill_1 : decode b_Ar_fill 1 = .ok (.istore_n 2, 1) := by decide +kernel
theorem d_Ar_fill_2 : decode b_Ar_fill 2 = .ok (.aload_n 0, 1) := by decide +kernel
theorem d_Ar_fill_3 : decode b_Ar_fill 3 = .ok (.arraylength, 1) := by decide +kernel
theorem d_Ar_fill_4 : decode b_Ar_fill 4 = .ok (.istore_n 3, 1) := by decide +kernel
theorem d_Ar_fill_5 : decode b_Ar_fill 5 = .ok (.iload_n 2, 1) := by decide +kernel
theorem d_Ar_fill_6 : decode b_Ar_fill 6 = .ok (.iload_n 3, 1) := by decide +kernel
theorem d_Ar_fill_7 : decode b_Ar_fill 7 = .ok (.if_icmp .ge 13, 3) := by decide +kernel
theorem d_Ar_fill_10 : decode b_Ar_fill 10 = .ok (.aload_n 0, 1) := by decide +kernel
theorem d_Ar_fill_11 : decode b_Ar_fill 11 = .ok (.iload_n 2, 1) := by decide +kernel
theorem d_Ar_fill_12 : decode b_Ar_fill 12 = .ok (.iload_n 1, 1) := by decide +kernel
theorem d_Ar_fill_13 : decode b_Ar_fill 13 = .ok (.iastore, 1) := by decide +kernel
theorem d_Ar_fill_14 : decode b_Ar_fill 14 = .ok (.iinc 2 1, 3) := by decide +kernel
theorem d_Ar_fill_17 : decode b_Ar_fill 17 = .ok (.goto (-12), 3) := by decide +kernel
theorem d_Ar_fill_20 : decode b_Ar_fill 20 = .ok (.return_, 1) := by decide +kernel
end
section
/-! calls: the words of a callee are BIG's -/
section GW
variable {R : Room} {s : State} {args : Array Value} {own C : String} {idx maxL mc ms : Nat} {y : MethodName} {bytes : ByteArray} {ret : Option FieldType} {rm : Room} {z : Cond}
theorem g_in {w : List Cond} (h : ∀ x ∈ w, x ∈ BIG) : GoodIn (z :: BIG) w := fun x hx => ⟨List.mem_cons_of_mem _ (h x hx), good_of_word (big_good x (h x hx))⟩
theorem gV (n : Nat) (ht : ∀ w ∈ z :: BIG, w.before args s = true) (h1 : Cond.methodLink own idx y ∈ BIG) (h2 : Cond.instanceMethod y ∈ BIG) (h3 : Cond.selects C y y ∈ BIG) (h4 : Cond.initialized C ∈ BIG) (h5 : Cond.code y bytes maxL ret ∈ BIG)
    (hd : y.cls = C ∧ y.cls ≠ "java/lang/invoke/MethodHandle" ∧ y.cls ≠ "java/lang/invoke/VarHandle" ∧ (parseMethodDescriptor y.desc).map (fun d => d.parameters.length) = some n) (hR : rm.frames + 1 ≤ R.frames ∧ 8 + (maxL + 11) + rm.locals ≤ R.locals) (hrc : rm.cells = mc := by rfl) (hrs : rm.slots = ms := by rfl) :
    CallW R s args own C idx y bytes maxL ret (Cond.code y bytes maxL ret :: BIG) rm mc ms n := by
  refine cwV n ht (g_in (fun x hx => ?_)) rfl hrc hrs hd hR
  simp only [wsV, List.cons_append, List.nil_append, List.mem_cons] at hx
  rcases hx with rfl | rfl | rfl | rfl | rfl | hx
  · exact h1
  · exact h2
  · exact h3
  · exact h4
  · exact h5
  · exact hx
theorem gS (n : Nat) (ht : ∀ w ∈ z :: BIG, w.before args s = true) (h1 : Cond.methodLink own idx y ∈ BIG) (h2 : Cond.static y ∈ BIG) (h4 : Cond.initialized y.cls ∈ BIG) (h5 : Cond.code y bytes maxL ret ∈ BIG)
    (hd : y.cls ≠ "java/lang/invoke/MethodHandle" ∧ y.cls ≠ "java/lang/invoke/VarHandle" ∧ (parseMethodDescriptor y.desc).map (fun d => d.parameters.length) = some n) (hR : rm.frames + 1 ≤ R.frames ∧ 8 + (maxL + 11) + rm.locals ≤ R.locals) (hrc : rm.cells = mc := by rfl) (hrs : rm.slots = ms := by rfl) :
    CallB R s args own idx y bytes maxL ret (Cond.code y bytes maxL ret :: BIG) rm mc ms n ∧ (Cond.static y).before args s = true := by
  refine va_cwS n ht (g_in (fun x hx => ?_)) rfl hrc hrs hd hR
  simp only [va_wsS, List.cons_append, List.nil_append, List.mem_cons] at hx
  rcases hx with rfl | rfl | rfl | rfl | hx
  · exact h1
  · exact h2
  · exact h4
  · exact h5
  · exact hx
end GW
/-! what the static tables hold, the nest's words, the texts -/
def plN (j : Nat) : Nat := if j < 5 then 2 * j + 1 else if j < 11 then 2 * j + 4 else 2 * j + 6
def mlN (j : Nat) : Nat := if j = 1 then 28 else if j = 3 ∨ j = 5 ∨ j = 8 ∨ j = 10 then 30 else 31
def nestW : List Cond := [.methodLinkNest "LongNames" 9 ⟨"LongNames$Row", "<init>", "()V"⟩ "LongNames", .methodLinkNest "LongNames" 21 ⟨"LongNames$ShortName", "<init>", "()V"⟩ "LongNames", .methodLinkNest "LongNames" 28 ⟨"LongNames$Part", "<init>", "()V"⟩ "LongNames", .methodLinkNest "LongNames" 35 ⟨"LongNames$Slots", "<init>", "()V"⟩ "LongNames"]
def strW : List (Nat × String) := [(79, "the row is no name"), (84, "the tail is not 0 to 9999"), (86, "a name that is not short needs a tail"), (93, "there are too few slots"), (108, "there is no such row"), (110, "the parts are not 0 to 20"), (112, "there is no such slot, or too few before it"), (123, "the entry has no short name"), (133, "the parts are not those of the entry")]
def sTt (A : Nat → Prop) (U : State) (H : Heap) : Prop := ∃ t1 t2 : Nat, va_Z "LongNames$Part" "PLACES" "[I" (.ref t1) A U H ∧ va_T .int t1 13 (fun j => .int (nI (plN j))) A U H ∧ va_Z "LongNames$Days" "MONTHS" "[I" (.ref t2) A U H ∧ va_T .int t2 12 (fun j => .int (nI (mlN j))) A U H
def sT (A : Nat → Prop) (U : State) (H : Heap) : Prop := sTt A U H ∧ va_Zq Bundle.tN "UNASSIGNED_STACK" Bundle.steD A U H ∧ va_Zq Bundle.tN "SUPPRESSED_SENTINEL" Bundle.listD A U H ∧ (∀ w ∈ nestW, va_Nw w U) ∧ (∀ z ∈ strW, ∃ q : Nat, vk_R "LongNames" z.1 z.2 q U)
section ST
variable {A B : Nat → Prop} {s u U : State} {H H1 : Heap}
theorem sT.tabs (h : sT A U H) : sTt A U H := h.1
theorem sT.un (h : sT A U H) : va_Zq Bundle.tN "UNASSIGNED_STACK" Bundle.steD A U H := h.2.1
theorem sT.se (h : sT A U H) : va_Zq Bundle.tN "SUPPRESSED_SENTINEL" Bundle.listD A U H := h.2.2.1
theorem sT.nest (h : sT A U H) (w : Cond) (hw : w ∈ nestW) : va_Nw w U := h.2.2.2.1 w hw
theorem sT.str (h : sT A U H) (z : Nat × String) (hz : z ∈ strW) : ∃ q : Nat, vk_R "LongNames" z.1 z.2 q U := h.2.2.2.2 z hz
theorem sT.kept (h : sT A U H) (hq : ∀ a : Nat, a < H.size → ¬ A a → H1[a]? = H[a]?) : sT A U H1 := by
  obtain ⟨⟨t1, t2, a1, a2, a3, a4⟩, b1, b2, b3, b4⟩ := h
  exact ⟨⟨t1, t2, a1.kept hq, a2.kept hq, a3.kept hq, a4.kept hq⟩, b1.kept hq, b2.kept hq, b3, b4⟩
theorem sT.narrow (h : sT A U H) (hAB : ∀ q, B q → A q) : sT B U H := by
  obtain ⟨⟨t1, t2, a1, a2, a3, a4⟩, b1, b2, b3, b4⟩ := h
  exact ⟨⟨t1, t2, a1.narrow hAB, a2.narrow hAB, a3.narrow hAB, a4.narrow hAB⟩, b1.narrow hAB, b2.narrow hAB, b3, b4⟩
theorem sT.warm (hW : s.WarmedH U.vm) (h : sT A s H) : sT A U H := by
  obtain ⟨⟨t1, t2, a1, a2, a3, a4⟩, b1, b2, b3, b4⟩ := h
  refine ⟨⟨t1, t2, va_Z.moved hW.alike a1, va_T.moved hW.alike a2, va_Z.moved hW.alike a3, va_T.moved hW.alike a4⟩, va_Zq.moved hW.alike b1, va_Zq.moved hW.alike b2, fun w hw => ?_, fun z hz => ?_⟩
  · have h9 := b3 w hw
    simp only [nestW, List.mem_cons, List.not_mem_nil, or_false] at hw
    rcases hw with rfl | rfl | rfl | rfl <;> exact va_Nw.warmM hW h9
  · obtain ⟨q, h9⟩ := b4 z hz
    exact ⟨q, vk_R.warm hW h9⟩
theorem sT.same (e : u.vm = U.vm) (h : sT A u H) : sT A U H := by
  obtain ⟨⟨t1, t2, a1, a2, a3, a4⟩, b1, b2, b3, b4⟩ := h
  have ha : u.vm.Alike U.vm := e ▸ Vm.Alike.refl u.vm
  refine ⟨⟨t1, t2, va_Z.moved ha a1, va_T.moved ha a2, va_Z.moved ha a3, va_T.moved ha a4⟩, va_Zq.moved ha b1, va_Zq.moved ha b2, fun w hw => ?_, fun z hz => ?_⟩
  · have h9 := b3 w hw
    simp only [nestW, List.mem_cons, List.not_mem_nil, or_false] at hw
    rcases hw with rfl | rfl | rfl | rfl <;> exact va_Nw.same rfl e h9
  · obtain ⟨q, h9⟩ := b4 z hz
    exact ⟨q, vk_R.same e.symm h9⟩
end ST
/-! Contracts of two kinds, and their calls. A reader (mR): the heap stays, the answer is ro. A writer (mM): the world w becomes w1 (the same addresses), nothing else changes. sT: what the static tables hold. -/
section MK
variable {p : Program} {l : Launch} {e : Env} {R : Room} {s : State} {m : MethodId} {args : Array Value} {below : List Frame} {meth : Method} {c : Code} {H : Heap} {locs : List Loc} {cells slots : Nat} {Q : State → Prop}
variable {pc : Nat} {ls : Array Slot} {rest st0 : List Value} {a : Array Value} {D : va_G} {cl : List vw_C} {tys : List (ClassId × FieldType)} {A : Nat → Prop} {H0 : Heap}
def mk_rq (ro : Option Value) : Array Value → State → Outcome → State → Prop := fun _ st o t => o = .returned ro ∧ t.heap = st.heap
def mk_wq (ro : Option Value) (D : va_G) (cl : List vw_C) (w1 : va_W) (A : Nat → Prop) : Array Value → State → Outcome → State → Prop := fun _ st o t => o = .returned ro ∧ va_P D cl w1 t.heap ∧ va_D A w1 ∧ va_F A st t
def mk_pR (D : va_G) (cl : List vw_C) (tys : List (ClassId × FieldType)) (w : va_W) : State → Prop := fun U => va_P D cl w U.heap ∧ va_K D cl tys U ∧ sT (fun _ => False) U U.heap
def mk_pM (D : va_G) (cl : List vw_C) (tys : List (ClassId × FieldType)) (w : va_W) (sz : Nat) : State → Prop := fun U => U.heap.size = sz ∧ va_P D cl w U.heap ∧ va_K D cl tys U ∧ va_D (fun _ => True) w ∧ sT (va_A w sz) U U.heap
def mR (l : Launch) (y : MethodName) (ws : List Cond) (rm : Room) (av : List Value) (D : va_G) (cl : List vw_C) (tys : List (ClassId × FieldType)) (w : va_W) (ro : Option Value) : Prop := Met l y ws rm (va_Pc av (mk_pR D cl tys w)) (mk_rq ro) 0 0 (fun _ => False)
def mM (l : Launch) (y : MethodName) (ws : List Cond) (rm : Room) (av : List Value) (D : va_G) (cl : List vw_C) (tys : List (ClassId × FieldType)) (w : va_W) (ro : Option Value) (w1 : va_W) : Prop := ∀ sz : Nat, Met l y ws rm (va_Pc av (mk_pM D cl tys w sz)) (mk_wq ro D cl w1 (va_A w sz)) 0 0 (va_A w sz)
/-- behind a reader's call -/
theorem mk_r1 {v : Value} (hr : CallRun p l e R s m args below meth c H locs cells slots 0 0 (F0 m pc ls st0) rest (mk_rq (some v) a) (fun _ => False))
    (kk : W p l e R s m args below meth c H locs cells slots Q (F0 m (pc + 3) ls (v :: rest))) : W p l e R s m args below meth c H locs cells slots Q (F0 m pc ls st0) := by
  intro T hT X
  obtain ⟨v2, st₀, t, T', L, h0, X', hL, e1, ⟨hv, hh⟩, st⟩ := hr T hT X
  cases hv
  obtain ⟨t2, a1, b1⟩ := kk T' (by rw [e1, hh, h0]) (Stand.forget X' (fun q h => (hL q h).elim))
  exact ⟨t2, st t2 a1, b1⟩
theorem mk_sJ {wc w1 : va_W} {L : List Loc} {st₀ t : State} (h0 : st₀.heap = H) (hS : va_S A H0 H locs) (hF : ∀ q, va_A wc H.size q → A q) (hFr : va_F (va_A wc H.size) st₀ t) (hL : ∀ q ∈ L, va_A wc H.size q.base) : va_S A H0 t.heap (locs ++ L) := by
  obtain ⟨f1, f2⟩ := hFr
  rw [h0] at f1 f2
  refine ⟨Nat.le_trans hS.1 f1, fun q h1 h2 => ?_, fun q hq => ?_⟩
  · rw [f2 q (Nat.lt_of_lt_of_le h1 hS.1) (fun z => h2 (hF q z))]
    exact hS.2.1 q h1 h2
  · rcases List.mem_append.mp hq with h | h
    · exact hS.2.2 q h
    · exact hF _ (hL q h)
/-- behind a writer's call: the rest, and the callee's world -/
theorem mk_w1 {v : Value} {ws wc wr w1 : va_W} (hr : CallRun p l e R s m args below meth c H locs cells slots 0 0 (F0 m pc ls st0) rest (mk_wq (some v) D cl w1 (va_A wc H.size) a) (va_A wc H.size))
    (hP : va_P D cl ws H) (hD : va_D A ws) (hS : va_S A H0 H locs) (hA : ∀ q, H0.size ≤ q → A q) (isC isR : List Nat) (hC : isC.map (fun i => ws[i]?) = wc.map some) (hR : isR.map (fun i => ws[i]?) = wr.map some) (hn : va_nd isR = true) (hdis : ∀ i ∈ isR, i ∉ isC)
    (kk : ∀ (H1 : Heap) (locs1 : List Loc), va_P D cl (wr ++ w1) H1 → va_D A (wr ++ w1) → va_S A H0 H1 locs1 → W p l e R s m args below meth c H1 locs1 cells slots Q (F0 m (pc + 3) ls (v :: rest))) : W p l e R s m args below meth c H locs cells slots Q (F0 m pc ls st0) := by
  have hF := va_free hD hS hA isC hC
  intro T hT X
  obtain ⟨v2, st₀, t, T', L, h0, X', hL, e1, ⟨hv, hP1, hD1, hFr⟩, st⟩ := hr T hT X
  cases hv
  obtain ⟨hP', hD'⟩ := va_join hP hD isC isR hC hR hn hdis (fun q h1 h2 => by rw [hFr.2 q (by rw [h0]; exact h1) h2, h0]) hF hP1 hD1
  obtain ⟨t2, a1, b1⟩ := kk t.heap (locs ++ L) hP' hD' (mk_sJ (w1 := w1) h0 hS hF hFr hL) T' e1 X'
  exact ⟨t2, st t2 a1, b1⟩
theorem mk_w0 {ws wc wr w1 : va_W} (hr : CallRun p l e R s m args below meth c H locs cells slots 0 0 (F0 m pc ls st0) rest (mk_wq none D cl w1 (va_A wc H.size) a) (va_A wc H.size))
    (hP : va_P D cl ws H) (hD : va_D A ws) (hS : va_S A H0 H locs) (hA : ∀ q, H0.size ≤ q → A q) (isC isR : List Nat) (hC : isC.map (fun i => ws[i]?) = wc.map some) (hR : isR.map (fun i => ws[i]?) = wr.map some) (hn : va_nd isR = true) (hdis : ∀ i ∈ isR, i ∉ isC)
    (kk : ∀ (H1 : Heap) (locs1 : List Loc), va_P D cl (wr ++ w1) H1 → va_D A (wr ++ w1) → va_S A H0 H1 locs1 → W p l e R s m args below meth c H1 locs1 cells slots Q (F0 m (pc + 3) ls rest)) : W p l e R s m args below meth c H locs cells slots Q (F0 m pc ls st0) := by
  have hF := va_free hD hS hA isC hC
  intro T hT X
  obtain ⟨v2, st₀, t, T', L, h0, X', hL, e1, ⟨hv, hP1, hD1, hFr⟩, st⟩ := hr T hT X
  cases hv
  obtain ⟨hP', hD'⟩ := va_join hP hD isC isR hC hR hn hdis (fun q h1 h2 => by rw [hFr.2 q (by rw [h0]; exact h1) h2, h0]) hF hP1 hD1
  obtain ⟨t2, a1, b1⟩ := kk t.heap (locs ++ L) hP' hD' (mk_sJ (w1 := w1) h0 hS hF hFr hL) T' e1 X'
  exact ⟨t2, st t2 a1, b1⟩
/-- what a call gives its callee -/
theorem mk_bR {av : List Value} {w : va_W} : FrameBlind (va_Pc av (mk_pR D cl tys w)) := by
  intro a U g mk h
  obtain ⟨h1, h2, h3, h4⟩ := h
  exact ⟨h1, h2, va_K.moved (u := U) (U := U.calling g mk a) (Vm.Alike.refl U.vm) h3, sT.same (u := U) (U := U.calling g mk a) rfl h4⟩
theorem mk_bM {av : List Value} {w : va_W} {sz : Nat} : FrameBlind (va_Pc av (mk_pM D cl tys w sz)) := by
  intro a U g mk h
  obtain ⟨h1, h2, h3, h4, h5, h6⟩ := h
  exact ⟨h1, h2, h3, va_K.moved (u := U) (U := U.calling g mk a) (Vm.Alike.refl U.vm) h4, h5, sT.same (u := U) (U := U.calling g mk a) rfl h6⟩
theorem mk_sR {As : List Value} {ws w : va_W} (hP : va_P D cl ws H) (hK : va_K D cl tys s) (hT : sT A s s.heap) (hS : va_S A s.heap H locs) (is : List Nat) (hs : is.filterMap (fun i => ws[i]?) = w) : PreS s H (va_Pc As (mk_pR D cl tys w)) As :=
  ⟨mk_bR, fun U hU hW => ⟨rfl, by rw [hU]; exact hP.sub is hs, va_K.moved hW.alike hK, by rw [hU]; exact sT.warm hW ((hT.kept (fun q h1 h2 => hS.2.1 q h1 h2)).narrow (fun _ h => h.elim))⟩⟩
theorem mk_sM {As : List Value} {ws w : va_W} (hP : va_P D cl ws H) (hD : va_D A ws) (hK : va_K D cl tys s) (hT : sT A s s.heap) (hS : va_S A s.heap H locs) (hA : ∀ q, s.heap.size ≤ q → A q) (is : List Nat) (hs : is.filterMap (fun i => ws[i]?) = w) (hs2 : is.map (fun i => ws[i]?) = w.map some) (hn : va_nd is = true) : PreS s H (va_Pc As (mk_pM D cl tys w H.size)) As :=
  ⟨mk_bM, fun U hU hW => ⟨rfl, by rw [hU], by rw [hU]; exact hP.sub is hs, va_K.moved hW.alike hK, (hD.sub is hn hs2).weaken (fun _ _ _ _ => trivial), by rw [hU]; exact sT.warm hW ((hT.kept (fun q h1 h2 => hS.2.1 q h1 h2)).narrow (va_free hD hS hA is hs2))⟩⟩
theorem mk_vR {As : List Value} {ws w : va_W} {C : String} {b : Nat} (hP : va_P D cl ws H) (hK : va_K D cl tys s) (hT : sT A s s.heap) (hS : va_S A s.heap H locs) (is : List Nat) (hs : is.filterMap (fun i => ws[i]?) = w) {q0 ci : Nat} {T : u_T} {N : Nat} {fs : List Value} (hc : cl[ci]? = some (C, T, N)) (he : ws[q0]? = some (b, .inr (ci, fs))) : PreV s H C b (va_Pc (.ref b :: As) (mk_pR D cl tys w)) As :=
  ⟨mk_bR, va_recv hK hP hc he, (mk_sR hP hK hT hS is hs).2⟩
theorem mk_vM {As : List Value} {ws w : va_W} {C : String} {b : Nat} (hP : va_P D cl ws H) (hD : va_D A ws) (hK : va_K D cl tys s) (hT : sT A s s.heap) (hS : va_S A s.heap H locs) (hA : ∀ q, s.heap.size ≤ q → A q) (is : List Nat) (hs : is.filterMap (fun i => ws[i]?) = w) (hs2 : is.map (fun i => ws[i]?) = w.map some) (hn : va_nd is = true) {q0 ci : Nat} {T : u_T} {N : Nat} {fs : List Value} (hc : cl[ci]? = some (C, T, N)) (he : ws[q0]? = some (b, .inr (ci, fs))) : PreV s H C b (va_Pc (.ref b :: As) (mk_pM D cl tys w H.size)) As :=
  ⟨mk_bM, va_recv hK hP hc he, (mk_sM hP hD hK hT hS hA is hs hs2 hn).2⟩
end MK
section MI
variable {l : Launch} {y : MethodName} {ws ws' : List Cond} {rm : Room} {cc : ByteArray} {maxL : Nat} {av : List Value} {D : va_G} {cl : List vw_C} {tys : List (ClassId × FieldType)} {w : va_W}
/-- a reader's body: int, boolean -/
theorem mk_Ri {ty : FieldType} {r : Int32} (hy : plainName y.cls = true) (hw : ws = Cond.code y cc maxL (some ty) :: ws') (hlen : (lg_sl av).length ≤ maxL) (hnar : narrow ty (.int r) = .int r)
    (body : ∀ (p : Program) (e : Env) (s : State) (m : MethodId) (below : List Frame) (meth : Method) (c : Code) (Q : State → Prop) (A : Nat → Prop) (ls : Array Slot), CallFix p m c cc maxL s av.toArray ws y.cls → va_P D cl w s.heap → va_K D cl tys s → sT A s s.heap → va_S A s.heap s.heap [] → lv_has ls maxL (lv_args 0 av) →
      (∀ (pc : Nat) (ls : Array Slot), decode cc pc = .ok (.ireturn, 1) → W p l e rm s m av.toArray below meth c s.heap [] 0 0 Q (F0 m pc ls [.int r])) → W p l e rm s m av.toArray below meth c s.heap [] 0 0 Q (F0 m 0 ls [])) : mR l y ws rm av D cl tys w (some (.int r)) := by
  refine Met.ofW (cc := cc) (maxL := maxL) (ret := some ty) hy hw ?_
  intro p e s m args below meth c s₁ B hml hv
  obtain ⟨rfl, hP, hK, hT⟩ := hv
  have hl := lv_entry av (n := maxL) hlen
  have hlocks := B.notSynchronized
  rw [lg_entry_eq]
  generalize (lg_sl av ++ List.replicate (maxL - (lg_sl av).length) Slot.unset).toArray = ls at hl ⊢
  exact body p e s m below meth c _ _ ls ⟨B.exec, B.bytes, hml, findClass_of_methodNamed B.named, atoms_spec (ws := ws) B.pre⟩ hP hK hT va_S.rf hl
    (fun pc ls hd => W.zret B.exec B.bytes B.returns hnar (fun t ht hW => ⟨rfl, ht⟩) (fun q h => by cases h) hd)
/-- long -/
theorem mk_Rl {r : Int64} (hy : plainName y.cls = true) (hw : ws = Cond.code y cc maxL (some .long) :: ws') (hlen : (lg_sl av).length ≤ maxL)
    (body : ∀ (p : Program) (e : Env) (s : State) (m : MethodId) (below : List Frame) (meth : Method) (c : Code) (Q : State → Prop) (A : Nat → Prop) (ls : Array Slot), CallFix p m c cc maxL s av.toArray ws y.cls → va_P D cl w s.heap → va_K D cl tys s → sT A s s.heap → va_S A s.heap s.heap [] → lv_has ls maxL (lv_args 0 av) →
      (∀ (pc : Nat) (ls : Array Slot), decode cc pc = .ok (.lreturn, 1) → W p l e rm s m av.toArray below meth c s.heap [] 0 0 Q (F0 m pc ls [.long r])) → W p l e rm s m av.toArray below meth c s.heap [] 0 0 Q (F0 m 0 ls [])) : mR l y ws rm av D cl tys w (some (.long r)) := by
  refine Met.ofW (cc := cc) (maxL := maxL) (ret := some .long) hy hw ?_
  intro p e s m args below meth c s₁ B hml hv
  obtain ⟨rfl, hP, hK, hT⟩ := hv
  have hl := lv_entry av (n := maxL) hlen
  have hlocks := B.notSynchronized
  rw [lg_entry_eq]
  generalize (lg_sl av ++ List.replicate (maxL - (lg_sl av).length) Slot.unset).toArray = ls at hl ⊢
  exact body p e s m below meth c _ _ ls ⟨B.exec, B.bytes, hml, findClass_of_methodNamed B.named, atoms_spec (ws := ws) B.pre⟩ hP hK hT va_S.rf hl
    (fun pc ls hd => W.lret B.exec B.bytes B.returns (fun t ht hW => ⟨rfl, ht⟩) (fun q h => by cases h) hd)
/-- a reference or null -/
theorem mk_Ra {rt : FieldType} {v : Value} (hy : plainName y.cls = true) (hw : ws = Cond.code y cc maxL (some rt) :: ws') (hlen : (lg_sl av).length ≤ maxL) (hrt : (∃ n, rt = .object n) ∨ ∃ t, rt = .array t) (hv : v = .null ∨ ∃ a, v = .ref a)
    (body : ∀ (p : Program) (e : Env) (s : State) (m : MethodId) (below : List Frame) (meth : Method) (c : Code) (Q : State → Prop) (A : Nat → Prop) (ls : Array Slot), CallFix p m c cc maxL s av.toArray ws y.cls → va_P D cl w s.heap → va_K D cl tys s → sT A s s.heap → va_S A s.heap s.heap [] → lv_has ls maxL (lv_args 0 av) →
      (∀ (pc : Nat) (ls : Array Slot), decode cc pc = .ok (.areturn, 1) → W p l e rm s m av.toArray below meth c s.heap [] 0 0 Q (F0 m pc ls [v])) → W p l e rm s m av.toArray below meth c s.heap [] 0 0 Q (F0 m 0 ls [])) : mR l y ws rm av D cl tys w (some v) := by
  refine Met.ofW (cc := cc) (maxL := maxL) (ret := some rt) hy hw ?_
  intro p e s m args below meth c s₁ B hml hv2
  obtain ⟨rfl, hP, hK, hT⟩ := hv2
  have hl := lv_entry av (n := maxL) hlen
  have hlocks := B.notSynchronized
  rw [lg_entry_eq]
  generalize (lg_sl av ++ List.replicate (maxL - (lg_sl av).length) Slot.unset).toArray = ls at hl ⊢
  exact body p e s m below meth c _ _ ls ⟨B.exec, B.bytes, hml, findClass_of_methodNamed B.named, atoms_spec (ws := ws) B.pre⟩ hP hK hT va_S.rf hl
    (fun pc ls hd => W.aret B.exec B.bytes B.returns hrt hv (fun t ht hW => ⟨rfl, ht⟩) (fun q h => by cases h) hd)
/-- a writer's body: int, boolean -/
theorem mk_Mi {ty : FieldType} {r : Int32} {w1 : va_W} (hy : plainName y.cls = true) (hw : ws = Cond.code y cc maxL (some ty) :: ws') (hlen : (lg_sl av).length ≤ maxL) (hnar : narrow ty (.int r) = .int r)
    (body : ∀ (p : Program) (e : Env) (s : State) (m : MethodId) (below : List Frame) (meth : Method) (c : Code) (Q : State → Prop) (A : Nat → Prop) (ls : Array Slot), CallFix p m c cc maxL s av.toArray ws y.cls → va_P D cl w s.heap → va_K D cl tys s → sT A s s.heap → va_S A s.heap s.heap [] → lv_has ls maxL (lv_args 0 av) → va_D A w → (∀ q : Nat, s.heap.size ≤ q → A q) →
      (∀ (pc : Nat) (ls : Array Slot) (H : Heap) (locs : List Loc), decode cc pc = .ok (.ireturn, 1) → va_P D cl w1 H → va_D A w1 → va_S A s.heap H locs → W p l e rm s m av.toArray below meth c H locs 0 0 Q (F0 m pc ls [.int r])) → W p l e rm s m av.toArray below meth c s.heap [] 0 0 Q (F0 m 0 ls [])) : mM l y ws rm av D cl tys w (some (.int r)) w1 := by
  intro sz
  refine Met.ofW (cc := cc) (maxL := maxL) (ret := some ty) hy hw ?_
  intro p e s m args below meth c s₁ B hml hv
  obtain ⟨rfl, hsz, hP, hK, hD0, hT⟩ := hv
  subst hsz
  have hD := hD0.self (sz := s.heap.size)
  have hA : ∀ q : Nat, s.heap.size ≤ q → va_A w s.heap.size q := fun q h => Or.inr h
  have hl := lv_entry av (n := maxL) hlen
  have hlocks := B.notSynchronized
  rw [lg_entry_eq]
  generalize (lg_sl av ++ List.replicate (maxL - (lg_sl av).length) Slot.unset).toArray = ls at hl ⊢
  generalize va_A w s.heap.size = A at hD hA hT ⊢
  exact body p e s m below meth c _ A ls ⟨B.exec, B.bytes, hml, findClass_of_methodNamed B.named, atoms_spec (ws := ws) B.pre⟩ hP hK hT va_S.rf hl hD hA
    (fun pc ls H locs hd hP1 hD1 hS1 => W.zret B.exec B.bytes B.returns hnar (fun t ht hW => ⟨rfl, by rw [ht]; exact hP1, hD1, hS1.F ht⟩) hS1.2.2 hd)
/-- a writer's body: void -/
theorem mk_Mv {w1 : va_W} (hy : plainName y.cls = true) (hw : ws = Cond.code y cc maxL none :: ws') (hlen : (lg_sl av).length ≤ maxL)
    (body : ∀ (p : Program) (e : Env) (s : State) (m : MethodId) (below : List Frame) (meth : Method) (c : Code) (Q : State → Prop) (A : Nat → Prop) (ls : Array Slot), CallFix p m c cc maxL s av.toArray ws y.cls → va_P D cl w s.heap → va_K D cl tys s → sT A s s.heap → va_S A s.heap s.heap [] → lv_has ls maxL (lv_args 0 av) → va_D A w → (∀ q : Nat, s.heap.size ≤ q → A q) →
      (∀ (pc : Nat) (ls : Array Slot) (H : Heap) (locs : List Loc), decode cc pc = .ok (.return_, 1) → va_P D cl w1 H → va_D A w1 → va_S A s.heap H locs → W p l e rm s m av.toArray below meth c H locs 0 0 Q (F0 m pc ls [])) → W p l e rm s m av.toArray below meth c s.heap [] 0 0 Q (F0 m 0 ls [])) : mM l y ws rm av D cl tys w none w1 := by
  intro sz
  refine Met.ofW (cc := cc) (maxL := maxL) (ret := none) hy hw ?_
  intro p e s m args below meth c s₁ B hml hv
  obtain ⟨rfl, hsz, hP, hK, hD0, hT⟩ := hv
  subst hsz
  have hD := hD0.self (sz := s.heap.size)
  have hA : ∀ q : Nat, s.heap.size ≤ q → va_A w s.heap.size q := fun q h => Or.inr h
  have hl := lv_entry av (n := maxL) hlen
  have hlocks := B.notSynchronized
  rw [lg_entry_eq]
  generalize (lg_sl av ++ List.replicate (maxL - (lg_sl av).length) Slot.unset).toArray = ls at hl ⊢
  generalize va_A w s.heap.size = A at hD hA hT ⊢
  exact body p e s m below meth c _ A ls ⟨B.exec, B.bytes, hml, findClass_of_methodNamed B.named, atoms_spec (ws := ws) B.pre⟩ hP hK hT va_S.rf hl hD hA
    (fun pc ls H locs hd hP1 hD1 hS1 => W.vret B.exec B.bytes B.returns (fun t ht hW => ⟨rfl, by rw [ht]; exact hP1, hD1, hS1.F ht⟩) hS1.2.2 hd)
end MI
section MT
variable {p : Program} {l : Launch} {e : Env} {R : Room} {s : State} {m : MethodId} {args : Array Value} {below : List Frame} {meth : Method} {c : Code} {H : Heap} {locs : List Loc} {cells slots : Nat} {Q : State → Prop}
variable {pc : Nat} {ls : Array Slot} {rest : List Value}
theorem mk_ti {x y : Int32} (h : x = y) (k : W p l e R s m args below meth c H locs cells slots Q (F0 m pc ls (.int y :: rest))) : W p l e R s m args below meth c H locs cells slots Q (F0 m pc ls (.int x :: rest)) := by rw [h]; exact k
theorem mk_tl {x y : Int64} (h : x = y) (k : W p l e R s m args below meth c H locs cells slots Q (F0 m pc ls (.long y :: rest))) : W p l e R s m args below meth c H locs cells slots Q (F0 m pc ls (.long x :: rest)) := by rw [h]; exact k
theorem mk_tv {x y : Value} (h : x = y) (k : W p l e R s m args below meth c H locs cells slots Q (F0 m pc ls (y :: rest))) : W p l e R s m args below meth c H locs cells slots Q (F0 m pc ls (x :: rest)) := by rw [h]; exact k
end MT
def bI (b : Bool) : Int32 := if b then 1 else 0
theorem bI_t : bI true = 1 := rfl
theorem bI_f : bI false = 0 := rfl
theorem bI_0 {b : Bool} (h : bI b = 0) : b = false := by
  cases b
  · rfl
  · exact absurd h (by decide)
theorem bI_1 {b : Bool} (h : ¬ bI b = 0) : b = true := by
  cases b
  · exact absurd rfl h
  · rfl
theorem mk_nz (b : Bool) : narrow .boolean (.int (bI b)) = .int (bI b) := by cases b <;> rfl
theorem mk_i1 (i : Nat) : nI i + Int32.ofInt 1 = nI (i + 1) := nI_1 i
theorem mk_im1 (i : Nat) : nI (i + 1) + Int32.ofInt (-1) = nI i := pk_m1 i
theorem mk_dec (x : Int32) : x + Int32.ofInt (-1) = x - 1 := by
  rw [show Int32.ofInt (-1) = -1 from rfl, Int32.sub_eq_add_neg]
theorem mk_clt {n : Nat} (h : n < 2 ^ 31) : (nI n < 0) ↔ False := ⟨fun q => nI_pos h q, fun q => q.elim⟩
theorem mk_cge {n : Nat} (h : n < 2 ^ 31) : (0 ≤ nI n) ↔ True := ⟨fun _ => trivial, fun _ => nI_pos' h⟩
theorem mk_cgt {n : Nat} (h : n < 2 ^ 31) : (0 < nI n) ↔ 0 < n := by
  rw [← nI_0]; exact nI_ltI (by decide) h
theorem mk_cle {n : Nat} (h : n < 2 ^ 31) : (nI n ≤ 0) ↔ n = 0 := by
  rw [← nI_0, nI_leI h (by decide)]; omega
theorem mk_ceq {n : Nat} (h : n < 2 ^ 31) : (nI n = 0) ↔ n = 0 := by
  rw [← nI_0]; exact nI_eq h (by decide)
theorem mk_in {x : Int32} {n : Nat} (h0 : ¬ x < 0) (h1 : ¬ nI n ≤ x) (hn : n < 2 ^ 31) : vp_in x n := by
  rcases pk_ix x hn with h | h | ⟨j, hj, rfl⟩
  · exact absurd h h0
  · exact absurd h h1
  · exact vp_in_nI hj hn
/-! constructors: the world w, and cells that come, at addresses q 0, q 1 .. -/
def mk_cq (D : va_G) (cl : List vw_C) (w1 : (Nat → Nat) → va_W) (A : Nat → Prop) : Array Value → State → Outcome → State → Prop := fun _ st o t => o = .returned none ∧ ∃ q : Nat → Nat, va_P D cl (w1 q) t.heap ∧ va_D A (w1 q) ∧ va_F A st t
def mC (l : Launch) (y : MethodName) (ws : List Cond) (rm : Room) (av : List Value) (D : va_G) (cl : List vw_C) (tys : List (ClassId × FieldType)) (w : va_W) (w1 : (Nat → Nat) → va_W) (mc ms : Nat) : Prop := ∀ sz : Nat, Met l y ws rm (va_Pc av (mk_pM D cl tys w sz)) (mk_cq D cl w1 (va_A w sz)) mc ms (va_A w sz)
section MC
variable {p : Program} {l : Launch} {e : Env} {R : Room} {s : State} {m : MethodId} {args : Array Value} {below : List Frame} {meth : Method} {c : Code} {H : Heap} {locs : List Loc} {cells slots : Nat} {Q : State → Prop}
variable {pc : Nat} {ls : Array Slot} {rest st0 : List Value} {a : Array Value} {D : va_G} {cl : List vw_C} {tys : List (ClassId × FieldType)} {A : Nat → Prop} {H0 : Heap}
theorem mk_c0 {mc ms : Nat} {ws wc wr : va_W} {w1 : (Nat → Nat) → va_W} (hr : CallRun p l e R s m args below meth c H locs cells slots mc ms (F0 m pc ls st0) rest (mk_cq D cl w1 (va_A wc H.size) a) (va_A wc H.size))
    (hP : va_P D cl ws H) (hD : va_D A ws) (hS : va_S A H0 H locs) (hA : ∀ q, H0.size ≤ q → A q) (isC isR : List Nat) (hC : isC.map (fun i => ws[i]?) = wc.map some) (hR : isR.map (fun i => ws[i]?) = wr.map some) (hn : va_nd isR = true) (hdis : ∀ i ∈ isR, i ∉ isC)
    (kk : ∀ (q : Nat → Nat) (H1 : Heap) (locs1 : List Loc), va_P D cl (wr ++ w1 q) H1 → va_D A (wr ++ w1 q) → va_S A H0 H1 locs1 → W p l e R s m args below meth c H1 locs1 (cells + mc) (slots + ms) Q (F0 m (pc + 3) ls rest)) : W p l e R s m args below meth c H locs cells slots Q (F0 m pc ls st0) := by
  have hF := va_free hD hS hA isC hC
  intro T hT X
  obtain ⟨v2, st₀, t, T', L, h0, X', hL, e1, ⟨hv, q, hP1, hD1, hFr⟩, st⟩ := hr T hT X
  cases hv
  obtain ⟨hP', hD'⟩ := va_join hP hD isC isR hC hR hn hdis (fun q h1 h2 => by rw [hFr.2 q (by rw [h0]; exact h1) h2, h0]) hF hP1 hD1
  obtain ⟨t2, a1, b1⟩ := kk q t.heap (locs ++ L) hP' hD' (mk_sJ (w1 := w1 q) h0 hS hF hFr hL) T' e1 X'
  exact ⟨t2, st t2 a1, b1⟩
theorem mk_cA {cI cA : ClassId} (h : va_K D cl ([(cI, .int)] ++ [(cA, .int)]) s) : cA = cI :=
  Option.some.inj ((va_nm_int (h.2 1 (cA, .int) rfl).2).symm.trans (va_nm_int (h.2 0 (cI, .int) rfl).2))
end MC
section MCI
variable {l : Launch} {y : MethodName} {ws ws' : List Cond} {rm : Room} {cc : ByteArray} {maxL : Nat} {av : List Value} {D : va_G} {cl : List vw_C} {tys : List (ClassId × FieldType)} {w : va_W}
theorem mk_Cv {w1 : (Nat → Nat) → va_W} {mc ms : Nat} (hy : plainName y.cls = true) (hw : ws = Cond.code y cc maxL none :: ws') (hlen : (lg_sl av).length ≤ maxL)
    (body : ∀ (p : Program) (e : Env) (s : State) (m : MethodId) (below : List Frame) (meth : Method) (c : Code) (Q : State → Prop) (A : Nat → Prop) (ls : Array Slot), CallFix p m c cc maxL s av.toArray ws y.cls → va_P D cl w s.heap → va_K D cl tys s → sT A s s.heap → va_S A s.heap s.heap [] → lv_has ls maxL (lv_args 0 av) → va_D A w → (∀ q : Nat, s.heap.size ≤ q → A q) → meth.name = y.name →
      (∀ (pc : Nat) (ls : Array Slot) (H : Heap) (locs : List Loc) (q : Nat → Nat), decode cc pc = .ok (.return_, 1) → va_P D cl (w1 q) H → va_D A (w1 q) → va_S A s.heap H locs → W p l e rm s m av.toArray below meth c H locs mc ms Q (F0 m pc ls [])) → W p l e rm s m av.toArray below meth c s.heap [] 0 0 Q (F0 m 0 ls [])) : mC l y ws rm av D cl tys w w1 mc ms := by
  intro sz
  refine Met.ofW (cc := cc) (maxL := maxL) (ret := none) hy hw ?_
  intro p e s m args below meth c s₁ B hml hv
  obtain ⟨rfl, hsz, hP, hK, hD0, hT⟩ := hv
  subst hsz
  have hD := hD0.self (sz := s.heap.size)
  have hA : ∀ q : Nat, s.heap.size ≤ q → va_A w s.heap.size q := fun q h => Or.inr h
  have hl := lv_entry av (n := maxL) hlen
  have hlocks := B.notSynchronized
  rw [lg_entry_eq]
  generalize (lg_sl av ++ List.replicate (maxL - (lg_sl av).length) Slot.unset).toArray = ls at hl ⊢
  generalize va_A w s.heap.size = A at hD hA hT ⊢
  exact body p e s m below meth c _ A ls ⟨B.exec, B.bytes, hml, findClass_of_methodNamed B.named, atoms_spec (ws := ws) B.pre⟩ hP hK hT va_S.rf hl hD hA (name_of_methodNamed B.named B.method).1
    (fun pc ls H locs q hd hP1 hD1 hS1 => W.vret B.exec B.bytes B.returns (fun t ht hW => ⟨rfl, q, by rw [ht]; exact hP1, hD1, hS1.F ht⟩) hS1.2.2 hd)
end MCI
end
section
/-! The class's words in numbers: units, rows, bytes. -/
def nf (v : Nat → Nat) : Nat → Int32 := fun j => nI (v j)
def uN (v : Nat → Nat) (k x : Nat) : Nat → Nat := fun j => if j = k then x else v j
theorem nf_up (v : Nat → Nat) (k x : Nat) : upd (nf v) k (nI x) = nf (uN v k x) := by
  funext j
  by_cases h : j = k
  · simp [upd, nf, uN, h]
  · simp [upd, nf, uN, h]
theorem uN_lt {v : Nat → Nat} {k x B : Nat} (h : ∀ j, v j < B) (hx : x < B) : ∀ j, uN v k x j < B := by
  intro j
  by_cases q : j = k
  · simp [uN, q, hx]
  · simp [uN, q, h j]
theorem mk_bt {b : Bool} (h : b = true) : nI 1 = bI b := by rw [h]; rfl
theorem mk_bf {b : Bool} (h : b = false) : nI 0 = bI b := by rw [h]; rfl
theorem mk_ne {a b : Nat} (h : ¬ a = b) (ha : a < 2 ^ 31) (hb : b < 2 ^ 31) : ¬ nI a = nI b := fun q => h ((nI_eq ha hb).mp q)
def okN (u : Nat) : Bool := decide (¬ (u < 32 ∨ 65533 < u ∨ (55296 ≤ u ∧ u ≤ 57343) ∨ u = 34 ∨ u = 42 ∨ u = 47 ∨ u = 58 ∨ u = 60 ∨ u = 62 ∨ u = 63 ∨ u = 92 ∨ u = 124 ∨ u = 127))
def okS (u : Nat) : Bool := decide ((65 ≤ u ∧ u ≤ 90) ∨ (48 ≤ u ∧ u ≤ 57) ∨ u = 33 ∨ u = 35 ∨ u = 36 ∨ u = 37 ∨ u = 38 ∨ u = 39 ∨ u = 40 ∨ u = 41 ∨ u = 45 ∨ u = 64 ∨ u = 94 ∨ u = 95 ∨ u = 96 ∨ u = 123 ∨ u = 125 ∨ u = 126)
def capN (u : Nat) : Nat := if 97 ≤ u ∧ u ≤ 122 then u - 32 else u
def shoN (u : Nat) : Nat := if okS (capN u) = true then capN u else 95
def wdN (u : Nat) : Nat := if u < 128 then 1 else if u < 2048 then 2 else 3
def ebN (u t : Nat) : Nat := if u < 128 then u else if u < 2048 then (if t = 0 then 192 + u / 64 else 128 + u % 64) else (if t = 0 then 224 + u / 4096 else if t = 1 then 128 + u / 64 % 64 else 128 + u % 64)
def nameN (v : Nat → Nat) (n : Nat) : Bool := decide (0 < n ∧ (∀ i, i < n → okN (v i) = true) ∧ v (n - 1) ≠ 32 ∧ v (n - 1) ≠ 46)
/-- one more than the place of the last point, or 0 -/
def lpN (v : Nat → Nat) : Nat → Nat
  | 0 => 0
  | n + 1 => if v n = 46 then n + 1 else lpN v n
def shortN (v : Nat → Nat) (n : Nat) : Bool := decide ((lpN v n = 0 → 1 ≤ n ∧ n ≤ 8) ∧ (0 < lpN v n → 2 ≤ lpN v n ∧ lpN v n ≤ 9 ∧ 1 ≤ n - lpN v n ∧ n - lpN v n ≤ 3) ∧ ∀ i, i < n → i + 1 = lpN v n ∨ okS (v i) = true)
def esN (v : Nat → Nat) : Nat → Nat
  | 0 => 0
  | n + 1 => esN v n + wdN (v n)
def ebL (v : Nat → Nat) : Nat → Nat → Nat → Int32
  | 0, _, _ => -1
  | k + 1, i, r => if r < wdN (v i) then nI (ebN (v i) r) else ebL v k (i + 1) (r - wdN (v i))
def likeN (v : Nat → Nat) (n : Nat) (v2 : Nat → Nat) (n2 : Nat) : Bool := decide (n = n2 ∧ ∀ i, i < n → capN (v i) = capN (v2 i))
theorem lpN_le (v : Nat → Nat) : ∀ n, lpN v n ≤ n
  | 0 => Nat.le_refl 0
  | n + 1 => by
    have := lpN_le v n
    unfold lpN
    split <;> omega
theorem wdN_in (u : Nat) : 1 ≤ wdN u ∧ wdN u ≤ 3 := by
  unfold wdN
  (repeat' split) <;> omega
theorem esN_le (v : Nat → Nat) : ∀ n, esN v n ≤ 3 * n
  | 0 => Nat.le_refl 0
  | n + 1 => by
    have := esN_le v n
    have := wdN_in (v n)
    unfold esN
    omega
theorem capN_le (u : Nat) : capN u ≤ u := by
  unfold capN
  split <;> omega
theorem shoN_lt {u : Nat} (h : u < 65536) : shoN u < 65536 := by
  have := capN_le u
  unfold shoN
  split <;> omega
/-- the sum of the bytes b, b + 1 .. -/
def suN (B : Nat → Nat) (b : Nat) : Nat → Nat
  | 0 => 0
  | i + 1 => (suN B b i % 2 ^ 1 * 128 + suN B b i / 2 ^ 1 + B (b + i)) % 2 ^ 8
theorem suN_lt (B : Nat → Nat) (b : Nat) : ∀ i, suN B b i < 256
  | 0 => by show (0 : Nat) < 256; decide
  | i + 1 => Nat.mod_lt _ (by decide)
def pnN (n : Nat) : Nat := (n + 13 - 1) / 13
theorem pnN_le {n : Nat} (h : n ≤ 255) : pnN n ≤ 20 := by
  unfold pnN
  omega
theorem mk_nm1 {n : Nat} (h : n < 2 ^ 31) : ¬ nI n = -1 := by
  intro q
  have a := nI_toInt h
  rw [q] at a
  have b : (-1 : Int32).toInt = -1 := by decide
  omega
/-- the first i places are x -/
def fiN (b : Nat → Nat) (x i : Nat) : Nat → Nat := fun j => if j < i then x else b j
theorem fiN_0 (b : Nat → Nat) (x : Nat) : fiN b x 0 = b := by
  funext j
  simp [fiN]
theorem fiN_s (b : Nat → Nat) (x i : Nat) : uN (fiN b x i) i x = fiN b x (i + 1) := by
  funext j
  by_cases h : j = i
  · simp [uN, fiN, h]
  · by_cases h2 : j < i
    · simp [uN, fiN, h, h2, Nat.lt_succ_of_lt h2]
    · have : ¬ j < i + 1 := by omega
      simp [uN, fiN, h, h2, this]
theorem fiN_lt {b : Nat → Nat} {x i M : Nat} (h : ∀ j, b j < M) (hx : x < M) : ∀ j, fiN b x i j < M := by
  intro j
  unfold fiN
  split
  · exact hx
  · exact h j
/-- the first i places are those of c from o on -/
def cpN (b c : Nat → Nat) (o i : Nat) : Nat → Nat := fun j => if j < i then c (o + j) else b j
theorem cpN_0 (b c : Nat → Nat) (o : Nat) : cpN b c o 0 = b := by
  funext j
  simp [cpN]
theorem cpN_s (b c : Nat → Nat) (o i : Nat) : uN (cpN b c o i) i (c (o + i)) = cpN b c o (i + 1) := by
  funext j
  by_cases h : j = i
  · simp [uN, cpN, h]
  · by_cases h2 : j < i
    · simp [uN, cpN, h, h2, Nat.lt_succ_of_lt h2]
    · have : ¬ j < i + 1 := by omega
      simp [uN, cpN, h, h2, this]
/-- i places from o on are c's -/
def stN (B c : Nat → Nat) (o i : Nat) : Nat → Nat := fun j => if o ≤ j ∧ j < o + i then c (j - o) else B j
theorem stN_0 (B c : Nat → Nat) (o : Nat) : stN B c o 0 = B := by
  funext j
  have : ¬ (o ≤ j ∧ j < o + 0) := by omega
  simp only [stN, if_neg this]
theorem stN_s {B c : Nat → Nat} {o i y : Nat} (hy : y = c i) : uN (stN B c o i) (o + i) y = stN B c o (i + 1) := by
  funext j
  by_cases h : j = o + i
  · subst h
    have : o ≤ o + i ∧ o + i < o + (i + 1) := by omega
    simp only [uN, stN, if_true]
    rw [if_pos this, hy, Nat.add_sub_cancel_left]
  · by_cases h2 : o ≤ j ∧ j < o + i
    · have : o ≤ j ∧ j < o + (i + 1) := by omega
      simp only [uN, stN, if_neg h, if_pos h2, if_pos this]
    · have : ¬ (o ≤ j ∧ j < o + (i + 1)) := by omega
      simp only [uN, stN, if_neg h, if_neg h2, if_neg this]
theorem stN_lt {B c : Nat → Nat} {o i M : Nat} (h : ∀ j, B j < M) (hc : ∀ j, c j < M) : ∀ j, stN B c o i j < M := by
  intro j
  unfold stN
  split
  · exact hc _
  · exact h j
def dgN (t : Nat) : Nat := if t < 100 then (if t < 10 then 1 else 2) else if t < 1000 then 3 else 4
theorem dgN_in (t : Nat) : 1 ≤ dgN t ∧ dgN t ≤ 4 := by
  unfold dgN
  (repeat' split) <;> omega
/-- k digits of r from place p on -/
def nuN (p : Nat) : Nat → Nat → (Nat → Nat) → Nat → Nat
  | 0, _, b => b
  | k + 1, r, b => nuN p k (r / 10) (uN b (p + k) (48 + r % 10))
theorem nuN_lt (p : Nat) {M : Nat} (hM : 58 ≤ M) : ∀ (k r : Nat) (b : Nat → Nat), (∀ j, b j < M) → ∀ j, nuN p k r b j < M
  | 0, _, b, h => h
  | k + 1, r, b, h => nuN_lt p hM k (r / 10) _ (uN_lt h (by omega))
/-- the units i .. i + k - 1 of v shortened into b from p on, at most mo; c have come -/
def shC (v : Nat → Nat) (mo : Nat) : Nat → Nat → Nat → Nat
  | 0, _, c => c
  | k + 1, i, c => if c < mo then (if v i = 32 ∨ v i = 46 then shC v mo k (i + 1) c else shC v mo k (i + 1) (c + 1)) else c
def shB (v : Nat → Nat) (p mo : Nat) : Nat → Nat → Nat → (Nat → Nat) → Nat → Nat
  | 0, _, _, b => b
  | k + 1, i, c, b => if c < mo then (if v i = 32 ∨ v i = 46 then shB v p mo k (i + 1) c b else shB v p mo k (i + 1) (c + 1) (uN b (p + c) (shoN (v i)))) else b
theorem shC_le (v : Nat → Nat) (mo : Nat) : ∀ (k i c : Nat), c ≤ mo → shC v mo k i c ≤ mo
  | 0, _, c, h => h
  | k + 1, i, c, h => by
    unfold shC
    split
    · split
      · exact shC_le v mo k _ _ h
      · exact shC_le v mo k _ _ (by omega)
    · exact h
theorem shB_lt (v : Nat → Nat) (p mo : Nat) (hv : ∀ j, v j < 65536) : ∀ (k i c : Nat) (b : Nat → Nat), (∀ j, b j < 65536) → ∀ j, shB v p mo k i c b j < 65536
  | 0, _, _, b, h => h
  | k + 1, i, c, b, h => by
    unfold shB
    split
    · split
      · exact shB_lt v p mo hv k _ _ b h
      · exact shB_lt v p mo hv k _ _ _ (uN_lt h (shoN_lt (hv i)))
    · exact h
/-- only blanks behind a blank; e: one has been -/
def boN (b : Nat → Nat) : Nat → Nat → Nat → Bool
  | 0, _, _ => true
  | k + 1, i, e => if b i = 32 then boN b k (i + 1) 1 else if e = 0 ∧ okS (b i) = true then boN b k (i + 1) e else false
def valN (b : Nat → Nat) : Bool := decide (b 0 ≠ 32 ∧ boN b 8 0 0 = true ∧ boN b 3 8 0 = true)
/-- how many of the k bytes from i on come before a blank -/
def cnN (b : Nat → Nat) : Nat → Nat → Nat
  | 0, _ => 0
  | k + 1, i => if b i = 32 then 0 else cnN b k (i + 1) + 1
theorem cnN_le (b : Nat → Nat) : ∀ k i, cnN b k i ≤ k
  | 0, _ => Nat.le_refl 0
  | k + 1, i => by
    have := cnN_le b k (i + 1)
    unfold cnN
    split <;> omega
/-- c's places i .. come to the end of v -/
def apN (v c : Nat → Nat) (n i k : Nat) : Nat → Nat := fun j => if n ≤ j ∧ j < n + k then c (i + (j - n)) else v j
theorem apN_0 (v c : Nat → Nat) (n i : Nat) : apN v c n i 0 = v := by
  funext j
  have : ¬ (n ≤ j ∧ j < n + 0) := by omega
  simp only [apN, if_neg this]
theorem apN_s (v c : Nat → Nat) (n i k : Nat) : uN (apN v c n i k) (n + k) (c (i + k)) = apN v c n i (k + 1) := by
  funext j
  by_cases h : j = n + k
  · subst h
    have : n ≤ n + k ∧ n + k < n + (k + 1) := by omega
    simp only [uN, apN, if_true]
    rw [if_pos this, Nat.add_sub_cancel_left]
  · by_cases h2 : n ≤ j ∧ j < n + k
    · have : n ≤ j ∧ j < n + (k + 1) := by omega
      simp only [uN, apN, if_neg h, if_pos h2, if_pos this]
    · have : ¬ (n ≤ j ∧ j < n + (k + 1)) := by omega
      simp only [uN, apN, if_neg h, if_neg h2, if_neg this]
theorem apN_lt {v c : Nat → Nat} {n i k M : Nat} (h : ∀ j, v j < M) (hc : ∀ j, c j < M) : ∀ j, apN v c n i k j < M := by
  intro j
  unfold apN
  split
  · exact hc _
  · exact h j
/-- the entry's bytes -/
def enN (b : Nat → Nat) : Nat → Nat := fun j => if j < 11 then b j % 2 ^ 8 else 0 % 2 ^ 8
theorem enN_lt (b : Nat → Nat) (j : Nat) : enN b j < 256 := by
  unfold enN
  split
  · exact Nat.mod_lt _ (by decide)
  · decide
/-- the end of the base: the last point's place, or n -/
def tsN (v : Nat → Nat) (n : Nat) (b : Nat → Nat) : Nat → Nat :=
  let q := if lpN v n = 0 then n else lpN v n - 1
  shB v 8 3 (n - (q + 1)) (q + 1) 0 (shB v 0 8 q 0 0 (fiN b 32 11))
def ttN (v : Nat → Nat) (n t : Nat) (b : Nat → Nat) : Nat → Nat :=
  let q := if lpN v n ≤ 1 then n else lpN v n - 1
  let c := shC v (7 - dgN t) q 0 0
  shB v 8 3 (n - (q + 1)) (q + 1) 0 (nuN (c + 1) (dgN t) t (uN (shB v 0 (7 - dgN t) q 0 0 (fiN b 32 11)) c 126))
def siC (b : Nat → Nat) : Nat := if b 8 = 32 then cnN b 8 0 else cnN b 8 0 + 1 + cnN b 3 8
def siV (v b : Nat → Nat) : Nat → Nat := if b 8 = 32 then apN v b 0 0 (cnN b 8 0) else apN (uN (apN v b 0 0 (cnN b 8 0)) (cnN b 8 0) 46) b (cnN b 8 0 + 1) 8 (cnN b 3 8)
theorem plN_le {j : Nat} (h : j < 13) : plN j ≤ 30 := by
  unfold plN
  (repeat' split) <;> omega
def ufN (v : Nat → Nat) (n j : Nat) : Nat := if j < n then v j else if j = n then 0 else 65535
theorem ufN_lt {v : Nat → Nat} (n j : Nat) (h : ∀ j, v j < 65536) : ufN v n j < 65536 := by
  have := h j
  unfold ufN
  (repeat' split) <;> omega
def bdL (v : Nat → Nat) (n q : Nat) (b : Nat → Nat) : Nat → Nat → Nat
  | 0 => b
  | i + 1 => uN (uN (bdL v n q b i) (plN i) (ufN v n (13 * (q - 1) + i) % 2 ^ 8)) (plN i + 1) (ufN v n (13 * (q - 1) + i) / 2 ^ 8)
def bdN (v : Nat → Nat) (n q su : Nat) (b : Nat → Nat) : Nat → Nat := bdL v n q (uN (uN (uN (fiN b 0 32) 0 (if q = pnN n then q + 64 else q)) 11 15) 13 su) 13
theorem bdL_lt {v : Nat → Nat} (n q : Nat) {b : Nat → Nat} (hv : ∀ j, v j < 65536) (hb : ∀ j, b j < 65536) : ∀ i j, bdL v n q b i j < 65536
  | 0, j => hb j
  | i + 1, j => by
    have := ufN_lt n (13 * (q - 1) + i) hv
    unfold bdL
    exact uN_lt (uN_lt (bdL_lt n q hv hb i) (by omega)) (by omega) j
theorem bdN_lt {v : Nat → Nat} {n q su : Nat} {b : Nat → Nat} (hv : ∀ j, v j < 65536) (hb : ∀ j, b j < 65536) (hq : q < 100) (hs : su < 256) : ∀ j, bdN v n q su b j < 65536 := by
  unfold bdN
  refine bdL_lt n q hv (uN_lt (uN_lt (uN_lt (fiN_lt hb (by omega)) ?_) (by omega)) (by omega)) 13
  split <;> omega
def moN (b : Nat → Nat) : Nat → Nat := fun j => b j % 2 ^ 8
theorem moN_lt (b : Nat → Nat) (j : Nat) : moN b j < 256 := Nat.mod_lt _ (by decide)
def inK (b B : Nat → Nat) (o n : Nat) : Bool := decide (∀ j, j < n → B (o + j) = b j)
def inN (b B : Nat → Nat) (o : Nat) : Bool := inK b B o 32
def uiN (B : Nat → Nat) (q i : Nat) : Nat := B (q * 32 + plN i) + 256 * B (q * 32 + (plN i + 1))
/-- after i parts: the part's bytes, the slots -/
def wpB (v : Nat → Nat) (n su : Nat) (pb : Nat → Nat) : Nat → Nat → Nat
  | 0 => pb
  | i + 1 => bdN v n (i + 1) su (wpB v n su pb i)
def wsB (v : Nat → Nat) (n su e : Nat) (pb B : Nat → Nat) : Nat → Nat → Nat
  | 0 => B
  | i + 1 => stN (wsB v n su e pb B i) (moN (wpB v n su pb (i + 1))) ((e - (i + 1)) * 32) 32
theorem wpB_lt {v : Nat → Nat} {n su : Nat} {pb : Nat → Nat} (hv : ∀ j, v j < 65536) (hb : ∀ j, pb j < 65536) (hs : su < 256) : ∀ i, i < 99 → ∀ j, wpB v n su pb i j < 65536
  | 0, _, j => hb j
  | i + 1, h, j => bdN_lt hv (wpB_lt hv hb hs i (by omega)) (by omega) hs j
theorem wsB_lt {v : Nat → Nat} {n su e : Nat} {pb B : Nat → Nat} (hB : ∀ j, B j < 256) : ∀ i j, wsB v n su e pb B i j < 256
  | 0, j => hB j
  | i + 1, j => stN_lt (wsB_lt hB i) (fun j => moN_lt _ j) j
/-- unit t of the parts before entry e -/
def unN (B : Nat → Nat) (e t : Nat) : Nat := uiN B (e - (t / 13 + 1)) (t % 13)
def coC (f : Nat → Nat) : Nat → Nat → Nat
  | 0, t => t
  | k + 1, t => if f t = 0 ∨ t = 255 then t else coC f k (t + 1)
def coV (v f : Nat → Nat) (c : Nat) : Nat → Nat := fun j => if j < c then f j else v j
theorem coV_0 (v f : Nat → Nat) : coV v f 0 = v := by
  funext j
  simp [coV]
theorem coV_s (v f : Nat → Nat) (c : Nat) : uN (coV v f c) c (f c) = coV v f (c + 1) := by
  funext j
  by_cases h : j = c
  · simp [uN, coV, h]
  · by_cases h2 : j < c
    · simp [uN, coV, h, h2, Nat.lt_succ_of_lt h2]
    · have : ¬ j < c + 1 := by omega
      simp [uN, coV, h, h2, this]
theorem uiN_lt {B : Nat → Nat} (q i : Nat) (h : ∀ j, B j < 256) : uiN B q i < 65536 := by
  have := h (q * 32 + plN i)
  have := h (q * 32 + (plN i + 1))
  unfold uiN
  omega
theorem coC_le (f : Nat → Nat) : ∀ k t, t ≤ 255 → coC f k t ≤ 255
  | 0, _, h => h
  | k + 1, t, h => by
    unfold coC
    split
    · exact h
    · exact coC_le f k (t + 1) (by omega)
theorem coV_lt {v f : Nat → Nat} {c M : Nat} (h : ∀ j, v j < M) (hf : ∀ j, f j < M) : ∀ j, coV v f c j < M := by
  intro j
  unfold coV
  split
  · exact hf j
  · exact h j
theorem unN_lt {B : Nat → Nat} (e t : Nat) (h : ∀ j, B j < 256) : unN B e t < 65536 := uiN_lt _ _ h
/-- the parts compared one after another: how many were built, and whether all were alike -/
def rpK (v : Nat → Nat) (n su e : Nat) (pb B : Nat → Nat) : Nat → Nat → Nat
  | 0, i => i
  | k + 1, i => if inN (wpB v n su pb (i + 1)) B ((e - (i + 1)) * 32) = true then rpK v n su e pb B k (i + 1) else i + 1
def rpR (v : Nat → Nat) (n su e : Nat) (pb B : Nat → Nat) : Nat → Nat → Bool
  | 0, _ => true
  | k + 1, i => if inN (wpB v n su pb (i + 1)) B ((e - (i + 1)) * 32) = true then rpR v n su e pb B k (i + 1) else false
theorem rpK_le (v : Nat → Nat) (n su e : Nat) (pb B : Nat → Nat) : ∀ k i, rpK v n su e pb B k i ≤ i + k
  | 0, i => Nat.le_refl i
  | k + 1, i => by
    have := rpK_le v n su e pb B k (i + 1)
    unfold rpK
    split <;> omega
/-! days and times -/
def leN (y : Nat) : Bool := decide (y % 4 = 0 ∧ (y % 100 ≠ 0 ∨ y % 400 = 0))
def mlenN (y m : Nat) : Nat := if m < 1 ∨ 12 < m then 0 else if m = 2 ∧ leN y = true then 29 else mlN (m - 1)
theorem mlenN_le (y m : Nat) : mlenN y m ≤ 31 := by
  unfold mlenN mlN
  (repeat' split) <;> omega
def idN (d : Nat) : Bool := decide (1 ≤ d % 32 ∧ d % 32 ≤ mlenN (1980 + d / 512) (d / 32 % 16))
def itN (t : Nat) : Bool := decide (t / 2048 < 24 ∧ t / 32 % 64 < 60 ∧ t % 32 < 30)
/-- days of the first k years from 1970 on -/
def ydN : Nat → Nat
  | 0 => 0
  | k + 1 => ydN k + (if leN (1970 + k) = true then 366 else 365)
def mdN (y : Nat) : Nat → Nat
  | 0 => 0
  | k + 1 => mdN y k + mlenN y (k + 1)
def sdN (d : Nat) : Nat := (d % 32 - 1 + ydN (1980 + d / 512 - 1970) + mdN (1980 + d / 512) (d / 32 % 16 - 1)) * 86400
def stmN (t : Nat) : Nat := 3600 * (t / 2048) + 60 * (t / 32 % 64) + 2 * (t % 32)
theorem idN_ok {d : Nat} (h : idN d = true) : 1 ≤ d % 32 ∧ 1 ≤ d / 32 % 16 := by
  simp only [idN, decide_eq_true_eq] at h
  refine ⟨h.1, ?_⟩
  have h2 := h.2
  unfold mlenN at h2
  split at h2 <;> omega
theorem mk_tout {x : Int32} {n : Nat} (h : x < 0 ∨ nI n < x) (hn : n < 2 ^ 31) : x.toInt < 0 ∨ (n : Int) < x.toInt := by
  rcases h with h | h
  · left
    have := Int32.lt_iff_toInt_lt.mp h
    rwa [Int32.toInt_zero] at this
  · right
    have := Int32.lt_iff_toInt_lt.mp h
    rwa [nI_toInt hn] at this
theorem cpN_lt {b B : Nat → Nat} {o i : Nat} (hb : ∀ j, b j < 65536) (hB : ∀ j, B j < 256) : ∀ j, cpN b B o i j < 65536 := by
  intro j
  have := hb j
  have := hB (o + j)
  unfold cpN
  split <;> omega
theorem tsN_lt {v : Nat → Nat} {n : Nat} {b : Nat → Nat} (hv : ∀ j, v j < 65536) (hb : ∀ j, b j < 65536) : ∀ j, tsN v n b j < 65536 :=
  shB_lt v 8 3 hv _ _ _ _ (shB_lt v 0 8 hv _ _ _ _ (fiN_lt hb (by omega)))
theorem ttN_lt {v : Nat → Nat} {n t : Nat} {b : Nat → Nat} (hv : ∀ j, v j < 65536) (hb : ∀ j, b j < 65536) : ∀ j, ttN v n t b j < 65536 :=
  shB_lt v 8 3 hv _ _ _ _ (nuN_lt _ (by omega) _ _ _ (uN_lt (shB_lt v 0 _ hv _ _ _ _ (fiN_lt hb (by omega))) (by omega)))
end
section
set_option maxHeartbeats 4000000 in
set_option maxRecDepth 100000 in
theorem c_Un_name (l : Launch) (dC : Nat → ClassId) (dI : Nat → Nat → Nat) (cI : ClassId) (u : Nat) (hu : u < 65536) : mR l y_Un_mayStandInName w_Un_mayStandInName ({ frames := 0, cells := 0, slots := 0, locals := 0 } : Room) [.int (nI u)] (dC, dI) vwCl [(cI, .int)] [] (some (.int (bI (okN u)))) := by
  refine mk_Ri (cc := b_Un_mayStandInName) (maxL := 1) (by decide) rfl (Nat.le_of_ble_eq_true rfl) (mk_nz _) ?_
  intro p e s m below meth c Q A ls S hP hK hT hS hl hret
  obtain ⟨hx, hb, hml, hown, hts⟩ := id S
  have hl : lv_has ls 1 [(0, .int (nI u))] := hl
  refine lv_iload_n hx hb d_Un_mayStandInName_0 rfl (lv_at hl 0 rfl) ?_
  refine lv_bipush (v := nI 32) hx hb d_Un_mayStandInName_1 (by decide) ?_
  refine lv_icmp_lt (tgt := 24) hx hb d_Un_mayStandInName_3 (by decide) (fun c_1 => ?_) (fun c_1 => ?_)
  · skip
    rw [nI_ltI (by omega) (by omega)] at c_1
    refine lv_iconst (v := nI 0) hx hb d_Un_mayStandInName_24 (by decide) ?_
    exact mk_ti (by exact mk_bf (by simp only [okN, decide_eq_false_iff_not]; omega)) (hret _ _ d_Un_mayStandInName_25)
  · skip
    rw [nI_ltI (by omega) (by omega)] at c_1
    refine lv_iload_n hx hb d_Un_mayStandInName_6 rfl (lv_at hl 0 rfl) ?_
    refine lv_ldc (v := nI 65533) hx hb hown (hts _ (List.mem_cons_of_mem _ k_147)) d_Un_mayStandInName_7 ?_
    refine lv_icmp_gt (tgt := 24) hx hb d_Un_mayStandInName_9 (by decide) (fun c_2 => ?_) (fun c_2 => ?_)
    · skip
      rw [nI_ltI (by omega) (by omega)] at c_2
      refine lv_iconst (v := nI 0) hx hb d_Un_mayStandInName_24 (by decide) ?_
      exact mk_ti (by exact mk_bf (by simp only [okN, decide_eq_false_iff_not]; omega)) (hret _ _ d_Un_mayStandInName_25)
    · skip
      rw [nI_ltI (by omega) (by omega)] at c_2
      refine lv_iload_n hx hb d_Un_mayStandInName_12 rfl (lv_at hl 0 rfl) ?_
      refine lv_ldc (v := nI 55296) hx hb hown (hts _ (List.mem_cons_of_mem _ k_148)) d_Un_mayStandInName_13 ?_
      refine lv_icmp_lt (tgt := 26) hx hb d_Un_mayStandInName_15 (by decide) (fun c_3 => ?_) (fun c_3 => ?_)
      · skip
        rw [nI_ltI (by omega) (by omega)] at c_3
        refine lv_iload_n hx hb d_Un_mayStandInName_26 rfl (lv_at hl 0 rfl) ?_
        by_cases c_4 : u = 34
        · skip
          refine lv_lookup (off := 89) (tgt := 116) hx hb d_Un_mayStandInName_27 (by decide) (by rw [c_4]; decide) (by decide) ?_
          refine lv_iconst (v := nI 0) hx hb d_Un_mayStandInName_116 (by decide) ?_
          exact mk_ti (by exact mk_bf (by simp only [okN, decide_eq_false_iff_not]; omega)) (hret _ _ d_Un_mayStandInName_117)
        by_cases c_5 : u = 42
        · skip
          refine lv_lookup (off := 89) (tgt := 116) hx hb d_Un_mayStandInName_27 (by decide) (by rw [c_5]; decide) (by decide) ?_
          refine lv_iconst (v := nI 0) hx hb d_Un_mayStandInName_116 (by decide) ?_
          exact mk_ti (by exact mk_bf (by simp only [okN, decide_eq_false_iff_not]; omega)) (hret _ _ d_Un_mayStandInName_117)
        by_cases c_6 : u = 47
        · skip
          refine lv_lookup (off := 89) (tgt := 116) hx hb d_Un_mayStandInName_27 (by decide) (by rw [c_6]; decide) (by decide) ?_
          refine lv_iconst (v := nI 0) hx hb d_Un_mayStandInName_116 (by decide) ?_
          exact mk_ti (by exact mk_bf (by simp only [okN, decide_eq_false_iff_not]; omega)) (hret _ _ d_Un_mayStandInName_117)
        by_cases c_7 : u = 58
        · skip
          refine lv_lookup (off := 89) (tgt := 116) hx hb d_Un_mayStandInName_27 (by decide) (by rw [c_7]; decide) (by decide) ?_
          refine lv_iconst (v := nI 0) hx hb d_Un_mayStandInName_116 (by decide) ?_
          exact mk_ti (by exact mk_bf (by simp only [okN, decide_eq_false_iff_not]; omega)) (hret _ _ d_Un_mayStandInName_117)
        by_cases c_8 : u = 60
        · skip
          refine lv_lookup (off := 89) (tgt := 116) hx hb d_Un_mayStandInName_27 (by decide) (by rw [c_8]; decide) (by decide) ?_
          refine lv_iconst (v := nI 0) hx hb d_Un_mayStandInName_116 (by decide) ?_
          exact mk_ti (by exact mk_bf (by simp only [okN, decide_eq_false_iff_not]; omega)) (hret _ _ d_Un_mayStandInName_117)
        by_cases c_9 : u = 62
        · skip
          refine lv_lookup (off := 89) (tgt := 116) hx hb d_Un_mayStandInName_27 (by decide) (by rw [c_9]; decide) (by decide) ?_
          refine lv_iconst (v := nI 0) hx hb d_Un_mayStandInName_116 (by decide) ?_
          exact mk_ti (by exact mk_bf (by simp only [okN, decide_eq_false_iff_not]; omega)) (hret _ _ d_Un_mayStandInName_117)
        by_cases c_10 : u = 63
        · skip
          refine lv_lookup (off := 89) (tgt := 116) hx hb d_Un_mayStandInName_27 (by decide) (by rw [c_10]; decide) (by decide) ?_
          refine lv_iconst (v := nI 0) hx hb d_Un_mayStandInName_116 (by decide) ?_
          exact mk_ti (by exact mk_bf (by simp only [okN, decide_eq_false_iff_not]; omega)) (hret _ _ d_Un_mayStandInName_117)
        by_cases c_11 : u = 92
        · skip
          refine lv_lookup (off := 89) (tgt := 116) hx hb d_Un_mayStandInName_27 (by decide) (by rw [c_11]; decide) (by decide) ?_
          refine lv_iconst (v := nI 0) hx hb d_Un_mayStandInName_116 (by decide) ?_
          exact mk_ti (by exact mk_bf (by simp only [okN, decide_eq_false_iff_not]; omega)) (hret _ _ d_Un_mayStandInName_117)
        by_cases c_12 : u = 124
        · skip
          refine lv_lookup (off := 89) (tgt := 116) hx hb d_Un_mayStandInName_27 (by decide) (by rw [c_12]; decide) (by decide) ?_
          refine lv_iconst (v := nI 0) hx hb d_Un_mayStandInName_116 (by decide) ?_
          exact mk_ti (by exact mk_bf (by simp only [okN, decide_eq_false_iff_not]; omega)) (hret _ _ d_Un_mayStandInName_117)
        by_cases c_13 : u = 127
        · skip
          refine lv_lookup (off := 89) (tgt := 116) hx hb d_Un_mayStandInName_27 (by decide) (by rw [c_13]; decide) (by decide) ?_
          refine lv_iconst (v := nI 0) hx hb d_Un_mayStandInName_116 (by decide) ?_
          exact mk_ti (by exact mk_bf (by simp only [okN, decide_eq_false_iff_not]; omega)) (hret _ _ d_Un_mayStandInName_117)
        refine lv_lookup (off := 91) (tgt := 118) hx hb d_Un_mayStandInName_27 (by decide) (by show Op.lookupswitch.offset [(34, 89), (42, 89), (47, 89), (58, 89), (60, 89), (62, 89), (63, 89), (92, 89), (124, 89), (127, 89)] 91 (nI u).toInt = 91; rw [lv_osw (mk_ne c_4 (by omega) (by decide)) (by decide)]; rw [lv_osw (mk_ne c_5 (by omega) (by decide)) (by decide)]; rw [lv_osw (mk_ne c_6 (by omega) (by decide)) (by decide)]; rw [lv_osw (mk_ne c_7 (by omega) (by decide)) (by decide)]; rw [lv_osw (mk_ne c_8 (by omega) (by decide)) (by decide)]; rw [lv_osw (mk_ne c_9 (by omega) (by decide)) (by decide)]; rw [lv_osw (mk_ne c_10 (by omega) (by decide)) (by decide)]; rw [lv_osw (mk_ne c_11 (by omega) (by decide)) (by decide)]; rw [lv_osw (mk_ne c_12 (by omega) (by decide)) (by decide)]; rw [lv_osw (mk_ne c_13 (by omega) (by decide)) (by decide)]; rfl) (by decide) ?_
        refine lv_iconst (v := nI 1) hx hb d_Un_mayStandInName_118 (by decide) ?_
        exact mk_ti (by exact mk_bt (by simp only [okN, decide_eq_true_eq]; omega)) (hret _ _ d_Un_mayStandInName_119)
      · skip
        rw [nI_ltI (by omega) (by omega)] at c_3
        refine lv_iload_n hx hb d_Un_mayStandInName_18 rfl (lv_at hl 0 rfl) ?_
        refine lv_ldc (v := nI 57343) hx hb hown (hts _ (List.mem_cons_of_mem _ k_149)) d_Un_mayStandInName_19 ?_
        refine lv_icmp_gt (tgt := 26) hx hb d_Un_mayStandInName_21 (by decide) (fun c_14 => ?_) (fun c_14 => ?_)
        · skip
          rw [nI_ltI (by omega) (by omega)] at c_14
          refine lv_iload_n hx hb d_Un_mayStandInName_26 rfl (lv_at hl 0 rfl) ?_
          by_cases c_15 : u = 34
          · skip
            refine lv_lookup (off := 89) (tgt := 116) hx hb d_Un_mayStandInName_27 (by decide) (by rw [c_15]; decide) (by decide) ?_
            refine lv_iconst (v := nI 0) hx hb d_Un_mayStandInName_116 (by decide) ?_
            exact mk_ti (by exact mk_bf (by simp only [okN, decide_eq_false_iff_not]; omega)) (hret _ _ d_Un_mayStandInName_117)
          by_cases c_16 : u = 42
          · skip
            refine lv_lookup (off := 89) (tgt := 116) hx hb d_Un_mayStandInName_27 (by decide) (by rw [c_16]; decide) (by decide) ?_
            refine lv_iconst (v := nI 0) hx hb d_Un_mayStandInName_116 (by decide) ?_
            exact mk_ti (by exact mk_bf (by simp only [okN, decide_eq_false_iff_not]; omega)) (hret _ _ d_Un_mayStandInName_117)
          by_cases c_17 : u = 47
          · skip
            refine lv_lookup (off := 89) (tgt := 116) hx hb d_Un_mayStandInName_27 (by decide) (by rw [c_17]; decide) (by decide) ?_
            refine lv_iconst (v := nI 0) hx hb d_Un_mayStandInName_116 (by decide) ?_
            exact mk_ti (by exact mk_bf (by simp only [okN, decide_eq_false_iff_not]; omega)) (hret _ _ d_Un_mayStandInName_117)
          by_cases c_18 : u = 58
          · skip
            refine lv_lookup (off := 89) (tgt := 116) hx hb d_Un_mayStandInName_27 (by decide) (by rw [c_18]; decide) (by decide) ?_
            refine lv_iconst (v := nI 0) hx hb d_Un_mayStandInName_116 (by decide) ?_
            exact mk_ti (by exact mk_bf (by simp only [okN, decide_eq_false_iff_not]; omega)) (hret _ _ d_Un_mayStandInName_117)
          by_cases c_19 : u = 60
          · skip
            refine lv_lookup (off := 89) (tgt := 116) hx hb d_Un_mayStandInName_27 (by decide) (by rw [c_19]; decide) (by decide) ?_
            refine lv_iconst (v := nI 0) hx hb d_Un_mayStandInName_116 (by decide) ?_
            exact mk_ti (by exact mk_bf (by simp only [okN, decide_eq_false_iff_not]; omega)) (hret _ _ d_Un_mayStandInName_117)
          by_cases c_20 : u = 62
          · skip
            refine lv_lookup (off := 89) (tgt := 116) hx hb d_Un_mayStandInName_27 (by decide) (by rw [c_20]; decide) (by decide) ?_
            refine lv_iconst (v := nI 0) hx hb d_Un_mayStandInName_116 (by decide) ?_
            exact mk_ti (by exact mk_bf (by simp only [okN, decide_eq_false_iff_not]; omega)) (hret _ _ d_Un_mayStandInName_117)
          by_cases c_21 : u = 63
          · skip
            refine lv_lookup (off := 89) (tgt := 116) hx hb d_Un_mayStandInName_27 (by decide) (by rw [c_21]; decide) (by decide) ?_
            refine lv_iconst (v := nI 0) hx hb d_Un_mayStandInName_116 (by decide) ?_
            exact mk_ti (by exact mk_bf (by simp only [okN, decide_eq_false_iff_not]; omega)) (hret _ _ d_Un_mayStandInName_117)
          by_cases c_22 : u = 92
          · skip
            refine lv_lookup (off := 89) (tgt := 116) hx hb d_Un_mayStandInName_27 (by decide) (by rw [c_22]; decide) (by decide) ?_
            refine lv_iconst (v := nI 0) hx hb d_Un_mayStandInName_116 (by decide) ?_
            exact mk_ti (by exact mk_bf (by simp only [okN, decide_eq_false_iff_not]; omega)) (hret _ _ d_Un_mayStandInName_117)
          by_cases c_23 : u = 124
          · skip
            refine lv_lookup (off := 89) (tgt := 116) hx hb d_Un_mayStandInName_27 (by decide) (by rw [c_23]; decide) (by decide) ?_
            refine lv_iconst (v := nI 0) hx hb d_Un_mayStandInName_116 (by decide) ?_
            exact mk_ti (by exact mk_bf (by simp only [okN, decide_eq_false_iff_not]; omega)) (hret _ _ d_Un_mayStandInName_117)
          by_cases c_24 : u = 127
          · skip
            refine lv_lookup (off := 89) (tgt := 116) hx hb d_Un_mayStandInName_27 (by decide) (by rw [c_24]; decide) (by decide) ?_
            refine lv_iconst (v := nI 0) hx hb d_Un_mayStandInName_116 (by decide) ?_
            exact mk_ti (by exact mk_bf (by simp only [okN, decide_eq_false_iff_not]; omega)) (hret _ _ d_Un_mayStandInName_117)
          refine lv_lookup (off := 91) (tgt := 118) hx hb d_Un_mayStandInName_27 (by decide) (by show Op.lookupswitch.offset [(34, 89), (42, 89), (47, 89), (58, 89), (60, 89), (62, 89), (63, 89), (92, 89), (124, 89), (127, 89)] 91 (nI u).toInt = 91; rw [lv_osw (mk_ne c_15 (by omega) (by decide)) (by decide)]; rw [lv_osw (mk_ne c_16 (by omega) (by decide)) (by decide)]; rw [lv_osw (mk_ne c_17 (by omega) (by decide)) (by decide)]; rw [lv_osw (mk_ne c_18 (by omega) (by decide)) (by decide)]; rw [lv_osw (mk_ne c_19 (by omega) (by decide)) (by decide)]; rw [lv_osw (mk_ne c_20 (by omega) (by decide)) (by decide)]; rw [lv_osw (mk_ne c_21 (by omega) (by decide)) (by decide)]; rw [lv_osw (mk_ne c_22 (by omega) (by decide)) (by decide)]; rw [lv_osw (mk_ne c_23 (by omega) (by decide)) (by decide)]; rw [lv_osw (mk_ne c_24 (by omega) (by decide)) (by decide)]; rfl) (by decide) ?_
          refine lv_iconst (v := nI 1) hx hb d_Un_mayStandInName_118 (by decide) ?_
          exact mk_ti (by exact mk_bt (by simp only [okN, decide_eq_true_eq]; omega)) (hret _ _ d_Un_mayStandInName_119)
        · skip
          rw [nI_ltI (by omega) (by omega)] at c_14
          refine lv_iconst (v := nI 0) hx hb d_Un_mayStandInName_24 (by decide) ?_
          exact mk_ti (by exact mk_bf (by simp only [okN, decide_eq_false_iff_not]; omega)) (hret _ _ d_Un_mayStandInName_25)

set_option maxHeartbeats 4000000 in
set_option maxRecDepth 100000 in
theorem c_Un_short (l : Launch) (dC : Nat → ClassId) (dI : Nat → Nat → Nat) (cI : ClassId) (u : Nat) (hu : u < 65536) : mR l y_Un_mayStandInShortName w_Un_mayStandInShortName ({ frames := 0, cells := 0, slots := 0, locals := 0 } : Room) [.int (nI u)] (dC, dI) vwCl [(cI, .int)] [] (some (.int (bI (okS u)))) := by
  refine mk_Ri (cc := b_Un_mayStandInShortName) (maxL := 1) (by decide) rfl (Nat.le_of_ble_eq_true rfl) (mk_nz _) ?_
  intro p e s m below meth c Q A ls S hP hK hT hS hl hret
  obtain ⟨hx, hb, hml, hown, hts⟩ := id S
  have hl : lv_has ls 1 [(0, .int (nI u))] := hl
  refine lv_iload_n hx hb d_Un_mayStandInShortName_0 rfl (lv_at hl 0 rfl) ?_
  refine lv_bipush (v := nI 65) hx hb d_Un_mayStandInShortName_1 (by decide) ?_
  refine lv_icmp_lt (tgt := 12) hx hb d_Un_mayStandInShortName_3 (by decide) (fun c_1 => ?_) (fun c_1 => ?_)
  · skip
    rw [nI_ltI (by omega) (by omega)] at c_1
    refine lv_iload_n hx hb d_Un_mayStandInShortName_12 rfl (lv_at hl 0 rfl) ?_
    refine lv_bipush (v := nI 48) hx hb d_Un_mayStandInShortName_13 (by decide) ?_
    refine lv_icmp_lt (tgt := 26) hx hb d_Un_mayStandInShortName_15 (by decide) (fun c_2 => ?_) (fun c_2 => ?_)
    · skip
      rw [nI_ltI (by omega) (by omega)] at c_2
      refine lv_iload_n hx hb d_Un_mayStandInShortName_26 rfl (lv_at hl 0 rfl) ?_
      by_cases c_3 : u = 33
      · skip
        refine lv_lookup (off := 137) (tgt := 164) hx hb d_Un_mayStandInShortName_27 (by decide) (by rw [c_3]; decide) (by decide) ?_
        refine lv_iconst (v := nI 1) hx hb d_Un_mayStandInShortName_164 (by decide) ?_
        exact mk_ti (by exact mk_bt (by simp only [okS, decide_eq_true_eq]; omega)) (hret _ _ d_Un_mayStandInShortName_165)
      by_cases c_4 : u = 35
      · skip
        refine lv_lookup (off := 137) (tgt := 164) hx hb d_Un_mayStandInShortName_27 (by decide) (by rw [c_4]; decide) (by decide) ?_
        refine lv_iconst (v := nI 1) hx hb d_Un_mayStandInShortName_164 (by decide) ?_
        exact mk_ti (by exact mk_bt (by simp only [okS, decide_eq_true_eq]; omega)) (hret _ _ d_Un_mayStandInShortName_165)
      by_cases c_5 : u = 36
      · skip
        refine lv_lookup (off := 137) (tgt := 164) hx hb d_Un_mayStandInShortName_27 (by decide) (by rw [c_5]; decide) (by decide) ?_
        refine lv_iconst (v := nI 1) hx hb d_Un_mayStandInShortName_164 (by decide) ?_
        exact mk_ti (by exact mk_bt (by simp only [okS, decide_eq_true_eq]; omega)) (hret _ _ d_Un_mayStandInShortName_165)
      by_cases c_6 : u = 37
      · skip
        refine lv_lookup (off := 137) (tgt := 164) hx hb d_Un_mayStandInShortName_27 (by decide) (by rw [c_6]; decide) (by decide) ?_
        refine lv_iconst (v := nI 1) hx hb d_Un_mayStandInShortName_164 (by decide) ?_
        exact mk_ti (by exact mk_bt (by simp only [okS, decide_eq_true_eq]; omega)) (hret _ _ d_Un_mayStandInShortName_165)
      by_cases c_7 : u = 38
      · skip
        refine lv_lookup (off := 137) (tgt := 164) hx hb d_Un_mayStandInShortName_27 (by decide) (by rw [c_7]; decide) (by decide) ?_
        refine lv_iconst (v := nI 1) hx hb d_Un_mayStandInShortName_164 (by decide) ?_
        exact mk_ti (by exact mk_bt (by simp only [okS, decide_eq_true_eq]; omega)) (hret _ _ d_Un_mayStandInShortName_165)
      by_cases c_8 : u = 39
      · skip
        refine lv_lookup (off := 137) (tgt := 164) hx hb d_Un_mayStandInShortName_27 (by decide) (by rw [c_8]; decide) (by decide) ?_
        refine lv_iconst (v := nI 1) hx hb d_Un_mayStandInShortName_164 (by decide) ?_
        exact mk_ti (by exact mk_bt (by simp only [okS, decide_eq_true_eq]; omega)) (hret _ _ d_Un_mayStandInShortName_165)
      by_cases c_9 : u = 40
      · skip
        refine lv_lookup (off := 137) (tgt := 164) hx hb d_Un_mayStandInShortName_27 (by decide) (by rw [c_9]; decide) (by decide) ?_
        refine lv_iconst (v := nI 1) hx hb d_Un_mayStandInShortName_164 (by decide) ?_
        exact mk_ti (by exact mk_bt (by simp only [okS, decide_eq_true_eq]; omega)) (hret _ _ d_Un_mayStandInShortName_165)
      by_cases c_10 : u = 41
      · skip
        refine lv_lookup (off := 137) (tgt := 164) hx hb d_Un_mayStandInShortName_27 (by decide) (by rw [c_10]; decide) (by decide) ?_
        refine lv_iconst (v := nI 1) hx hb d_Un_mayStandInShortName_164 (by decide) ?_
        exact mk_ti (by exact mk_bt (by simp only [okS, decide_eq_true_eq]; omega)) (hret _ _ d_Un_mayStandInShortName_165)
      by_cases c_11 : u = 45
      · skip
        refine lv_lookup (off := 137) (tgt := 164) hx hb d_Un_mayStandInShortName_27 (by decide) (by rw [c_11]; decide) (by decide) ?_
        refine lv_iconst (v := nI 1) hx hb d_Un_mayStandInShortName_164 (by decide) ?_
        exact mk_ti (by exact mk_bt (by simp only [okS, decide_eq_true_eq]; omega)) (hret _ _ d_Un_mayStandInShortName_165)
      by_cases c_12 : u = 64
      · skip
        refine lv_lookup (off := 137) (tgt := 164) hx hb d_Un_mayStandInShortName_27 (by decide) (by rw [c_12]; decide) (by decide) ?_
        refine lv_iconst (v := nI 1) hx hb d_Un_mayStandInShortName_164 (by decide) ?_
        exact mk_ti (by exact mk_bt (by simp only [okS, decide_eq_true_eq]; omega)) (hret _ _ d_Un_mayStandInShortName_165)
      by_cases c_13 : u = 94
      · skip
        refine lv_lookup (off := 137) (tgt := 164) hx hb d_Un_mayStandInShortName_27 (by decide) (by rw [c_13]; decide) (by decide) ?_
        refine lv_iconst (v := nI 1) hx hb d_Un_mayStandInShortName_164 (by decide) ?_
        exact mk_ti (by exact mk_bt (by simp only [okS, decide_eq_true_eq]; omega)) (hret _ _ d_Un_mayStandInShortName_165)
      by_cases c_14 : u = 95
      · skip
        refine lv_lookup (off := 137) (tgt := 164) hx hb d_Un_mayStandInShortName_27 (by decide) (by rw [c_14]; decide) (by decide) ?_
        refine lv_iconst (v := nI 1) hx hb d_Un_mayStandInShortName_164 (by decide) ?_
        exact mk_ti (by exact mk_bt (by simp only [okS, decide_eq_true_eq]; omega)) (hret _ _ d_Un_mayStandInShortName_165)
      by_cases c_15 : u = 96
      · skip
        refine lv_lookup (off := 137) (tgt := 164) hx hb d_Un_mayStandInShortName_27 (by decide) (by rw [c_15]; decide) (by decide) ?_
        refine lv_iconst (v := nI 1) hx hb d_Un_mayStandInShortName_164 (by decide) ?_
        exact mk_ti (by exact mk_bt (by simp only [okS, decide_eq_true_eq]; omega)) (hret _ _ d_Un_mayStandInShortName_165)
      by_cases c_16 : u = 123
      · skip
        refine lv_lookup (off := 137) (tgt := 164) hx hb d_Un_mayStandInShortName_27 (by decide) (by rw [c_16]; decide) (by decide) ?_
        refine lv_iconst (v := nI 1) hx hb d_Un_mayStandInShortName_164 (by decide) ?_
        exact mk_ti (by exact mk_bt (by simp only [okS, decide_eq_true_eq]; omega)) (hret _ _ d_Un_mayStandInShortName_165)
      by_cases c_17 : u = 125
      · skip
        refine lv_lookup (off := 137) (tgt := 164) hx hb d_Un_mayStandInShortName_27 (by decide) (by rw [c_17]; decide) (by decide) ?_
        refine lv_iconst (v := nI 1) hx hb d_Un_mayStandInShortName_164 (by decide) ?_
        exact mk_ti (by exact mk_bt (by simp only [okS, decide_eq_true_eq]; omega)) (hret _ _ d_Un_mayStandInShortName_165)
      by_cases c_18 : u = 126
      · skip
        refine lv_lookup (off := 137) (tgt := 164) hx hb d_Un_mayStandInShortName_27 (by decide) (by rw [c_18]; decide) (by decide) ?_
        refine lv_iconst (v := nI 1) hx hb d_Un_mayStandInShortName_164 (by decide) ?_
        exact mk_ti (by exact mk_bt (by simp only [okS, decide_eq_true_eq]; omega)) (hret _ _ d_Un_mayStandInShortName_165)
      refine lv_lookup (off := 139) (tgt := 166) hx hb d_Un_mayStandInShortName_27 (by decide) (by show Op.lookupswitch.offset [(33, 137), (35, 137), (36, 137), (37, 137), (38, 137), (39, 137), (40, 137), (41, 137), (45, 137), (64, 137), (94, 137), (95, 137), (96, 137), (123, 137), (125, 137), (126, 137)] 139 (nI u).toInt = 139; rw [lv_osw (mk_ne c_3 (by omega) (by decide)) (by decide)]; rw [lv_osw (mk_ne c_4 (by omega) (by decide)) (by decide)]; rw [lv_osw (mk_ne c_5 (by omega) (by decide)) (by decide)]; rw [lv_osw (mk_ne c_6 (by omega) (by decide)) (by decide)]; rw [lv_osw (mk_ne c_7 (by omega) (by decide)) (by decide)]; rw [lv_osw (mk_ne c_8 (by omega) (by decide)) (by decide)]; rw [lv_osw (mk_ne c_9 (by omega) (by decide)) (by decide)]; rw [lv_osw (mk_ne c_10 (by omega) (by decide)) (by decide)]; rw [lv_osw (mk_ne c_11 (by omega) (by decide)) (by decide)]; rw [lv_osw (mk_ne c_12 (by omega) (by decide)) (by decide)]; rw [lv_osw (mk_ne c_13 (by omega) (by decide)) (by decide)]; rw [lv_osw (mk_ne c_14 (by omega) (by decide)) (by decide)]; rw [lv_osw (mk_ne c_15 (by omega) (by decide)) (by decide)]; rw [lv_osw (mk_ne c_16 (by omega) (by decide)) (by decide)]; rw [lv_osw (mk_ne c_17 (by omega) (by decide)) (by decide)]; rw [lv_osw (mk_ne c_18 (by omega) (by decide)) (by decide)]; rfl) (by decide) ?_
      refine lv_iconst (v := nI 0) hx hb d_Un_mayStandInShortName_166 (by decide) ?_
      exact mk_ti (by exact mk_bf (by simp only [okS, decide_eq_false_iff_not]; omega)) (hret _ _ d_Un_mayStandInShortName_167)
    · skip
      rw [nI_ltI (by omega) (by omega)] at c_2
      refine lv_iload_n hx hb d_Un_mayStandInShortName_18 rfl (lv_at hl 0 rfl) ?_
      refine lv_bipush (v := nI 57) hx hb d_Un_mayStandInShortName_19 (by decide) ?_
      refine lv_icmp_gt (tgt := 26) hx hb d_Un_mayStandInShortName_21 (by decide) (fun c_19 => ?_) (fun c_19 => ?_)
      · skip
        rw [nI_ltI (by omega) (by omega)] at c_19
        refine lv_iload_n hx hb d_Un_mayStandInShortName_26 rfl (lv_at hl 0 rfl) ?_
        by_cases c_20 : u = 33
        · skip
          refine lv_lookup (off := 137) (tgt := 164) hx hb d_Un_mayStandInShortName_27 (by decide) (by rw [c_20]; decide) (by decide) ?_
          refine lv_iconst (v := nI 1) hx hb d_Un_mayStandInShortName_164 (by decide) ?_
          exact mk_ti (by exact mk_bt (by simp only [okS, decide_eq_true_eq]; omega)) (hret _ _ d_Un_mayStandInShortName_165)
        by_cases c_21 : u = 35
        · skip
          refine lv_lookup (off := 137) (tgt := 164) hx hb d_Un_mayStandInShortName_27 (by decide) (by rw [c_21]; decide) (by decide) ?_
          refine lv_iconst (v := nI 1) hx hb d_Un_mayStandInShortName_164 (by decide) ?_
          exact mk_ti (by exact mk_bt (by simp only [okS, decide_eq_true_eq]; omega)) (hret _ _ d_Un_mayStandInShortName_165)
        by_cases c_22 : u = 36
        · skip
          refine lv_lookup (off := 137) (tgt := 164) hx hb d_Un_mayStandInShortName_27 (by decide) (by rw [c_22]; decide) (by decide) ?_
          refine lv_iconst (v := nI 1) hx hb d_Un_mayStandInShortName_164 (by decide) ?_
          exact mk_ti (by exact mk_bt (by simp only [okS, decide_eq_true_eq]; omega)) (hret _ _ d_Un_mayStandInShortName_165)
        by_cases c_23 : u = 37
        · skip
          refine lv_lookup (off := 137) (tgt := 164) hx hb d_Un_mayStandInShortName_27 (by decide) (by rw [c_23]; decide) (by decide) ?_
          refine lv_iconst (v := nI 1) hx hb d_Un_mayStandInShortName_164 (by decide) ?_
          exact mk_ti (by exact mk_bt (by simp only [okS, decide_eq_true_eq]; omega)) (hret _ _ d_Un_mayStandInShortName_165)
        by_cases c_24 : u = 38
        · skip
          refine lv_lookup (off := 137) (tgt := 164) hx hb d_Un_mayStandInShortName_27 (by decide) (by rw [c_24]; decide) (by decide) ?_
          refine lv_iconst (v := nI 1) hx hb d_Un_mayStandInShortName_164 (by decide) ?_
          exact mk_ti (by exact mk_bt (by simp only [okS, decide_eq_true_eq]; omega)) (hret _ _ d_Un_mayStandInShortName_165)
        by_cases c_25 : u = 39
        · skip
          refine lv_lookup (off := 137) (tgt := 164) hx hb d_Un_mayStandInShortName_27 (by decide) (by rw [c_25]; decide) (by decide) ?_
          refine lv_iconst (v := nI 1) hx hb d_Un_mayStandInShortName_164 (by decide) ?_
          exact mk_ti (by exact mk_bt (by simp only [okS, decide_eq_true_eq]; omega)) (hret _ _ d_Un_mayStandInShortName_165)
        by_cases c_26 : u = 40
        · skip
          refine lv_lookup (off := 137) (tgt := 164) hx hb d_Un_mayStandInShortName_27 (by decide) (by rw [c_26]; decide) (by decide) ?_
          refine lv_iconst (v := nI 1) hx hb d_Un_mayStandInShortName_164 (by decide) ?_
          exact mk_ti (by exact mk_bt (by simp only [okS, decide_eq_true_eq]; omega)) (hret _ _ d_Un_mayStandInShortName_165)
        by_cases c_27 : u = 41
        · skip
          refine lv_lookup (off := 137) (tgt := 164) hx hb d_Un_mayStandInShortName_27 (by decide) (by rw [c_27]; decide) (by decide) ?_
          refine lv_iconst (v := nI 1) hx hb d_Un_mayStandInShortName_164 (by decide) ?_
          exact mk_ti (by exact mk_bt (by simp only [okS, decide_eq_true_eq]; omega)) (hret _ _ d_Un_mayStandInShortName_165)
        by_cases c_28 : u = 45
        · skip
          refine lv_lookup (off := 137) (tgt := 164) hx hb d_Un_mayStandInShortName_27 (by decide) (by rw [c_28]; decide) (by decide) ?_
          refine lv_iconst (v := nI 1) hx hb d_Un_mayStandInShortName_164 (by decide) ?_
          exact mk_ti (by exact mk_bt (by simp only [okS, decide_eq_true_eq]; omega)) (hret _ _ d_Un_mayStandInShortName_165)
        by_cases c_29 : u = 64
        · skip
          refine lv_lookup (off := 137) (tgt := 164) hx hb d_Un_mayStandInShortName_27 (by decide) (by rw [c_29]; decide) (by decide) ?_
          refine lv_iconst (v := nI 1) hx hb d_Un_mayStandInShortName_164 (by decide) ?_
          exact mk_ti (by exact mk_bt (by simp only [okS, decide_eq_true_eq]; omega)) (hret _ _ d_Un_mayStandInShortName_165)
        by_cases c_30 : u = 94
        · skip
          refine lv_lookup (off := 137) (tgt := 164) hx hb d_Un_mayStandInShortName_27 (by decide) (by rw [c_30]; decide) (by decide) ?_
          refine lv_iconst (v := nI 1) hx hb d_Un_mayStandInShortName_164 (by decide) ?_
          exact mk_ti (by exact mk_bt (by simp only [okS, decide_eq_true_eq]; omega)) (hret _ _ d_Un_mayStandInShortName_165)
        by_cases c_31 : u = 95
        · skip
          refine lv_lookup (off := 137) (tgt := 164) hx hb d_Un_mayStandInShortName_27 (by decide) (by rw [c_31]; decide) (by decide) ?_
          refine lv_iconst (v := nI 1) hx hb d_Un_mayStandInShortName_164 (by decide) ?_
          exact mk_ti (by exact mk_bt (by simp only [okS, decide_eq_true_eq]; omega)) (hret _ _ d_Un_mayStandInShortName_165)
        by_cases c_32 : u = 96
        · skip
          refine lv_lookup (off := 137) (tgt := 164) hx hb d_Un_mayStandInShortName_27 (by decide) (by rw [c_32]; decide) (by decide) ?_
          refine lv_iconst (v := nI 1) hx hb d_Un_mayStandInShortName_164 (by decide) ?_
          exact mk_ti (by exact mk_bt (by simp only [okS, decide_eq_true_eq]; omega)) (hret _ _ d_Un_mayStandInShortName_165)
        by_cases c_33 : u = 123
        · skip
          refine lv_lookup (off := 137) (tgt := 164) hx hb d_Un_mayStandInShortName_27 (by decide) (by rw [c_33]; decide) (by decide) ?_
          refine lv_iconst (v := nI 1) hx hb d_Un_mayStandInShortName_164 (by decide) ?_
          exact mk_ti (by exact mk_bt (by simp only [okS, decide_eq_true_eq]; omega)) (hret _ _ d_Un_mayStandInShortName_165)
        by_cases c_34 : u = 125
        · skip
          refine lv_lookup (off := 137) (tgt := 164) hx hb d_Un_mayStandInShortName_27 (by decide) (by rw [c_34]; decide) (by decide) ?_
          refine lv_iconst (v := nI 1) hx hb d_Un_mayStandInShortName_164 (by decide) ?_
          exact mk_ti (by exact mk_bt (by simp only [okS, decide_eq_true_eq]; omega)) (hret _ _ d_Un_mayStandInShortName_165)
        by_cases c_35 : u = 126
        · skip
          refine lv_lookup (off := 137) (tgt := 164) hx hb d_Un_mayStandInShortName_27 (by decide) (by rw [c_35]; decide) (by decide) ?_
          refine lv_iconst (v := nI 1) hx hb d_Un_mayStandInShortName_164 (by decide) ?_
          exact mk_ti (by exact mk_bt (by simp only [okS, decide_eq_true_eq]; omega)) (hret _ _ d_Un_mayStandInShortName_165)
        refine lv_lookup (off := 139) (tgt := 166) hx hb d_Un_mayStandInShortName_27 (by decide) (by show Op.lookupswitch.offset [(33, 137), (35, 137), (36, 137), (37, 137), (38, 137), (39, 137), (40, 137), (41, 137), (45, 137), (64, 137), (94, 137), (95, 137), (96, 137), (123, 137), (125, 137), (126, 137)] 139 (nI u).toInt = 139; rw [lv_osw (mk_ne c_20 (by omega) (by decide)) (by decide)]; rw [lv_osw (mk_ne c_21 (by omega) (by decide)) (by decide)]; rw [lv_osw (mk_ne c_22 (by omega) (by decide)) (by decide)]; rw [lv_osw (mk_ne c_23 (by omega) (by decide)) (by decide)]; rw [lv_osw (mk_ne c_24 (by omega) (by decide)) (by decide)]; rw [lv_osw (mk_ne c_25 (by omega) (by decide)) (by decide)]; rw [lv_osw (mk_ne c_26 (by omega) (by decide)) (by decide)]; rw [lv_osw (mk_ne c_27 (by omega) (by decide)) (by decide)]; rw [lv_osw (mk_ne c_28 (by omega) (by decide)) (by decide)]; rw [lv_osw (mk_ne c_29 (by omega) (by decide)) (by decide)]; rw [lv_osw (mk_ne c_30 (by omega) (by decide)) (by decide)]; rw [lv_osw (mk_ne c_31 (by omega) (by decide)) (by decide)]; rw [lv_osw (mk_ne c_32 (by omega) (by decide)) (by decide)]; rw [lv_osw (mk_ne c_33 (by omega) (by decide)) (by decide)]; rw [lv_osw (mk_ne c_34 (by omega) (by decide)) (by decide)]; rw [lv_osw (mk_ne c_35 (by omega) (by decide)) (by decide)]; rfl) (by decide) ?_
        refine lv_iconst (v := nI 0) hx hb d_Un_mayStandInShortName_166 (by decide) ?_
        exact mk_ti (by exact mk_bf (by simp only [okS, decide_eq_false_iff_not]; omega)) (hret _ _ d_Un_mayStandInShortName_167)
      · skip
        rw [nI_ltI (by omega) (by omega)] at c_19
        refine lv_iconst (v := nI 1) hx hb d_Un_mayStandInShortName_24 (by decide) ?_
        exact mk_ti (by exact mk_bt (by simp only [okS, decide_eq_true_eq]; omega)) (hret _ _ d_Un_mayStandInShortName_25)
  · skip
    rw [nI_ltI (by omega) (by omega)] at c_1
    refine lv_iload_n hx hb d_Un_mayStandInShortName_6 rfl (lv_at hl 0 rfl) ?_
    refine lv_bipush (v := nI 90) hx hb d_Un_mayStandInShortName_7 (by decide) ?_
    refine lv_icmp_le (tgt := 24) hx hb d_Un_mayStandInShortName_9 (by decide) (fun c_36 => ?_) (fun c_36 => ?_)
    · skip
      rw [nI_leI (by omega) (by omega)] at c_36
      refine lv_iconst (v := nI 1) hx hb d_Un_mayStandInShortName_24 (by decide) ?_
      exact mk_ti (by exact mk_bt (by simp only [okS, decide_eq_true_eq]; omega)) (hret _ _ d_Un_mayStandInShortName_25)
    · skip
      rw [nI_leI (by omega) (by omega)] at c_36
      refine lv_iload_n hx hb d_Un_mayStandInShortName_12 rfl (lv_at hl 0 rfl) ?_
      refine lv_bipush (v := nI 48) hx hb d_Un_mayStandInShortName_13 (by decide) ?_
      refine lv_icmp_lt (tgt := 26) hx hb d_Un_mayStandInShortName_15 (by decide) (fun c_37 => ?_) (fun c_37 => ?_)
      · skip
        rw [nI_ltI (by omega) (by omega)] at c_37
        refine lv_iload_n hx hb d_Un_mayStandInShortName_26 rfl (lv_at hl 0 rfl) ?_
        by_cases c_38 : u = 33
        · skip
          refine lv_lookup (off := 137) (tgt := 164) hx hb d_Un_mayStandInShortName_27 (by decide) (by rw [c_38]; decide) (by decide) ?_
          refine lv_iconst (v := nI 1) hx hb d_Un_mayStandInShortName_164 (by decide) ?_
          exact mk_ti (by exact mk_bt (by simp only [okS, decide_eq_true_eq]; omega)) (hret _ _ d_Un_mayStandInShortName_165)
        by_cases c_39 : u = 35
        · skip
          refine lv_lookup (off := 137) (tgt := 164) hx hb d_Un_mayStandInShortName_27 (by decide) (by rw [c_39]; decide) (by decide) ?_
          refine lv_iconst (v := nI 1) hx hb d_Un_mayStandInShortName_164 (by decide) ?_
          exact mk_ti (by exact mk_bt (by simp only [okS, decide_eq_true_eq]; omega)) (hret _ _ d_Un_mayStandInShortName_165)
        by_cases c_40 : u = 36
        · skip
          refine lv_lookup (off := 137) (tgt := 164) hx hb d_Un_mayStandInShortName_27 (by decide) (by rw [c_40]; decide) (by decide) ?_
          refine lv_iconst (v := nI 1) hx hb d_Un_mayStandInShortName_164 (by decide) ?_
          exact mk_ti (by exact mk_bt (by simp only [okS, decide_eq_true_eq]; omega)) (hret _ _ d_Un_mayStandInShortName_165)
        by_cases c_41 : u = 37
        · skip
          refine lv_lookup (off := 137) (tgt := 164) hx hb d_Un_mayStandInShortName_27 (by decide) (by rw [c_41]; decide) (by decide) ?_
          refine lv_iconst (v := nI 1) hx hb d_Un_mayStandInShortName_164 (by decide) ?_
          exact mk_ti (by exact mk_bt (by simp only [okS, decide_eq_true_eq]; omega)) (hret _ _ d_Un_mayStandInShortName_165)
        by_cases c_42 : u = 38
        · skip
          refine lv_lookup (off := 137) (tgt := 164) hx hb d_Un_mayStandInShortName_27 (by decide) (by rw [c_42]; decide) (by decide) ?_
          refine lv_iconst (v := nI 1) hx hb d_Un_mayStandInShortName_164 (by decide) ?_
          exact mk_ti (by exact mk_bt (by simp only [okS, decide_eq_true_eq]; omega)) (hret _ _ d_Un_mayStandInShortName_165)
        by_cases c_43 : u = 39
        · skip
          refine lv_lookup (off := 137) (tgt := 164) hx hb d_Un_mayStandInShortName_27 (by decide) (by rw [c_43]; decide) (by decide) ?_
          refine lv_iconst (v := nI 1) hx hb d_Un_mayStandInShortName_164 (by decide) ?_
          exact mk_ti (by exact mk_bt (by simp only [okS, decide_eq_true_eq]; omega)) (hret _ _ d_Un_mayStandInShortName_165)
        by_cases c_44 : u = 40
        · skip
          refine lv_lookup (off := 137) (tgt := 164) hx hb d_Un_mayStandInShortName_27 (by decide) (by rw [c_44]; decide) (by decide) ?_
          refine lv_iconst (v := nI 1) hx hb d_Un_mayStandInShortName_164 (by decide) ?_
          exact mk_ti (by exact mk_bt (by simp only [okS, decide_eq_true_eq]; omega)) (hret _ _ d_Un_mayStandInShortName_165)
        by_cases c_45 : u = 41
        · skip
          refine lv_lookup (off := 137) (tgt := 164) hx hb d_Un_mayStandInShortName_27 (by decide) (by rw [c_45]; decide) (by decide) ?_
          refine lv_iconst (v := nI 1) hx hb d_Un_mayStandInShortName_164 (by decide) ?_
          exact mk_ti (by exact mk_bt (by simp only [okS, decide_eq_true_eq]; omega)) (hret _ _ d_Un_mayStandInShortName_165)
        by_cases c_46 : u = 45
        · skip
          refine lv_lookup (off := 137) (tgt := 164) hx hb d_Un_mayStandInShortName_27 (by decide) (by rw [c_46]; decide) (by decide) ?_
          refine lv_iconst (v := nI 1) hx hb d_Un_mayStandInShortName_164 (by decide) ?_
          exact mk_ti (by exact mk_bt (by simp only [okS, decide_eq_true_eq]; omega)) (hret _ _ d_Un_mayStandInShortName_165)
        by_cases c_47 : u = 64
        · skip
          refine lv_lookup (off := 137) (tgt := 164) hx hb d_Un_mayStandInShortName_27 (by decide) (by rw [c_47]; decide) (by decide) ?_
          refine lv_iconst (v := nI 1) hx hb d_Un_mayStandInShortName_164 (by decide) ?_
          exact mk_ti (by exact mk_bt (by simp only [okS, decide_eq_true_eq]; omega)) (hret _ _ d_Un_mayStandInShortName_165)
        by_cases c_48 : u = 94
        · skip
          refine lv_lookup (off := 137) (tgt := 164) hx hb d_Un_mayStandInShortName_27 (by decide) (by rw [c_48]; decide) (by decide) ?_
          refine lv_iconst (v := nI 1) hx hb d_Un_mayStandInShortName_164 (by decide) ?_
          exact mk_ti (by exact mk_bt (by simp only [okS, decide_eq_true_eq]; omega)) (hret _ _ d_Un_mayStandInShortName_165)
        by_cases c_49 : u = 95
        · skip
          refine lv_lookup (off := 137) (tgt := 164) hx hb d_Un_mayStandInShortName_27 (by decide) (by rw [c_49]; decide) (by decide) ?_
          refine lv_iconst (v := nI 1) hx hb d_Un_mayStandInShortName_164 (by decide) ?_
          exact mk_ti (by exact mk_bt (by simp only [okS, decide_eq_true_eq]; omega)) (hret _ _ d_Un_mayStandInShortName_165)
        by_cases c_50 : u = 96
        · skip
          refine lv_lookup (off := 137) (tgt := 164) hx hb d_Un_mayStandInShortName_27 (by decide) (by rw [c_50]; decide) (by decide) ?_
          refine lv_iconst (v := nI 1) hx hb d_Un_mayStandInShortName_164 (by decide) ?_
          exact mk_ti (by exact mk_bt (by simp only [okS, decide_eq_true_eq]; omega)) (hret _ _ d_Un_mayStandInShortName_165)
        by_cases c_51 : u = 123
        · skip
          refine lv_lookup (off := 137) (tgt := 164) hx hb d_Un_mayStandInShortName_27 (by decide) (by rw [c_51]; decide) (by decide) ?_
          refine lv_iconst (v := nI 1) hx hb d_Un_mayStandInShortName_164 (by decide) ?_
          exact mk_ti (by exact mk_bt (by simp only [okS, decide_eq_true_eq]; omega)) (hret _ _ d_Un_mayStandInShortName_165)
        by_cases c_52 : u = 125
        · skip
          refine lv_lookup (off := 137) (tgt := 164) hx hb d_Un_mayStandInShortName_27 (by decide) (by rw [c_52]; decide) (by decide) ?_
          refine lv_iconst (v := nI 1) hx hb d_Un_mayStandInShortName_164 (by decide) ?_
          exact mk_ti (by exact mk_bt (by simp only [okS, decide_eq_true_eq]; omega)) (hret _ _ d_Un_mayStandInShortName_165)
        by_cases c_53 : u = 126
        · skip
          refine lv_lookup (off := 137) (tgt := 164) hx hb d_Un_mayStandInShortName_27 (by decide) (by rw [c_53]; decide) (by decide) ?_
          refine lv_iconst (v := nI 1) hx hb d_Un_mayStandInShortName_164 (by decide) ?_
          exact mk_ti (by exact mk_bt (by simp only [okS, decide_eq_true_eq]; omega)) (hret _ _ d_Un_mayStandInShortName_165)
        refine lv_lookup (off := 139) (tgt := 166) hx hb d_Un_mayStandInShortName_27 (by decide) (by show Op.lookupswitch.offset [(33, 137), (35, 137), (36, 137), (37, 137), (38, 137), (39, 137), (40, 137), (41, 137), (45, 137), (64, 137), (94, 137), (95, 137), (96, 137), (123, 137), (125, 137), (126, 137)] 139 (nI u).toInt = 139; rw [lv_osw (mk_ne c_38 (by omega) (by decide)) (by decide)]; rw [lv_osw (mk_ne c_39 (by omega) (by decide)) (by decide)]; rw [lv_osw (mk_ne c_40 (by omega) (by decide)) (by decide)]; rw [lv_osw (mk_ne c_41 (by omega) (by decide)) (by decide)]; rw [lv_osw (mk_ne c_42 (by omega) (by decide)) (by decide)]; rw [lv_osw (mk_ne c_43 (by omega) (by decide)) (by decide)]; rw [lv_osw (mk_ne c_44 (by omega) (by decide)) (by decide)]; rw [lv_osw (mk_ne c_45 (by omega) (by decide)) (by decide)]; rw [lv_osw (mk_ne c_46 (by omega) (by decide)) (by decide)]; rw [lv_osw (mk_ne c_47 (by omega) (by decide)) (by decide)]; rw [lv_osw (mk_ne c_48 (by omega) (by decide)) (by decide)]; rw [lv_osw (mk_ne c_49 (by omega) (by decide)) (by decide)]; rw [lv_osw (mk_ne c_50 (by omega) (by decide)) (by decide)]; rw [lv_osw (mk_ne c_51 (by omega) (by decide)) (by decide)]; rw [lv_osw (mk_ne c_52 (by omega) (by decide)) (by decide)]; rw [lv_osw (mk_ne c_53 (by omega) (by decide)) (by decide)]; rfl) (by decide) ?_
        refine lv_iconst (v := nI 0) hx hb d_Un_mayStandInShortName_166 (by decide) ?_
        exact mk_ti (by exact mk_bf (by simp only [okS, decide_eq_false_iff_not]; omega)) (hret _ _ d_Un_mayStandInShortName_167)
      · skip
        rw [nI_ltI (by omega) (by omega)] at c_37
        refine lv_iload_n hx hb d_Un_mayStandInShortName_18 rfl (lv_at hl 0 rfl) ?_
        refine lv_bipush (v := nI 57) hx hb d_Un_mayStandInShortName_19 (by decide) ?_
        refine lv_icmp_gt (tgt := 26) hx hb d_Un_mayStandInShortName_21 (by decide) (fun c_54 => ?_) (fun c_54 => ?_)
        · skip
          rw [nI_ltI (by omega) (by omega)] at c_54
          refine lv_iload_n hx hb d_Un_mayStandInShortName_26 rfl (lv_at hl 0 rfl) ?_
          by_cases c_55 : u = 33
          · skip
            refine lv_lookup (off := 137) (tgt := 164) hx hb d_Un_mayStandInShortName_27 (by decide) (by rw [c_55]; decide) (by decide) ?_
            refine lv_iconst (v := nI 1) hx hb d_Un_mayStandInShortName_164 (by decide) ?_
            exact mk_ti (by exact mk_bt (by simp only [okS, decide_eq_true_eq]; omega)) (hret _ _ d_Un_mayStandInShortName_165)
          by_cases c_56 : u = 35
          · skip
            refine lv_lookup (off := 137) (tgt := 164) hx hb d_Un_mayStandInShortName_27 (by decide) (by rw [c_56]; decide) (by decide) ?_
            refine lv_iconst (v := nI 1) hx hb d_Un_mayStandInShortName_164 (by decide) ?_
            exact mk_ti (by exact mk_bt (by simp only [okS, decide_eq_true_eq]; omega)) (hret _ _ d_Un_mayStandInShortName_165)
          by_cases c_57 : u = 36
          · skip
            refine lv_lookup (off := 137) (tgt := 164) hx hb d_Un_mayStandInShortName_27 (by decide) (by rw [c_57]; decide) (by decide) ?_
            refine lv_iconst (v := nI 1) hx hb d_Un_mayStandInShortName_164 (by decide) ?_
            exact mk_ti (by exact mk_bt (by simp only [okS, decide_eq_true_eq]; omega)) (hret _ _ d_Un_mayStandInShortName_165)
          by_cases c_58 : u = 37
          · skip
            refine lv_lookup (off := 137) (tgt := 164) hx hb d_Un_mayStandInShortName_27 (by decide) (by rw [c_58]; decide) (by decide) ?_
            refine lv_iconst (v := nI 1) hx hb d_Un_mayStandInShortName_164 (by decide) ?_
            exact mk_ti (by exact mk_bt (by simp only [okS, decide_eq_true_eq]; omega)) (hret _ _ d_Un_mayStandInShortName_165)
          by_cases c_59 : u = 38
          · skip
            refine lv_lookup (off := 137) (tgt := 164) hx hb d_Un_mayStandInShortName_27 (by decide) (by rw [c_59]; decide) (by decide) ?_
            refine lv_iconst (v := nI 1) hx hb d_Un_mayStandInShortName_164 (by decide) ?_
            exact mk_ti (by exact mk_bt (by simp only [okS, decide_eq_true_eq]; omega)) (hret _ _ d_Un_mayStandInShortName_165)
          by_cases c_60 : u = 39
          · skip
            refine lv_lookup (off := 137) (tgt := 164) hx hb d_Un_mayStandInShortName_27 (by decide) (by rw [c_60]; decide) (by decide) ?_
            refine lv_iconst (v := nI 1) hx hb d_Un_mayStandInShortName_164 (by decide) ?_
            exact mk_ti (by exact mk_bt (by simp only [okS, decide_eq_true_eq]; omega)) (hret _ _ d_Un_mayStandInShortName_165)
          by_cases c_61 : u = 40
          · skip
            refine lv_lookup (off := 137) (tgt := 164) hx hb d_Un_mayStandInShortName_27 (by decide) (by rw [c_61]; decide) (by decide) ?_
            refine lv_iconst (v := nI 1) hx hb d_Un_mayStandInShortName_164 (by decide) ?_
            exact mk_ti (by exact mk_bt (by simp only [okS, decide_eq_true_eq]; omega)) (hret _ _ d_Un_mayStandInShortName_165)
          by_cases c_62 : u = 41
          · skip
            refine lv_lookup (off := 137) (tgt := 164) hx hb d_Un_mayStandInShortName_27 (by decide) (by rw [c_62]; decide) (by decide) ?_
            refine lv_iconst (v := nI 1) hx hb d_Un_mayStandInShortName_164 (by decide) ?_
            exact mk_ti (by exact mk_bt (by simp only [okS, decide_eq_true_eq]; omega)) (hret _ _ d_Un_mayStandInShortName_165)
          by_cases c_63 : u = 45
          · skip
            refine lv_lookup (off := 137) (tgt := 164) hx hb d_Un_mayStandInShortName_27 (by decide) (by rw [c_63]; decide) (by decide) ?_
            refine lv_iconst (v := nI 1) hx hb d_Un_mayStandInShortName_164 (by decide) ?_
            exact mk_ti (by exact mk_bt (by simp only [okS, decide_eq_true_eq]; omega)) (hret _ _ d_Un_mayStandInShortName_165)
          by_cases c_64 : u = 64
          · skip
            refine lv_lookup (off := 137) (tgt := 164) hx hb d_Un_mayStandInShortName_27 (by decide) (by rw [c_64]; decide) (by decide) ?_
            refine lv_iconst (v := nI 1) hx hb d_Un_mayStandInShortName_164 (by decide) ?_
            exact mk_ti (by exact mk_bt (by simp only [okS, decide_eq_true_eq]; omega)) (hret _ _ d_Un_mayStandInShortName_165)
          by_cases c_65 : u = 94
          · skip
            refine lv_lookup (off := 137) (tgt := 164) hx hb d_Un_mayStandInShortName_27 (by decide) (by rw [c_65]; decide) (by decide) ?_
            refine lv_iconst (v := nI 1) hx hb d_Un_mayStandInShortName_164 (by decide) ?_
            exact mk_ti (by exact mk_bt (by simp only [okS, decide_eq_true_eq]; omega)) (hret _ _ d_Un_mayStandInShortName_165)
          by_cases c_66 : u = 95
          · skip
            refine lv_lookup (off := 137) (tgt := 164) hx hb d_Un_mayStandInShortName_27 (by decide) (by rw [c_66]; decide) (by decide) ?_
            refine lv_iconst (v := nI 1) hx hb d_Un_mayStandInShortName_164 (by decide) ?_
            exact mk_ti (by exact mk_bt (by simp only [okS, decide_eq_true_eq]; omega)) (hret _ _ d_Un_mayStandInShortName_165)
          by_cases c_67 : u = 96
          · skip
            refine lv_lookup (off := 137) (tgt := 164) hx hb d_Un_mayStandInShortName_27 (by decide) (by rw [c_67]; decide) (by decide) ?_
            refine lv_iconst (v := nI 1) hx hb d_Un_mayStandInShortName_164 (by decide) ?_
            exact mk_ti (by exact mk_bt (by simp only [okS, decide_eq_true_eq]; omega)) (hret _ _ d_Un_mayStandInShortName_165)
          by_cases c_68 : u = 123
          · skip
            refine lv_lookup (off := 137) (tgt := 164) hx hb d_Un_mayStandInShortName_27 (by decide) (by rw [c_68]; decide) (by decide) ?_
            refine lv_iconst (v := nI 1) hx hb d_Un_mayStandInShortName_164 (by decide) ?_
            exact mk_ti (by exact mk_bt (by simp only [okS, decide_eq_true_eq]; omega)) (hret _ _ d_Un_mayStandInShortName_165)
          by_cases c_69 : u = 125
          · skip
            refine lv_lookup (off := 137) (tgt := 164) hx hb d_Un_mayStandInShortName_27 (by decide) (by rw [c_69]; decide) (by decide) ?_
            refine lv_iconst (v := nI 1) hx hb d_Un_mayStandInShortName_164 (by decide) ?_
            exact mk_ti (by exact mk_bt (by simp only [okS, decide_eq_true_eq]; omega)) (hret _ _ d_Un_mayStandInShortName_165)
          by_cases c_70 : u = 126
          · skip
            refine lv_lookup (off := 137) (tgt := 164) hx hb d_Un_mayStandInShortName_27 (by decide) (by rw [c_70]; decide) (by decide) ?_
            refine lv_iconst (v := nI 1) hx hb d_Un_mayStandInShortName_164 (by decide) ?_
            exact mk_ti (by exact mk_bt (by simp only [okS, decide_eq_true_eq]; omega)) (hret _ _ d_Un_mayStandInShortName_165)
          refine lv_lookup (off := 139) (tgt := 166) hx hb d_Un_mayStandInShortName_27 (by decide) (by show Op.lookupswitch.offset [(33, 137), (35, 137), (36, 137), (37, 137), (38, 137), (39, 137), (40, 137), (41, 137), (45, 137), (64, 137), (94, 137), (95, 137), (96, 137), (123, 137), (125, 137), (126, 137)] 139 (nI u).toInt = 139; rw [lv_osw (mk_ne c_55 (by omega) (by decide)) (by decide)]; rw [lv_osw (mk_ne c_56 (by omega) (by decide)) (by decide)]; rw [lv_osw (mk_ne c_57 (by omega) (by decide)) (by decide)]; rw [lv_osw (mk_ne c_58 (by omega) (by decide)) (by decide)]; rw [lv_osw (mk_ne c_59 (by omega) (by decide)) (by decide)]; rw [lv_osw (mk_ne c_60 (by omega) (by decide)) (by decide)]; rw [lv_osw (mk_ne c_61 (by omega) (by decide)) (by decide)]; rw [lv_osw (mk_ne c_62 (by omega) (by decide)) (by decide)]; rw [lv_osw (mk_ne c_63 (by omega) (by decide)) (by decide)]; rw [lv_osw (mk_ne c_64 (by omega) (by decide)) (by decide)]; rw [lv_osw (mk_ne c_65 (by omega) (by decide)) (by decide)]; rw [lv_osw (mk_ne c_66 (by omega) (by decide)) (by decide)]; rw [lv_osw (mk_ne c_67 (by omega) (by decide)) (by decide)]; rw [lv_osw (mk_ne c_68 (by omega) (by decide)) (by decide)]; rw [lv_osw (mk_ne c_69 (by omega) (by decide)) (by decide)]; rw [lv_osw (mk_ne c_70 (by omega) (by decide)) (by decide)]; rfl) (by decide) ?_
          refine lv_iconst (v := nI 0) hx hb d_Un_mayStandInShortName_166 (by decide) ?_
          exact mk_ti (by exact mk_bf (by simp only [okS, decide_eq_false_iff_not]; omega)) (hret _ _ d_Un_mayStandInShortName_167)
        · skip
          rw [nI_ltI (by omega) (by omega)] at c_54
          refine lv_iconst (v := nI 1) hx hb d_Un_mayStandInShortName_24 (by decide) ?_
          exact mk_ti (by exact mk_bt (by simp only [okS, decide_eq_true_eq]; omega)) (hret _ _ d_Un_mayStandInShortName_25)

set_option maxHeartbeats 4000000 in
set_option maxRecDepth 100000 in
theorem c_Un_cap (l : Launch) (dC : Nat → ClassId) (dI : Nat → Nat → Nat) (cI : ClassId) (u : Nat) (hu : u < 65536) : mR l y_Un_capital w_Un_capital ({ frames := 0, cells := 0, slots := 0, locals := 0 } : Room) [.int (nI u)] (dC, dI) vwCl [(cI, .int)] [] (some (.int (nI (capN u)))) := by
  refine mk_Ri (cc := b_Un_capital) (maxL := 1) (by decide) rfl (Nat.le_of_ble_eq_true rfl) rfl ?_
  intro p e s m below meth c Q A ls S hP hK hT hS hl hret
  obtain ⟨hx, hb, hml, hown, hts⟩ := id S
  have hl : lv_has ls 1 [(0, .int (nI u))] := hl
  refine lv_iload_n hx hb d_Un_capital_0 rfl (lv_at hl 0 rfl) ?_
  refine lv_bipush (v := nI 97) hx hb d_Un_capital_1 (by decide) ?_
  refine lv_icmp_lt (tgt := 22) hx hb d_Un_capital_3 (by decide) (fun c_1 => ?_) (fun c_1 => ?_)
  · skip
    rw [nI_ltI (by omega) (by omega)] at c_1
    refine lv_iload_n hx hb d_Un_capital_22 rfl (lv_at hl 0 rfl) ?_
    exact mk_ti (by congr 1; unfold capN; (repeat' split) <;> omega) (hret _ _ d_Un_capital_23)
  · skip
    rw [nI_ltI (by omega) (by omega)] at c_1
    refine lv_iload_n hx hb d_Un_capital_6 rfl (lv_at hl 0 rfl) ?_
    refine lv_bipush (v := nI 122) hx hb d_Un_capital_7 (by decide) ?_
    refine lv_icmp_gt (tgt := 22) hx hb d_Un_capital_9 (by decide) (fun c_2 => ?_) (fun c_2 => ?_)
    · skip
      rw [nI_ltI (by omega) (by omega)] at c_2
      refine lv_iload_n hx hb d_Un_capital_22 rfl (lv_at hl 0 rfl) ?_
      exact mk_ti (by congr 1; unfold capN; (repeat' split) <;> omega) (hret _ _ d_Un_capital_23)
    · skip
      rw [nI_ltI (by omega) (by omega)] at c_2
      refine lv_iload_n hx hb d_Un_capital_12 rfl (lv_at hl 0 rfl) ?_
      refine lv_bipush (v := nI 97) hx hb d_Un_capital_13 (by decide) ?_
      refine lv_isub hx hb d_Un_capital_15 ?_
      refine mk_ti (y := nI (u - 97)) (pk_sub (by omega)) ?_
      refine lv_bipush (v := nI 65) hx hb d_Un_capital_16 (by decide) ?_
      refine lv_iadd hx hb d_Un_capital_18 ?_
      refine mk_ti (y := nI (u - 97 + 65)) (nI_add (u - 97) 65) ?_
      refine lv_goto (tgt := 23) hx hb d_Un_capital_19 (by decide) ?_
      exact mk_ti (by congr 1; unfold capN; (repeat' split) <;> omega) (hret _ _ d_Un_capital_23)

set_option maxHeartbeats 4000000 in
set_option maxRecDepth 100000 in
theorem c_Un_sho (l : Launch) (dC : Nat → ClassId) (dI : Nat → Nat → Nat) (cI : ClassId) (u : Nat) (hu : u < 65536) : mR l y_Un_shortened w_Un_shortened ({ frames := 1, cells := 0, slots := 0, locals := 20 } : Room) [.int (nI u)] (dC, dI) vwCl [(cI, .int)] [] (some (.int (nI (shoN u)))) := by
  have := capN_le u
  refine mk_Ri (cc := b_Un_shortened) (maxL := 2) (by decide) rfl (Nat.le_of_ble_eq_true rfl) rfl ?_
  intro p e s m below meth c Q A ls S hP hK hT hS hl hret
  obtain ⟨hx, hb, hml, hown, hts⟩ := id S
  have hl : lv_has ls 2 [(0, .int (nI u))] := hl
  refine lv_iload_n hx hb d_Un_shortened_0 rfl (lv_at hl 0 rfl) ?_
  refine mk_r1 (W.runS (As := [.int (nI u)]) (rest := []) S (c_Un_cap l dC dI cI u (by first | assumption | omega)) (gS 1 hts k_389 k_193 k_30 k_194 (by decide +kernel) ⟨Nat.le_of_ble_eq_true rfl, Nat.le_of_ble_eq_true rfl⟩) (mk_sR hP hK hT hS [] rfl) rfl rfl hl.1 rfl (lv_room (Nat.le_of_ble_eq_true rfl)) d_Un_shortened_1 ⟨Nat.zero_le _, Nat.zero_le _⟩) ?_
  have b_1 := capN_le u
  refine lv_istore_n (lv' := [(1, .int (nI (capN u))), (0, .int (nI u))]) hx hb d_Un_shortened_4 rfl hl (by decide) rfl (fun ls hl => ?_)
  refine lv_iload_n hx hb d_Un_shortened_5 rfl (lv_at hl 0 rfl) ?_
  refine mk_r1 (W.runS (As := [.int (nI (capN u))]) (rest := []) S (c_Un_short l dC dI cI (capN u) (by first | assumption | omega)) (gS 1 hts k_390 k_159 k_30 k_160 (by decide +kernel) ⟨Nat.le_of_ble_eq_true rfl, Nat.le_of_ble_eq_true rfl⟩) (mk_sR hP hK hT hS [] rfl) rfl rfl hl.1 rfl (lv_room (Nat.le_of_ble_eq_true rfl)) d_Un_shortened_6 ⟨Nat.zero_le _, Nat.zero_le _⟩) ?_
  refine lv_if_eq (tgt := 16) hx hb d_Un_shortened_9 (by decide) (fun c_2 => ?_) (fun c_2 => ?_)
  · skip
    have c_2 := bI_0 c_2
    refine lv_bipush (v := nI 95) hx hb d_Un_shortened_16 (by decide) ?_
    exact mk_ti (by rw [shoN, if_neg (by simp [c_2])]) (hret _ _ d_Un_shortened_18)
  · skip
    have c_2 := bI_1 c_2
    refine lv_iload_n hx hb d_Un_shortened_12 rfl (lv_at hl 0 rfl) ?_
    refine lv_goto (tgt := 18) hx hb d_Un_shortened_13 (by decide) ?_
    exact mk_ti (by rw [shoN, if_pos (by simp [c_2])]) (hret _ _ d_Un_shortened_18)

set_option maxHeartbeats 4000000 in
set_option maxRecDepth 100000 in
theorem c_Un_wd (l : Launch) (dC : Nat → ClassId) (dI : Nat → Nat → Nat) (cI : ClassId) (u : Nat) (hu : u < 65536) : mR l y_Un_encodedWidth w_Un_encodedWidth ({ frames := 0, cells := 0, slots := 0, locals := 0 } : Room) [.int (nI u)] (dC, dI) vwCl [(cI, .int)] [] (some (.int (nI (wdN u)))) := by
  refine mk_Ri (cc := b_Un_encodedWidth) (maxL := 1) (by decide) rfl (Nat.le_of_ble_eq_true rfl) rfl ?_
  intro p e s m below meth c Q A ls S hP hK hT hS hl hret
  obtain ⟨hx, hb, hml, hown, hts⟩ := id S
  have hl : lv_has ls 1 [(0, .int (nI u))] := hl
  refine lv_iload_n hx hb d_Un_encodedWidth_0 rfl (lv_at hl 0 rfl) ?_
  refine lv_sipush (v := nI 128) hx hb d_Un_encodedWidth_1 (by decide) ?_
  refine lv_icmp_ge (tgt := 9) hx hb d_Un_encodedWidth_4 (by decide) (fun c_1 => ?_) (fun c_1 => ?_)
  · skip
    rw [nI_leI (by omega) (by omega)] at c_1
    refine lv_iload_n hx hb d_Un_encodedWidth_9 rfl (lv_at hl 0 rfl) ?_
    refine lv_sipush (v := nI 2048) hx hb d_Un_encodedWidth_10 (by decide) ?_
    refine lv_icmp_ge (tgt := 20) hx hb d_Un_encodedWidth_13 (by decide) (fun c_2 => ?_) (fun c_2 => ?_)
    · skip
      rw [nI_leI (by omega) (by omega)] at c_2
      refine lv_iconst (v := nI 3) hx hb d_Un_encodedWidth_20 (by decide) ?_
      exact mk_ti (by congr 1; unfold wdN; (repeat' split) <;> omega) (hret _ _ d_Un_encodedWidth_21)
    · skip
      rw [nI_leI (by omega) (by omega)] at c_2
      refine lv_iconst (v := nI 2) hx hb d_Un_encodedWidth_16 (by decide) ?_
      refine lv_goto (tgt := 21) hx hb d_Un_encodedWidth_17 (by decide) ?_
      exact mk_ti (by congr 1; unfold wdN; (repeat' split) <;> omega) (hret _ _ d_Un_encodedWidth_21)
  · skip
    rw [nI_leI (by omega) (by omega)] at c_1
    refine lv_iconst (v := nI 1) hx hb d_Un_encodedWidth_7 (by decide) ?_
    exact mk_ti (by congr 1; unfold wdN; (repeat' split) <;> omega) (hret _ _ d_Un_encodedWidth_8)

set_option maxHeartbeats 4000000 in
set_option maxRecDepth 100000 in
theorem c_Un_eb1 (l : Launch) (dC : Nat → ClassId) (dI : Nat → Nat → Nat) (cI : ClassId) (u : Nat) (hu : u < 65536) (hu1 : u < 128) : mR l y_Un_encodedByte w_Un_encodedByte ({ frames := 1, cells := 0, slots := 0, locals := 20 } : Room) [.int (nI u), .int (nI 0)] (dC, dI) vwCl [(cI, .int)] [] (some (.int (nI (u)))) := by
  refine mk_Ri (cc := b_Un_encodedByte) (maxL := 4) (by decide) rfl (Nat.le_of_ble_eq_true rfl) rfl ?_
  intro p e s m below meth c Q A ls S hP hK hT hS hl hret
  obtain ⟨hx, hb, hml, hown, hts⟩ := id S
  have hl : lv_has ls 4 [(0, .int (nI u)), (1, .int (nI 0))] := hl
  refine lv_iload_n hx hb d_Un_encodedByte_0 rfl (lv_at hl 0 rfl) ?_
  refine mk_r1 (W.runS (As := [.int (nI u)]) (rest := []) S (c_Un_wd l dC dI cI u (by first | assumption | omega)) (gS 1 hts k_183 k_170 k_30 k_171 (by decide +kernel) ⟨Nat.le_of_ble_eq_true rfl, Nat.le_of_ble_eq_true rfl⟩) (mk_sR hP hK hT hS [] rfl) rfl rfl hl.1 rfl (lv_room (Nat.le_of_ble_eq_true rfl)) d_Un_encodedByte_1 ⟨Nat.zero_le _, Nat.zero_le _⟩) ?_
  refine mk_ti (y := nI 1) (by rw [show wdN u = 1 from (by unfold wdN; (repeat' split) <;> omega)]) ?_
  have b_1 := wdN_in u
  refine lv_istore_n (lv' := [(2, .int (nI 1)), (0, .int (nI u)), (1, .int (nI 0))]) hx hb d_Un_encodedByte_4 rfl hl (by decide) rfl (fun ls hl => ?_)
  refine lv_iload_n hx hb d_Un_encodedByte_5 rfl (lv_at hl 0 rfl) ?_
  refine lv_iconst (v := nI 1) hx hb d_Un_encodedByte_6 (by decide) ?_
  refine lv_icmp_ne (tgt := 12) hx hb d_Un_encodedByte_7 (by decide) (fun c_2 => ?_) (fun c_2 => ?_)
  · skip
    rw [nI_eq (by omega) (by omega)] at c_2
    omega
  · skip
    rw [nI_eq (by omega) (by omega)] at c_2
    refine lv_iload_n hx hb d_Un_encodedByte_10 rfl (lv_at hl 1 rfl) ?_
    exact mk_ti (by rfl) (hret _ _ d_Un_encodedByte_11)

set_option maxHeartbeats 4000000 in
set_option maxRecDepth 100000 in
theorem c_Un_eb20 (l : Launch) (dC : Nat → ClassId) (dI : Nat → Nat → Nat) (cI : ClassId) (u : Nat) (hu : u < 65536) (hu1 : 128 ≤ u ∧ u < 2048) : mR l y_Un_encodedByte w_Un_encodedByte ({ frames := 1, cells := 0, slots := 0, locals := 20 } : Room) [.int (nI u), .int (nI 0)] (dC, dI) vwCl [(cI, .int)] [] (some (.int (nI (192 + u / 2 ^ 6)))) := by
  refine mk_Ri (cc := b_Un_encodedByte) (maxL := 4) (by decide) rfl (Nat.le_of_ble_eq_true rfl) rfl ?_
  intro p e s m below meth c Q A ls S hP hK hT hS hl hret
  obtain ⟨hx, hb, hml, hown, hts⟩ := id S
  have hl : lv_has ls 4 [(0, .int (nI u)), (1, .int (nI 0))] := hl
  refine lv_iload_n hx hb d_Un_encodedByte_0 rfl (lv_at hl 0 rfl) ?_
  refine mk_r1 (W.runS (As := [.int (nI u)]) (rest := []) S (c_Un_wd l dC dI cI u (by first | assumption | omega)) (gS 1 hts k_183 k_170 k_30 k_171 (by decide +kernel) ⟨Nat.le_of_ble_eq_true rfl, Nat.le_of_ble_eq_true rfl⟩) (mk_sR hP hK hT hS [] rfl) rfl rfl hl.1 rfl (lv_room (Nat.le_of_ble_eq_true rfl)) d_Un_encodedByte_1 ⟨Nat.zero_le _, Nat.zero_le _⟩) ?_
  refine mk_ti (y := nI 2) (by rw [show wdN u = 2 from (by unfold wdN; (repeat' split) <;> omega)]) ?_
  have b_1 := wdN_in u
  refine lv_istore_n (lv' := [(2, .int (nI 2)), (0, .int (nI u)), (1, .int (nI 0))]) hx hb d_Un_encodedByte_4 rfl hl (by decide) rfl (fun ls hl => ?_)
  refine lv_iload_n hx hb d_Un_encodedByte_5 rfl (lv_at hl 0 rfl) ?_
  refine lv_iconst (v := nI 1) hx hb d_Un_encodedByte_6 (by decide) ?_
  refine lv_icmp_ne (tgt := 12) hx hb d_Un_encodedByte_7 (by decide) (fun c_2 => ?_) (fun c_2 => ?_)
  · skip
    rw [nI_eq (by omega) (by omega)] at c_2
    refine lv_iload_n hx hb d_Un_encodedByte_12 rfl (lv_at hl 1 rfl) ?_
    refine lv_bipush (v := nI 6) hx hb d_Un_encodedByte_13 (by decide) ?_
    refine lv_iload_n hx hb d_Un_encodedByte_15 rfl (lv_at hl 0 rfl) ?_
    refine lv_iconst (v := nI 1) hx hb d_Un_encodedByte_16 (by decide) ?_
    refine lv_isub hx hb d_Un_encodedByte_17 ?_
    refine mk_ti (y := nI 1) (pk_sub (by omega)) ?_
    refine lv_iload_n hx hb d_Un_encodedByte_18 rfl (lv_at hl 2 rfl) ?_
    refine lv_isub hx hb d_Un_encodedByte_19 ?_
    refine mk_ti (y := nI 1) (pk_sub (by omega)) ?_
    refine lv_imul hx hb d_Un_encodedByte_20 ?_
    refine mk_ti (y := nI 6) (by decide) ?_
    refine lv_ishr hx hb d_Un_encodedByte_21 ?_
    refine mk_ti (y := nI (u / 2 ^ 6)) (pk_shrN (by omega) _ 6 (by decide)) ?_
    refine lv_istore_n (lv' := [(3, .int (nI (u / 2 ^ 6))), (2, .int (nI 2)), (0, .int (nI u)), (1, .int (nI 0))]) hx hb d_Un_encodedByte_22 rfl hl (by decide) rfl (fun ls hl => ?_)
    refine lv_iload_n hx hb d_Un_encodedByte_23 rfl (lv_at hl 3 rfl) ?_
    refine lv_if_le (tgt := 36) hx hb d_Un_encodedByte_24 (by decide) (fun c_3 => ?_) (fun c_3 => ?_)
    · skip
      rw [mk_cle (by omega)] at c_3
      refine lv_iload_n hx hb d_Un_encodedByte_36 rfl (lv_at hl 1 rfl) ?_
      refine lv_iconst (v := nI 2) hx hb d_Un_encodedByte_37 (by decide) ?_
      refine lv_icmp_ne (tgt := 47) hx hb d_Un_encodedByte_38 (by decide) (fun c_4 => ?_) (fun c_4 => ?_)
      · skip
        rw [nI_eq (by omega) (by omega)] at c_4
        omega
      · skip
        rw [nI_eq (by omega) (by omega)] at c_4
        refine lv_sipush (v := nI 192) hx hb d_Un_encodedByte_41 (by decide) ?_
        refine lv_goto (tgt := 50) hx hb d_Un_encodedByte_44 (by decide) ?_
        refine lv_iload_n hx hb d_Un_encodedByte_50 rfl (lv_at hl 0 rfl) ?_
        refine lv_iadd hx hb d_Un_encodedByte_51 ?_
        refine mk_ti (y := nI (192 + u / 2 ^ 6)) (nI_add 192 (u / 2 ^ 6)) ?_
        exact hret _ _ d_Un_encodedByte_52
    · skip
      rw [mk_cle (by omega)] at c_3
      omega
  · skip
    rw [nI_eq (by omega) (by omega)] at c_2
    omega

set_option maxHeartbeats 4000000 in
set_option maxRecDepth 100000 in
theorem c_Un_eb21 (l : Launch) (dC : Nat → ClassId) (dI : Nat → Nat → Nat) (cI : ClassId) (u : Nat) (hu : u < 65536) (hu1 : 128 ≤ u ∧ u < 2048) : mR l y_Un_encodedByte w_Un_encodedByte ({ frames := 1, cells := 0, slots := 0, locals := 20 } : Room) [.int (nI u), .int (nI 1)] (dC, dI) vwCl [(cI, .int)] [] (some (.int (nI (128 + u / 2 ^ 0 % 2 ^ 6)))) := by
  refine mk_Ri (cc := b_Un_encodedByte) (maxL := 4) (by decide) rfl (Nat.le_of_ble_eq_true rfl) rfl ?_
  intro p e s m below meth c Q A ls S hP hK hT hS hl hret
  obtain ⟨hx, hb, hml, hown, hts⟩ := id S
  have hl : lv_has ls 4 [(0, .int (nI u)), (1, .int (nI 1))] := hl
  refine lv_iload_n hx hb d_Un_encodedByte_0 rfl (lv_at hl 0 rfl) ?_
  refine mk_r1 (W.runS (As := [.int (nI u)]) (rest := []) S (c_Un_wd l dC dI cI u (by first | assumption | omega)) (gS 1 hts k_183 k_170 k_30 k_171 (by decide +kernel) ⟨Nat.le_of_ble_eq_true rfl, Nat.le_of_ble_eq_true rfl⟩) (mk_sR hP hK hT hS [] rfl) rfl rfl hl.1 rfl (lv_room (Nat.le_of_ble_eq_true rfl)) d_Un_encodedByte_1 ⟨Nat.zero_le _, Nat.zero_le _⟩) ?_
  refine mk_ti (y := nI 2) (by rw [show wdN u = 2 from (by unfold wdN; (repeat' split) <;> omega)]) ?_
  have b_1 := wdN_in u
  refine lv_istore_n (lv' := [(2, .int (nI 2)), (0, .int (nI u)), (1, .int (nI 1))]) hx hb d_Un_encodedByte_4 rfl hl (by decide) rfl (fun ls hl => ?_)
  refine lv_iload_n hx hb d_Un_encodedByte_5 rfl (lv_at hl 0 rfl) ?_
  refine lv_iconst (v := nI 1) hx hb d_Un_encodedByte_6 (by decide) ?_
  refine lv_icmp_ne (tgt := 12) hx hb d_Un_encodedByte_7 (by decide) (fun c_2 => ?_) (fun c_2 => ?_)
  · skip
    rw [nI_eq (by omega) (by omega)] at c_2
    refine lv_iload_n hx hb d_Un_encodedByte_12 rfl (lv_at hl 1 rfl) ?_
    refine lv_bipush (v := nI 6) hx hb d_Un_encodedByte_13 (by decide) ?_
    refine lv_iload_n hx hb d_Un_encodedByte_15 rfl (lv_at hl 0 rfl) ?_
    refine lv_iconst (v := nI 1) hx hb d_Un_encodedByte_16 (by decide) ?_
    refine lv_isub hx hb d_Un_encodedByte_17 ?_
    refine mk_ti (y := nI 1) (pk_sub (by omega)) ?_
    refine lv_iload_n hx hb d_Un_encodedByte_18 rfl (lv_at hl 2 rfl) ?_
    refine lv_isub hx hb d_Un_encodedByte_19 ?_
    refine mk_ti (y := nI 0) (pk_sub (by omega)) ?_
    refine lv_imul hx hb d_Un_encodedByte_20 ?_
    refine mk_ti (y := nI 0) (by decide) ?_
    refine lv_ishr hx hb d_Un_encodedByte_21 ?_
    refine mk_ti (y := nI (u / 2 ^ 0)) (pk_shrN (by omega) _ 0 (by decide)) ?_
    refine lv_istore_n (lv' := [(3, .int (nI (u / 2 ^ 0))), (2, .int (nI 2)), (0, .int (nI u)), (1, .int (nI 1))]) hx hb d_Un_encodedByte_22 rfl hl (by decide) rfl (fun ls hl => ?_)
    refine lv_iload_n hx hb d_Un_encodedByte_23 rfl (lv_at hl 3 rfl) ?_
    refine lv_if_le (tgt := 36) hx hb d_Un_encodedByte_24 (by decide) (fun c_3 => ?_) (fun c_3 => ?_)
    · skip
      rw [mk_cle (by omega)] at c_3
      omega
    · skip
      rw [mk_cle (by omega)] at c_3
      refine lv_sipush (v := nI 128) hx hb d_Un_encodedByte_27 (by decide) ?_
      refine lv_iload_n hx hb d_Un_encodedByte_30 rfl (lv_at hl 0 rfl) ?_
      refine lv_bipush (v := nI 63) hx hb d_Un_encodedByte_31 (by decide) ?_
      refine lv_iand hx hb d_Un_encodedByte_33 ?_
      refine mk_ti (y := nI (u / 2 ^ 0 % 2 ^ 6)) (pk_andN (by omega) 6 (by decide)) ?_
      refine lv_iadd hx hb d_Un_encodedByte_34 ?_
      refine mk_ti (y := nI (128 + u / 2 ^ 0 % 2 ^ 6)) (nI_add 128 (u / 2 ^ 0 % 2 ^ 6)) ?_
      exact hret _ _ d_Un_encodedByte_35
  · skip
    rw [nI_eq (by omega) (by omega)] at c_2
    omega

set_option maxHeartbeats 4000000 in
set_option maxRecDepth 100000 in
theorem c_Un_eb30 (l : Launch) (dC : Nat → ClassId) (dI : Nat → Nat → Nat) (cI : ClassId) (u : Nat) (hu : u < 65536) (hu1 : 2048 ≤ u) : mR l y_Un_encodedByte w_Un_encodedByte ({ frames := 1, cells := 0, slots := 0, locals := 20 } : Room) [.int (nI u), .int (nI 0)] (dC, dI) vwCl [(cI, .int)] [] (some (.int (nI (224 + u / 2 ^ 12)))) := by
  refine mk_Ri (cc := b_Un_encodedByte) (maxL := 4) (by decide) rfl (Nat.le_of_ble_eq_true rfl) rfl ?_
  intro p e s m below meth c Q A ls S hP hK hT hS hl hret
  obtain ⟨hx, hb, hml, hown, hts⟩ := id S
  have hl : lv_has ls 4 [(0, .int (nI u)), (1, .int (nI 0))] := hl
  refine lv_iload_n hx hb d_Un_encodedByte_0 rfl (lv_at hl 0 rfl) ?_
  refine mk_r1 (W.runS (As := [.int (nI u)]) (rest := []) S (c_Un_wd l dC dI cI u (by first | assumption | omega)) (gS 1 hts k_183 k_170 k_30 k_171 (by decide +kernel) ⟨Nat.le_of_ble_eq_true rfl, Nat.le_of_ble_eq_true rfl⟩) (mk_sR hP hK hT hS [] rfl) rfl rfl hl.1 rfl (lv_room (Nat.le_of_ble_eq_true rfl)) d_Un_encodedByte_1 ⟨Nat.zero_le _, Nat.zero_le _⟩) ?_
  refine mk_ti (y := nI 3) (by rw [show wdN u = 3 from (by unfold wdN; (repeat' split) <;> omega)]) ?_
  have b_1 := wdN_in u
  refine lv_istore_n (lv' := [(2, .int (nI 3)), (0, .int (nI u)), (1, .int (nI 0))]) hx hb d_Un_encodedByte_4 rfl hl (by decide) rfl (fun ls hl => ?_)
  refine lv_iload_n hx hb d_Un_encodedByte_5 rfl (lv_at hl 0 rfl) ?_
  refine lv_iconst (v := nI 1) hx hb d_Un_encodedByte_6 (by decide) ?_
  refine lv_icmp_ne (tgt := 12) hx hb d_Un_encodedByte_7 (by decide) (fun c_2 => ?_) (fun c_2 => ?_)
  · skip
    rw [nI_eq (by omega) (by omega)] at c_2
    refine lv_iload_n hx hb d_Un_encodedByte_12 rfl (lv_at hl 1 rfl) ?_
    refine lv_bipush (v := nI 6) hx hb d_Un_encodedByte_13 (by decide) ?_
    refine lv_iload_n hx hb d_Un_encodedByte_15 rfl (lv_at hl 0 rfl) ?_
    refine lv_iconst (v := nI 1) hx hb d_Un_encodedByte_16 (by decide) ?_
    refine lv_isub hx hb d_Un_encodedByte_17 ?_
    refine mk_ti (y := nI 2) (pk_sub (by omega)) ?_
    refine lv_iload_n hx hb d_Un_encodedByte_18 rfl (lv_at hl 2 rfl) ?_
    refine lv_isub hx hb d_Un_encodedByte_19 ?_
    refine mk_ti (y := nI 2) (pk_sub (by omega)) ?_
    refine lv_imul hx hb d_Un_encodedByte_20 ?_
    refine mk_ti (y := nI 12) (by decide) ?_
    refine lv_ishr hx hb d_Un_encodedByte_21 ?_
    refine mk_ti (y := nI (u / 2 ^ 12)) (pk_shrN (by omega) _ 12 (by decide)) ?_
    refine lv_istore_n (lv' := [(3, .int (nI (u / 2 ^ 12))), (2, .int (nI 3)), (0, .int (nI u)), (1, .int (nI 0))]) hx hb d_Un_encodedByte_22 rfl hl (by decide) rfl (fun ls hl => ?_)
    refine lv_iload_n hx hb d_Un_encodedByte_23 rfl (lv_at hl 3 rfl) ?_
    refine lv_if_le (tgt := 36) hx hb d_Un_encodedByte_24 (by decide) (fun c_3 => ?_) (fun c_3 => ?_)
    · skip
      rw [mk_cle (by omega)] at c_3
      refine lv_iload_n hx hb d_Un_encodedByte_36 rfl (lv_at hl 1 rfl) ?_
      refine lv_iconst (v := nI 2) hx hb d_Un_encodedByte_37 (by decide) ?_
      refine lv_icmp_ne (tgt := 47) hx hb d_Un_encodedByte_38 (by decide) (fun c_4 => ?_) (fun c_4 => ?_)
      · skip
        rw [nI_eq (by omega) (by omega)] at c_4
        refine lv_sipush (v := nI 224) hx hb d_Un_encodedByte_47 (by decide) ?_
        refine lv_iload_n hx hb d_Un_encodedByte_50 rfl (lv_at hl 0 rfl) ?_
        refine lv_iadd hx hb d_Un_encodedByte_51 ?_
        refine mk_ti (y := nI (224 + u / 2 ^ 12)) (nI_add 224 (u / 2 ^ 12)) ?_
        exact hret _ _ d_Un_encodedByte_52
      · skip
        rw [nI_eq (by omega) (by omega)] at c_4
        omega
    · skip
      rw [mk_cle (by omega)] at c_3
      omega
  · skip
    rw [nI_eq (by omega) (by omega)] at c_2
    omega

set_option maxHeartbeats 4000000 in
set_option maxRecDepth 100000 in
theorem c_Un_eb31 (l : Launch) (dC : Nat → ClassId) (dI : Nat → Nat → Nat) (cI : ClassId) (u : Nat) (hu : u < 65536) (hu1 : 2048 ≤ u) : mR l y_Un_encodedByte w_Un_encodedByte ({ frames := 1, cells := 0, slots := 0, locals := 20 } : Room) [.int (nI u), .int (nI 1)] (dC, dI) vwCl [(cI, .int)] [] (some (.int (nI (128 + u / 2 ^ 6 % 2 ^ 6)))) := by
  refine mk_Ri (cc := b_Un_encodedByte) (maxL := 4) (by decide) rfl (Nat.le_of_ble_eq_true rfl) rfl ?_
  intro p e s m below meth c Q A ls S hP hK hT hS hl hret
  obtain ⟨hx, hb, hml, hown, hts⟩ := id S
  have hl : lv_has ls 4 [(0, .int (nI u)), (1, .int (nI 1))] := hl
  refine lv_iload_n hx hb d_Un_encodedByte_0 rfl (lv_at hl 0 rfl) ?_
  refine mk_r1 (W.runS (As := [.int (nI u)]) (rest := []) S (c_Un_wd l dC dI cI u (by first | assumption | omega)) (gS 1 hts k_183 k_170 k_30 k_171 (by decide +kernel) ⟨Nat.le_of_ble_eq_true rfl, Nat.le_of_ble_eq_true rfl⟩) (mk_sR hP hK hT hS [] rfl) rfl rfl hl.1 rfl (lv_room (Nat.le_of_ble_eq_true rfl)) d_Un_encodedByte_1 ⟨Nat.zero_le _, Nat.zero_le _⟩) ?_
  refine mk_ti (y := nI 3) (by rw [show wdN u = 3 from (by unfold wdN; (repeat' split) <;> omega)]) ?_
  have b_1 := wdN_in u
  refine lv_istore_n (lv' := [(2, .int (nI 3)), (0, .int (nI u)), (1, .int (nI 1))]) hx hb d_Un_encodedByte_4 rfl hl (by decide) rfl (fun ls hl => ?_)
  refine lv_iload_n hx hb d_Un_encodedByte_5 rfl (lv_at hl 0 rfl) ?_
  refine lv_iconst (v := nI 1) hx hb d_Un_encodedByte_6 (by decide) ?_
  refine lv_icmp_ne (tgt := 12) hx hb d_Un_encodedByte_7 (by decide) (fun c_2 => ?_) (fun c_2 => ?_)
  · skip
    rw [nI_eq (by omega) (by omega)] at c_2
    refine lv_iload_n hx hb d_Un_encodedByte_12 rfl (lv_at hl 1 rfl) ?_
    refine lv_bipush (v := nI 6) hx hb d_Un_encodedByte_13 (by decide) ?_
    refine lv_iload_n hx hb d_Un_encodedByte_15 rfl (lv_at hl 0 rfl) ?_
    refine lv_iconst (v := nI 1) hx hb d_Un_encodedByte_16 (by decide) ?_
    refine lv_isub hx hb d_Un_encodedByte_17 ?_
    refine mk_ti (y := nI 2) (pk_sub (by omega)) ?_
    refine lv_iload_n hx hb d_Un_encodedByte_18 rfl (lv_at hl 2 rfl) ?_
    refine lv_isub hx hb d_Un_encodedByte_19 ?_
    refine mk_ti (y := nI 1) (pk_sub (by omega)) ?_
    refine lv_imul hx hb d_Un_encodedByte_20 ?_
    refine mk_ti (y := nI 6) (by decide) ?_
    refine lv_ishr hx hb d_Un_encodedByte_21 ?_
    refine mk_ti (y := nI (u / 2 ^ 6)) (pk_shrN (by omega) _ 6 (by decide)) ?_
    refine lv_istore_n (lv' := [(3, .int (nI (u / 2 ^ 6))), (2, .int (nI 3)), (0, .int (nI u)), (1, .int (nI 1))]) hx hb d_Un_encodedByte_22 rfl hl (by decide) rfl (fun ls hl => ?_)
    refine lv_iload_n hx hb d_Un_encodedByte_23 rfl (lv_at hl 3 rfl) ?_
    refine lv_if_le (tgt := 36) hx hb d_Un_encodedByte_24 (by decide) (fun c_3 => ?_) (fun c_3 => ?_)
    · skip
      rw [mk_cle (by omega)] at c_3
      omega
    · skip
      rw [mk_cle (by omega)] at c_3
      refine lv_sipush (v := nI 128) hx hb d_Un_encodedByte_27 (by decide) ?_
      refine lv_iload_n hx hb d_Un_encodedByte_30 rfl (lv_at hl 0 rfl) ?_
      refine lv_bipush (v := nI 63) hx hb d_Un_encodedByte_31 (by decide) ?_
      refine lv_iand hx hb d_Un_encodedByte_33 ?_
      refine mk_ti (y := nI (u / 2 ^ 6 % 2 ^ 6)) (pk_andN (by omega) 6 (by decide)) ?_
      refine lv_iadd hx hb d_Un_encodedByte_34 ?_
      refine mk_ti (y := nI (128 + u / 2 ^ 6 % 2 ^ 6)) (nI_add 128 (u / 2 ^ 6 % 2 ^ 6)) ?_
      exact hret _ _ d_Un_encodedByte_35
  · skip
    rw [nI_eq (by omega) (by omega)] at c_2
    omega

set_option maxHeartbeats 4000000 in
set_option maxRecDepth 100000 in
theorem c_Un_eb32 (l : Launch) (dC : Nat → ClassId) (dI : Nat → Nat → Nat) (cI : ClassId) (u : Nat) (hu : u < 65536) (hu1 : 2048 ≤ u) : mR l y_Un_encodedByte w_Un_encodedByte ({ frames := 1, cells := 0, slots := 0, locals := 20 } : Room) [.int (nI u), .int (nI 2)] (dC, dI) vwCl [(cI, .int)] [] (some (.int (nI (128 + u / 2 ^ 0 % 2 ^ 6)))) := by
  refine mk_Ri (cc := b_Un_encodedByte) (maxL := 4) (by decide) rfl (Nat.le_of_ble_eq_true rfl) rfl ?_
  intro p e s m below meth c Q A ls S hP hK hT hS hl hret
  obtain ⟨hx, hb, hml, hown, hts⟩ := id S
  have hl : lv_has ls 4 [(0, .int (nI u)), (1, .int (nI 2))] := hl
  refine lv_iload_n hx hb d_Un_encodedByte_0 rfl (lv_at hl 0 rfl) ?_
  refine mk_r1 (W.runS (As := [.int (nI u)]) (rest := []) S (c_Un_wd l dC dI cI u (by first | assumption | omega)) (gS 1 hts k_183 k_170 k_30 k_171 (by decide +kernel) ⟨Nat.le_of_ble_eq_true rfl, Nat.le_of_ble_eq_true rfl⟩) (mk_sR hP hK hT hS [] rfl) rfl rfl hl.1 rfl (lv_room (Nat.le_of_ble_eq_true rfl)) d_Un_encodedByte_1 ⟨Nat.zero_le _, Nat.zero_le _⟩) ?_
  refine mk_ti (y := nI 3) (by rw [show wdN u = 3 from (by unfold wdN; (repeat' split) <;> omega)]) ?_
  have b_1 := wdN_in u
  refine lv_istore_n (lv' := [(2, .int (nI 3)), (0, .int (nI u)), (1, .int (nI 2))]) hx hb d_Un_encodedByte_4 rfl hl (by decide) rfl (fun ls hl => ?_)
  refine lv_iload_n hx hb d_Un_encodedByte_5 rfl (lv_at hl 0 rfl) ?_
  refine lv_iconst (v := nI 1) hx hb d_Un_encodedByte_6 (by decide) ?_
  refine lv_icmp_ne (tgt := 12) hx hb d_Un_encodedByte_7 (by decide) (fun c_2 => ?_) (fun c_2 => ?_)
  · skip
    rw [nI_eq (by omega) (by omega)] at c_2
    refine lv_iload_n hx hb d_Un_encodedByte_12 rfl (lv_at hl 1 rfl) ?_
    refine lv_bipush (v := nI 6) hx hb d_Un_encodedByte_13 (by decide) ?_
    refine lv_iload_n hx hb d_Un_encodedByte_15 rfl (lv_at hl 0 rfl) ?_
    refine lv_iconst (v := nI 1) hx hb d_Un_encodedByte_16 (by decide) ?_
    refine lv_isub hx hb d_Un_encodedByte_17 ?_
    refine mk_ti (y := nI 2) (pk_sub (by omega)) ?_
    refine lv_iload_n hx hb d_Un_encodedByte_18 rfl (lv_at hl 2 rfl) ?_
    refine lv_isub hx hb d_Un_encodedByte_19 ?_
    refine mk_ti (y := nI 0) (pk_sub (by omega)) ?_
    refine lv_imul hx hb d_Un_encodedByte_20 ?_
    refine mk_ti (y := nI 0) (by decide) ?_
    refine lv_ishr hx hb d_Un_encodedByte_21 ?_
    refine mk_ti (y := nI (u / 2 ^ 0)) (pk_shrN (by omega) _ 0 (by decide)) ?_
    refine lv_istore_n (lv' := [(3, .int (nI (u / 2 ^ 0))), (2, .int (nI 3)), (0, .int (nI u)), (1, .int (nI 2))]) hx hb d_Un_encodedByte_22 rfl hl (by decide) rfl (fun ls hl => ?_)
    refine lv_iload_n hx hb d_Un_encodedByte_23 rfl (lv_at hl 3 rfl) ?_
    refine lv_if_le (tgt := 36) hx hb d_Un_encodedByte_24 (by decide) (fun c_3 => ?_) (fun c_3 => ?_)
    · skip
      rw [mk_cle (by omega)] at c_3
      omega
    · skip
      rw [mk_cle (by omega)] at c_3
      refine lv_sipush (v := nI 128) hx hb d_Un_encodedByte_27 (by decide) ?_
      refine lv_iload_n hx hb d_Un_encodedByte_30 rfl (lv_at hl 0 rfl) ?_
      refine lv_bipush (v := nI 63) hx hb d_Un_encodedByte_31 (by decide) ?_
      refine lv_iand hx hb d_Un_encodedByte_33 ?_
      refine mk_ti (y := nI (u / 2 ^ 0 % 2 ^ 6)) (pk_andN (by omega) 6 (by decide)) ?_
      refine lv_iadd hx hb d_Un_encodedByte_34 ?_
      refine mk_ti (y := nI (128 + u / 2 ^ 0 % 2 ^ 6)) (nI_add 128 (u / 2 ^ 0 % 2 ^ 6)) ?_
      exact hret _ _ d_Un_encodedByte_35
  · skip
    rw [nI_eq (by omega) (by omega)] at c_2
    omega

theorem c_Un_eb (l : Launch) (dC : Nat → ClassId) (dI : Nat → Nat → Nat) (cI : ClassId) (u t : Nat) (hu : u < 65536) (ht : t < wdN u) : mR l y_Un_encodedByte w_Un_encodedByte ({ frames := 1, cells := 0, slots := 0, locals := 20 } : Room) [.int (nI u), .int (nI t)] (dC, dI) vwCl [(cI, .int)] [] (some (.int (nI (ebN u t)))) := by
  have h6 : (t = 0 ∧ u < 128) ∨ (t = 0 ∧ 128 ≤ u ∧ u < 2048) ∨ (t = 1 ∧ 128 ≤ u ∧ u < 2048) ∨ (t = 0 ∧ 2048 ≤ u) ∨ (t = 1 ∧ 2048 ≤ u) ∨ (t = 2 ∧ 2048 ≤ u) := by
    revert ht; unfold wdN; (repeat' split) <;> omega
  rcases h6 with ⟨rfl, h7⟩ | ⟨rfl, h7⟩ | ⟨rfl, h7⟩ | ⟨rfl, h7⟩ | ⟨rfl, h7⟩ | ⟨rfl, h7⟩
  · rw [show ebN u 0 = u from (by unfold ebN; (repeat' split) <;> omega)]; exact c_Un_eb1 l dC dI cI u hu h7
  · rw [show ebN u 0 = 192 + u / 2 ^ 6 from (by unfold ebN; (repeat' split) <;> omega)]; exact c_Un_eb20 l dC dI cI u hu h7
  · rw [show ebN u 1 = 128 + u / 2 ^ 0 % 2 ^ 6 from (by unfold ebN; (repeat' split) <;> omega)]; exact c_Un_eb21 l dC dI cI u hu h7
  · rw [show ebN u 0 = 224 + u / 2 ^ 12 from (by unfold ebN; (repeat' split) <;> omega)]; exact c_Un_eb30 l dC dI cI u hu h7
  · rw [show ebN u 1 = 128 + u / 2 ^ 6 % 2 ^ 6 from (by unfold ebN; (repeat' split) <;> omega)]; exact c_Un_eb31 l dC dI cI u hu h7
  · rw [show ebN u 2 = 128 + u / 2 ^ 0 % 2 ^ 6 from (by unfold ebN; (repeat' split) <;> omega)]; exact c_Un_eb32 l dC dI cI u hu h7
end
section
set_option maxHeartbeats 4000000 in
set_option maxRecDepth 100000 in
theorem c_Sl_isN (l : Launch) (dC : Nat → ClassId) (dI : Nat → Nat → Nat) (cI : ClassId) (k : Nat) (hk : k < 32) : mR l y_Sl_isSlot w_Sl_isSlot ({ frames := 0, cells := 0, slots := 0, locals := 0 } : Room) [.int (nI k)] (dC, dI) vwCl [(cI, .int)] [] (some (.int (nI 1))) := by
  refine mk_Ri (cc := b_Sl_isSlot) (maxL := 1) (by decide) rfl (Nat.le_of_ble_eq_true rfl) (rfl) ?_
  intro p e s m below meth c Q A ls S hP hK hT hS hl hret
  obtain ⟨hx, hb, hml, hown, hts⟩ := id S
  have hl : lv_has ls 1 [(0, .int (nI k))] := hl
  refine lv_iload_n hx hb d_Sl_isSlot_0 rfl (lv_at hl 0 rfl) ?_
  refine lv_if_lt (tgt := 14) hx hb d_Sl_isSlot_1 (by decide) (fun c_1 => ?_) (fun c_1 => ?_)
  · skip
    rw [mk_clt (by omega)] at c_1
    first | omega | contradiction
  · skip
    rw [mk_clt (by omega)] at c_1
    refine lv_iload_n hx hb d_Sl_isSlot_4 rfl (lv_at hl 0 rfl) ?_
    refine lv_bipush (v := nI 32) hx hb d_Sl_isSlot_5 (by decide) ?_
    refine lv_icmp_ge (tgt := 14) hx hb d_Sl_isSlot_7 (by decide) (fun c_2 => ?_) (fun c_2 => ?_)
    · skip
      rw [nI_leI (by omega) (by omega)] at c_2
      first | omega | contradiction
    · skip
      rw [nI_leI (by omega) (by omega)] at c_2
      refine lv_iconst (v := nI 1) hx hb d_Sl_isSlot_10 (by decide) ?_
      refine lv_goto (tgt := 15) hx hb d_Sl_isSlot_11 (by decide) ?_
      exact hret _ _ d_Sl_isSlot_15

set_option maxHeartbeats 4000000 in
set_option maxRecDepth 100000 in
theorem c_Sl_isX (l : Launch) (dC : Nat → ClassId) (dI : Nat → Nat → Nat) (cI : ClassId) (x : Int32) (hk : x < 0 ∨ nI 32 ≤ x) : mR l y_Sl_isSlot w_Sl_isSlot ({ frames := 0, cells := 0, slots := 0, locals := 0 } : Room) [.int x] (dC, dI) vwCl [(cI, .int)] [] (some (.int (nI 0))) := by
  refine mk_Ri (cc := b_Sl_isSlot) (maxL := 1) (by decide) rfl (Nat.le_of_ble_eq_true rfl) (rfl) ?_
  intro p e s m below meth c Q A ls S hP hK hT hS hl hret
  obtain ⟨hx, hb, hml, hown, hts⟩ := id S
  have hl : lv_has ls 1 [(0, .int x)] := hl
  refine lv_iload_n hx hb d_Sl_isSlot_0 rfl (lv_at hl 0 rfl) ?_
  refine lv_if_lt (tgt := 14) hx hb d_Sl_isSlot_1 (by decide) (fun c_1 => ?_) (fun c_1 => ?_)
  · skip
    refine lv_iconst (v := nI 0) hx hb d_Sl_isSlot_14 (by decide) ?_
    first | exact hret _ _ d_Sl_isSlot_15 | (rcases hk with h9 | h9 <;> contradiction)
  · skip
    refine lv_iload_n hx hb d_Sl_isSlot_4 rfl (lv_at hl 0 rfl) ?_
    refine lv_bipush (v := nI 32) hx hb d_Sl_isSlot_5 (by decide) ?_
    refine lv_icmp_ge (tgt := 14) hx hb d_Sl_isSlot_7 (by decide) (fun c_2 => ?_) (fun c_2 => ?_)
    · skip
      refine lv_iconst (v := nI 0) hx hb d_Sl_isSlot_14 (by decide) ?_
      first | exact hret _ _ d_Sl_isSlot_15 | (rcases hk with h9 | h9 <;> contradiction)
    · skip
      refine lv_iconst (v := nI 1) hx hb d_Sl_isSlot_10 (by decide) ?_
      refine lv_goto (tgt := 15) hx hb d_Sl_isSlot_11 (by decide) ?_
      first | exact hret _ _ d_Sl_isSlot_15 | (rcases hk with h9 | h9 <;> contradiction)

set_option maxHeartbeats 4000000 in
set_option maxRecDepth 100000 in
theorem c_Sl_hasN (l : Launch) (dC : Nat → ClassId) (dI : Nat → Nat → Nat) (cI : ClassId) (k j : Nat) (hk : k < 32) (hj : j < 32) : mR l y_Sl_hasByte w_Sl_hasByte ({ frames := 1, cells := 0, slots := 0, locals := 20 } : Room) [.int (nI k), .int (nI j)] (dC, dI) vwCl [(cI, .int)] [] (some (.int (nI 1))) := by
  refine mk_Ri (cc := b_Sl_hasByte) (maxL := 2) (by decide) rfl (Nat.le_of_ble_eq_true rfl) (rfl) ?_
  intro p e s m below meth c Q A ls S hP hK hT hS hl hret
  obtain ⟨hx, hb, hml, hown, hts⟩ := id S
  have hl : lv_has ls 2 [(0, .int (nI k)), (1, .int (nI j))] := hl
  refine lv_iload_n hx hb d_Sl_hasByte_0 rfl (lv_at hl 0 rfl) ?_
  refine mk_r1 (W.runS (As := [.int (nI k)]) (rest := []) S (c_Sl_isN l dC dI cI k (by first | assumption | omega)) (gS 1 hts k_206 k_207 k_28 k_208 (by decide +kernel) ⟨Nat.le_of_ble_eq_true rfl, Nat.le_of_ble_eq_true rfl⟩) (mk_sR hP hK hT hS [] rfl) rfl rfl hl.1 rfl (lv_room (Nat.le_of_ble_eq_true rfl)) d_Sl_hasByte_1 ⟨Nat.zero_le _, Nat.zero_le _⟩) ?_
  refine lv_if_eq (tgt := 21) hx hb d_Sl_hasByte_4 (by decide) (fun c_1 => ?_) (fun c_1 => ?_)
  · skip
    rw [mk_ceq (by omega)] at c_1
    first | omega | contradiction
  · skip
    rw [mk_ceq (by omega)] at c_1
    refine lv_iload_n hx hb d_Sl_hasByte_7 rfl (lv_at hl 1 rfl) ?_
    refine lv_if_lt (tgt := 21) hx hb d_Sl_hasByte_8 (by decide) (fun c_2 => ?_) (fun c_2 => ?_)
    · skip
      rw [mk_clt (by omega)] at c_2
      first | omega | contradiction
    · skip
      rw [mk_clt (by omega)] at c_2
      refine lv_iload_n hx hb d_Sl_hasByte_11 rfl (lv_at hl 1 rfl) ?_
      refine lv_bipush (v := nI 32) hx hb d_Sl_hasByte_12 (by decide) ?_
      refine lv_icmp_ge (tgt := 21) hx hb d_Sl_hasByte_14 (by decide) (fun c_3 => ?_) (fun c_3 => ?_)
      · skip
        rw [nI_leI (by omega) (by omega)] at c_3
        first | omega | contradiction
      · skip
        rw [nI_leI (by omega) (by omega)] at c_3
        refine lv_iconst (v := nI 1) hx hb d_Sl_hasByte_17 (by decide) ?_
        refine lv_goto (tgt := 22) hx hb d_Sl_hasByte_18 (by decide) ?_
        exact hret _ _ d_Sl_hasByte_22

set_option maxHeartbeats 4000000 in
set_option maxRecDepth 100000 in
theorem c_Sl_hasY (l : Launch) (dC : Nat → ClassId) (dI : Nat → Nat → Nat) (cI : ClassId) (k : Nat) (x : Int32) (hk : k < 32) (hj : x < 0 ∨ nI 32 ≤ x) : mR l y_Sl_hasByte w_Sl_hasByte ({ frames := 1, cells := 0, slots := 0, locals := 20 } : Room) [.int (nI k), .int x] (dC, dI) vwCl [(cI, .int)] [] (some (.int (nI 0))) := by
  refine mk_Ri (cc := b_Sl_hasByte) (maxL := 2) (by decide) rfl (Nat.le_of_ble_eq_true rfl) (rfl) ?_
  intro p e s m below meth c Q A ls S hP hK hT hS hl hret
  obtain ⟨hx, hb, hml, hown, hts⟩ := id S
  have hl : lv_has ls 2 [(0, .int (nI k)), (1, .int x)] := hl
  refine lv_iload_n hx hb d_Sl_hasByte_0 rfl (lv_at hl 0 rfl) ?_
  refine mk_r1 (W.runS (As := [.int (nI k)]) (rest := []) S (c_Sl_isN l dC dI cI k (by first | assumption | omega)) (gS 1 hts k_206 k_207 k_28 k_208 (by decide +kernel) ⟨Nat.le_of_ble_eq_true rfl, Nat.le_of_ble_eq_true rfl⟩) (mk_sR hP hK hT hS [] rfl) rfl rfl hl.1 rfl (lv_room (Nat.le_of_ble_eq_true rfl)) d_Sl_hasByte_1 ⟨Nat.zero_le _, Nat.zero_le _⟩) ?_
  refine lv_if_eq (tgt := 21) hx hb d_Sl_hasByte_4 (by decide) (fun c_1 => ?_) (fun c_1 => ?_)
  · skip
    rw [mk_ceq (by omega)] at c_1
    first | omega | contradiction
  · skip
    rw [mk_ceq (by omega)] at c_1
    refine lv_iload_n hx hb d_Sl_hasByte_7 rfl (lv_at hl 1 rfl) ?_
    refine lv_if_lt (tgt := 21) hx hb d_Sl_hasByte_8 (by decide) (fun c_2 => ?_) (fun c_2 => ?_)
    · skip
      refine lv_iconst (v := nI 0) hx hb d_Sl_hasByte_21 (by decide) ?_
      first | exact hret _ _ d_Sl_hasByte_22 | (rcases hj with h9 | h9 <;> contradiction)
    · skip
      refine lv_iload_n hx hb d_Sl_hasByte_11 rfl (lv_at hl 1 rfl) ?_
      refine lv_bipush (v := nI 32) hx hb d_Sl_hasByte_12 (by decide) ?_
      refine lv_icmp_ge (tgt := 21) hx hb d_Sl_hasByte_14 (by decide) (fun c_3 => ?_) (fun c_3 => ?_)
      · skip
        refine lv_iconst (v := nI 0) hx hb d_Sl_hasByte_21 (by decide) ?_
        first | exact hret _ _ d_Sl_hasByte_22 | (rcases hj with h9 | h9 <;> contradiction)
      · skip
        refine lv_iconst (v := nI 1) hx hb d_Sl_hasByte_17 (by decide) ?_
        refine lv_goto (tgt := 22) hx hb d_Sl_hasByte_18 (by decide) ?_
        first | exact hret _ _ d_Sl_hasByte_22 | (rcases hj with h9 | h9 <;> contradiction)

set_option maxHeartbeats 4000000 in
set_option maxRecDepth 100000 in
theorem c_Sl_hasX (l : Launch) (dC : Nat → ClassId) (dI : Nat → Nat → Nat) (cI : ClassId) (x z : Int32) (hk : x < 0 ∨ nI 32 ≤ x) : mR l y_Sl_hasByte w_Sl_hasByte ({ frames := 1, cells := 0, slots := 0, locals := 20 } : Room) [.int x, .int z] (dC, dI) vwCl [(cI, .int)] [] (some (.int (nI 0))) := by
  refine mk_Ri (cc := b_Sl_hasByte) (maxL := 2) (by decide) rfl (Nat.le_of_ble_eq_true rfl) (rfl) ?_
  intro p e s m below meth c Q A ls S hP hK hT hS hl hret
  obtain ⟨hx, hb, hml, hown, hts⟩ := id S
  have hl : lv_has ls 2 [(0, .int x), (1, .int z)] := hl
  refine lv_iload_n hx hb d_Sl_hasByte_0 rfl (lv_at hl 0 rfl) ?_
  refine mk_r1 (W.runS (As := [.int x]) (rest := []) S (c_Sl_isX l dC dI cI x (by first | assumption | omega)) (gS 1 hts k_206 k_207 k_28 k_208 (by decide +kernel) ⟨Nat.le_of_ble_eq_true rfl, Nat.le_of_ble_eq_true rfl⟩) (mk_sR hP hK hT hS [] rfl) rfl rfl hl.1 rfl (lv_room (Nat.le_of_ble_eq_true rfl)) d_Sl_hasByte_1 ⟨Nat.zero_le _, Nat.zero_le _⟩) ?_
  refine lv_if_eq (tgt := 21) hx hb d_Sl_hasByte_4 (by decide) (fun c_1 => ?_) (fun c_1 => ?_)
  · skip
    rw [mk_ceq (by omega)] at c_1
    refine lv_iconst (v := nI 0) hx hb d_Sl_hasByte_21 (by decide) ?_
    exact hret _ _ d_Sl_hasByte_22
  · skip
    rw [mk_ceq (by omega)] at c_1
    first | omega | contradiction

set_option maxHeartbeats 4000000 in
set_option maxRecDepth 100000 in
theorem c_Sl_getN (l : Launch) (dC : Nat → ClassId) (dI : Nat → Nat → Nat) (cI : ClassId) (h a : Nat) (B : Nat → Nat) (k j : Nat) (hB : ∀ j, B j < 256) (hk : k < 32) (hj : j < 32) : mR l y_Sl_get w_Sl_get ({ frames := 2, cells := 0, slots := 0, locals := 41 } : Room) [.ref h, .int (nI k), .int (nI j)] (dC, dI) vwCl [(cI, .int)] [(h, .inr (4, [.ref a])), (a, .inl (cI, 1024, .inl (nf B)))] (some (.int (nI (B (k * 32 + j))))) := by
  refine mk_Ri (cc := b_Sl_get) (maxL := 3) (by decide) rfl (Nat.le_of_ble_eq_true rfl) rfl ?_
  intro p e s m below meth c Q A ls S hP hK hT hS hl hret
  obtain ⟨hx, hb, hml, hown, hts⟩ := id S
  have hl : lv_has ls 3 [(0, .ref h), (1, .int (nI k)), (2, .int (nI j))] := hl
  refine lv_iload_n hx hb d_Sl_get_0 rfl (lv_at hl 1 rfl) ?_
  refine lv_iload_n hx hb d_Sl_get_1 rfl (lv_at hl 2 rfl) ?_
  refine mk_r1 (W.runS (As := [.int (nI k), .int (nI j)]) (rest := []) S (c_Sl_hasN l dC dI cI k j (by first | assumption | omega) (by first | assumption | omega)) (gS 2 hts k_203 k_204 k_28 k_205 (by decide +kernel) ⟨Nat.le_of_ble_eq_true rfl, Nat.le_of_ble_eq_true rfl⟩) (mk_sR hP hK hT hS [] rfl) rfl rfl hl.1 rfl (lv_room (Nat.le_of_ble_eq_true rfl)) d_Sl_get_2 ⟨Nat.zero_le _, Nat.zero_le _⟩) ?_
  refine lv_if_eq (tgt := 22) hx hb d_Sl_get_5 (by decide) (fun c_1 => ?_) (fun c_1 => ?_)
  · skip
    rw [mk_ceq (by omega)] at c_1
    first | omega | contradiction
  · skip
    rw [mk_ceq (by omega)] at c_1
    refine lv_aload_n hx hb d_Sl_get_8 rfl (lv_at hl 0 rfl) ?_
    refine va_get (D := (dC, dI)) (ci := 4) (v := .ref a) (C := "LongNames$Slots") (T := F_Sl) (N := 1) hx hb hts (iw_Sl _) hown hK hP 0 rfl rfl 0 (by decide) (hts _ (List.mem_cons_of_mem _ k_87)) (fun _ h9 => h9) rfl d_Sl_get_9 ?_
    refine lv_iload_n hx hb d_Sl_get_12 rfl (lv_at hl 1 rfl) ?_
    refine lv_bipush (v := nI 32) hx hb d_Sl_get_13 (by decide) ?_
    refine lv_imul hx hb d_Sl_get_15 ?_
    refine mk_ti (y := nI (k * 32)) (pk_mul k 32) ?_
    refine lv_iload_n hx hb d_Sl_get_16 rfl (lv_at hl 2 rfl) ?_
    refine lv_iadd hx hb d_Sl_get_17 ?_
    refine mk_ti (y := nI (k * 32 + j)) (nI_add (k * 32) j) ?_
    refine va_iald hx hb hK hP 1 0 rfl rfl (vp_in_nI (N := 1024) (show k * 32 + j < 1024 by omega) (by decide)) d_Sl_get_18 ?_
    refine mk_ti (y := nI (B (k * 32 + j))) (by rw [nI_clamp (by omega)]; rfl) ?_
    refine lv_goto (tgt := 23) hx hb d_Sl_get_19 (by decide) ?_
    exact hret _ _ d_Sl_get_23

set_option maxHeartbeats 4000000 in
set_option maxRecDepth 100000 in
theorem c_Sl_getY (l : Launch) (dC : Nat → ClassId) (dI : Nat → Nat → Nat) (cI : ClassId) (h a : Nat) (B : Nat → Nat) (k : Nat) (x : Int32) (hk : k < 32) (hj : x < 0 ∨ nI 32 ≤ x) : mR l y_Sl_get w_Sl_get ({ frames := 2, cells := 0, slots := 0, locals := 41 } : Room) [.ref h, .int (nI k), .int x] (dC, dI) vwCl [(cI, .int)] [(h, .inr (4, [.ref a])), (a, .inl (cI, 1024, .inl (nf B)))] (some (.int (-1))) := by
  refine mk_Ri (cc := b_Sl_get) (maxL := 3) (by decide) rfl (Nat.le_of_ble_eq_true rfl) rfl ?_
  intro p e s m below meth c Q A ls S hP hK hT hS hl hret
  obtain ⟨hx, hb, hml, hown, hts⟩ := id S
  have hl : lv_has ls 3 [(0, .ref h), (1, .int (nI k)), (2, .int x)] := hl
  refine lv_iload_n hx hb d_Sl_get_0 rfl (lv_at hl 1 rfl) ?_
  refine lv_iload_n hx hb d_Sl_get_1 rfl (lv_at hl 2 rfl) ?_
  refine mk_r1 (W.runS (As := [.int (nI k), .int x]) (rest := []) S (c_Sl_hasY l dC dI cI k x (by first | assumption | omega) (by first | assumption | omega)) (gS 2 hts k_203 k_204 k_28 k_205 (by decide +kernel) ⟨Nat.le_of_ble_eq_true rfl, Nat.le_of_ble_eq_true rfl⟩) (mk_sR hP hK hT hS [] rfl) rfl rfl hl.1 rfl (lv_room (Nat.le_of_ble_eq_true rfl)) d_Sl_get_2 ⟨Nat.zero_le _, Nat.zero_le _⟩) ?_
  refine lv_if_eq (tgt := 22) hx hb d_Sl_get_5 (by decide) (fun c_1 => ?_) (fun c_1 => ?_)
  · skip
    rw [mk_ceq (by omega)] at c_1
    refine lv_iconst (v := (-1)) hx hb d_Sl_get_22 (by decide) ?_
    exact hret _ _ d_Sl_get_23
  · skip
    rw [mk_ceq (by omega)] at c_1
    first | omega | contradiction

set_option maxHeartbeats 4000000 in
set_option maxRecDepth 100000 in
theorem c_Sl_getX (l : Launch) (dC : Nat → ClassId) (dI : Nat → Nat → Nat) (cI : ClassId) (h a : Nat) (B : Nat → Nat) (x z : Int32) (hk : x < 0 ∨ nI 32 ≤ x) : mR l y_Sl_get w_Sl_get ({ frames := 2, cells := 0, slots := 0, locals := 41 } : Room) [.ref h, .int x, .int z] (dC, dI) vwCl [(cI, .int)] [(h, .inr (4, [.ref a])), (a, .inl (cI, 1024, .inl (nf B)))] (some (.int (-1))) := by
  refine mk_Ri (cc := b_Sl_get) (maxL := 3) (by decide) rfl (Nat.le_of_ble_eq_true rfl) rfl ?_
  intro p e s m below meth c Q A ls S hP hK hT hS hl hret
  obtain ⟨hx, hb, hml, hown, hts⟩ := id S
  have hl : lv_has ls 3 [(0, .ref h), (1, .int x), (2, .int z)] := hl
  refine lv_iload_n hx hb d_Sl_get_0 rfl (lv_at hl 1 rfl) ?_
  refine lv_iload_n hx hb d_Sl_get_1 rfl (lv_at hl 2 rfl) ?_
  refine mk_r1 (W.runS (As := [.int x, .int z]) (rest := []) S (c_Sl_hasX l dC dI cI x z (by first | assumption | omega)) (gS 2 hts k_203 k_204 k_28 k_205 (by decide +kernel) ⟨Nat.le_of_ble_eq_true rfl, Nat.le_of_ble_eq_true rfl⟩) (mk_sR hP hK hT hS [] rfl) rfl rfl hl.1 rfl (lv_room (Nat.le_of_ble_eq_true rfl)) d_Sl_get_2 ⟨Nat.zero_le _, Nat.zero_le _⟩) ?_
  refine lv_if_eq (tgt := 22) hx hb d_Sl_get_5 (by decide) (fun c_1 => ?_) (fun c_1 => ?_)
  · skip
    rw [mk_ceq (by omega)] at c_1
    refine lv_iconst (v := (-1)) hx hb d_Sl_get_22 (by decide) ?_
    exact hret _ _ d_Sl_get_23
  · skip
    rw [mk_ceq (by omega)] at c_1
    first | omega | contradiction

set_option maxHeartbeats 4000000 in
set_option maxRecDepth 100000 in
theorem c_Sl_putN (l : Launch) (dC : Nat → ClassId) (dI : Nat → Nat → Nat) (cI : ClassId) (h a : Nat) (B : Nat → Nat) (k j y : Nat) (hk : k < 32) (hj : j < 32) (hy : y < 2 ^ 32) : mM l y_Sl_put w_Sl_put ({ frames := 2, cells := 0, slots := 0, locals := 41 } : Room) [.ref h, .int (nI k), .int (nI j), .int (nI y)] (dC, dI) vwCl [(cI, .int)] [(h, .inr (4, [.ref a])), (a, .inl (cI, 1024, .inl (nf B)))] (some (.int (nI 1))) [(h, .inr (4, [.ref a])), (a, .inl (cI, 1024, .inl (nf (uN B (k * 32 + j) (y % 2 ^ 8)))))] := by
  refine mk_Mi (cc := b_Sl_put) (maxL := 4) (by decide) rfl (Nat.le_of_ble_eq_true rfl) (rfl) ?_
  intro p e s m below meth c Q A ls S hP hK hT hS hl hD hA hret
  obtain ⟨hx, hb, hml, hown, hts⟩ := id S
  have hl : lv_has ls 4 [(0, .ref h), (1, .int (nI k)), (2, .int (nI j)), (3, .int (nI y))] := hl
  refine lv_iload_n hx hb d_Sl_put_0 rfl (lv_at hl 1 rfl) ?_
  refine lv_iload_n hx hb d_Sl_put_1 rfl (lv_at hl 2 rfl) ?_
  refine mk_r1 (W.runS (As := [.int (nI k), .int (nI j)]) (rest := []) S (c_Sl_hasN l dC dI cI k j (by first | assumption | omega) (by first | assumption | omega)) (gS 2 hts k_203 k_204 k_28 k_205 (by decide +kernel) ⟨Nat.le_of_ble_eq_true rfl, Nat.le_of_ble_eq_true rfl⟩) (mk_sR hP hK hT hS [] rfl) rfl rfl hl.1 rfl (lv_room (Nat.le_of_ble_eq_true rfl)) d_Sl_put_2 ⟨Nat.zero_le _, Nat.zero_le _⟩) ?_
  refine lv_if_ne (tgt := 10) hx hb d_Sl_put_5 (by decide) (fun c_1 => ?_) (fun c_1 => ?_)
  · skip
    rw [mk_ceq (by omega)] at c_1
    refine lv_aload_n hx hb d_Sl_put_10 rfl (lv_at hl 0 rfl) ?_
    refine va_get (D := (dC, dI)) (ci := 4) (v := .ref a) (C := "LongNames$Slots") (T := F_Sl) (N := 1) hx hb hts (iw_Sl _) hown hK hP 0 rfl rfl 0 (by decide) (hts _ (List.mem_cons_of_mem _ k_87)) (fun _ h9 => h9) rfl d_Sl_put_11 ?_
    refine lv_iload_n hx hb d_Sl_put_14 rfl (lv_at hl 1 rfl) ?_
    refine lv_bipush (v := nI 32) hx hb d_Sl_put_15 (by decide) ?_
    refine lv_imul hx hb d_Sl_put_17 ?_
    refine mk_ti (y := nI (k * 32)) (pk_mul k 32) ?_
    refine lv_iload_n hx hb d_Sl_put_18 rfl (lv_at hl 2 rfl) ?_
    refine lv_iadd hx hb d_Sl_put_19 ?_
    refine mk_ti (y := nI (k * 32 + j)) (nI_add (k * 32) j) ?_
    refine lv_iload_n hx hb d_Sl_put_20 rfl (lv_at hl 3 rfl) ?_
    refine lv_sipush (v := nI 255) hx hb d_Sl_put_21 (by decide) ?_
    refine lv_iand hx hb d_Sl_put_24 ?_
    refine mk_ti (y := nI (y % 2 ^ 8)) (pk_andN (by omega) 8 (by decide)) ?_
    refine va_iast hx hb hK hP hD hS 1 0 rfl rfl (vp_in_nI (N := 1024) (show k * 32 + j < 1024 by omega) (by decide)) d_Sl_put_25 (fun H locs hP hD hS => ?_)
    rw [nI_clamp (by omega), nf_up] at hP hD
    have hP : va_P (dC, dI) vwCl [(h, .inr (4, [.ref a])), (a, .inl (cI, 1024, .inl (nf (uN B (k * 32 + j) (y % 2 ^ 8)))))] H := hP
    have hD : va_D A [(h, .inr (4, [.ref a])), (a, .inl (cI, 1024, .inl (nf (uN B (k * 32 + j) (y % 2 ^ 8)))))] := hD
    refine lv_iconst (v := nI 1) hx hb d_Sl_put_26 (by decide) ?_
    exact hret _ _ _ _ d_Sl_put_27 hP hD hS
  · skip
    rw [mk_ceq (by omega)] at c_1
    first | omega | contradiction

set_option maxHeartbeats 4000000 in
set_option maxRecDepth 100000 in
theorem c_Sl_putY (l : Launch) (dC : Nat → ClassId) (dI : Nat → Nat → Nat) (cI : ClassId) (h a : Nat) (B : Nat → Nat) (k : Nat) (x y : Int32) (hk : k < 32) (hj : x < 0 ∨ nI 32 ≤ x) : mM l y_Sl_put w_Sl_put ({ frames := 2, cells := 0, slots := 0, locals := 41 } : Room) [.ref h, .int (nI k), .int x, .int y] (dC, dI) vwCl [(cI, .int)] [(h, .inr (4, [.ref a])), (a, .inl (cI, 1024, .inl (nf B)))] (some (.int (nI 0))) [(h, .inr (4, [.ref a])), (a, .inl (cI, 1024, .inl (nf B)))] := by
  refine mk_Mi (cc := b_Sl_put) (maxL := 4) (by decide) rfl (Nat.le_of_ble_eq_true rfl) (rfl) ?_
  intro p e s m below meth c Q A ls S hP hK hT hS hl hD hA hret
  obtain ⟨hx, hb, hml, hown, hts⟩ := id S
  have hl : lv_has ls 4 [(0, .ref h), (1, .int (nI k)), (2, .int x), (3, .int y)] := hl
  refine lv_iload_n hx hb d_Sl_put_0 rfl (lv_at hl 1 rfl) ?_
  refine lv_iload_n hx hb d_Sl_put_1 rfl (lv_at hl 2 rfl) ?_
  refine mk_r1 (W.runS (As := [.int (nI k), .int x]) (rest := []) S (c_Sl_hasY l dC dI cI k x (by first | assumption | omega) (by first | assumption | omega)) (gS 2 hts k_203 k_204 k_28 k_205 (by decide +kernel) ⟨Nat.le_of_ble_eq_true rfl, Nat.le_of_ble_eq_true rfl⟩) (mk_sR hP hK hT hS [] rfl) rfl rfl hl.1 rfl (lv_room (Nat.le_of_ble_eq_true rfl)) d_Sl_put_2 ⟨Nat.zero_le _, Nat.zero_le _⟩) ?_
  refine lv_if_ne (tgt := 10) hx hb d_Sl_put_5 (by decide) (fun c_1 => ?_) (fun c_1 => ?_)
  · skip
    rw [mk_ceq (by omega)] at c_1
    first | omega | contradiction
  · skip
    rw [mk_ceq (by omega)] at c_1
    refine lv_iconst (v := nI 0) hx hb d_Sl_put_8 (by decide) ?_
    exact hret _ _ _ _ d_Sl_put_9 hP hD hS

set_option maxHeartbeats 4000000 in
set_option maxRecDepth 100000 in
theorem c_Sl_putX (l : Launch) (dC : Nat → ClassId) (dI : Nat → Nat → Nat) (cI : ClassId) (h a : Nat) (B : Nat → Nat) (x z y : Int32) (hk : x < 0 ∨ nI 32 ≤ x) : mM l y_Sl_put w_Sl_put ({ frames := 2, cells := 0, slots := 0, locals := 41 } : Room) [.ref h, .int x, .int z, .int y] (dC, dI) vwCl [(cI, .int)] [(h, .inr (4, [.ref a])), (a, .inl (cI, 1024, .inl (nf B)))] (some (.int (nI 0))) [(h, .inr (4, [.ref a])), (a, .inl (cI, 1024, .inl (nf B)))] := by
  refine mk_Mi (cc := b_Sl_put) (maxL := 4) (by decide) rfl (Nat.le_of_ble_eq_true rfl) (rfl) ?_
  intro p e s m below meth c Q A ls S hP hK hT hS hl hD hA hret
  obtain ⟨hx, hb, hml, hown, hts⟩ := id S
  have hl : lv_has ls 4 [(0, .ref h), (1, .int x), (2, .int z), (3, .int y)] := hl
  refine lv_iload_n hx hb d_Sl_put_0 rfl (lv_at hl 1 rfl) ?_
  refine lv_iload_n hx hb d_Sl_put_1 rfl (lv_at hl 2 rfl) ?_
  refine mk_r1 (W.runS (As := [.int x, .int z]) (rest := []) S (c_Sl_hasX l dC dI cI x z (by first | assumption | omega)) (gS 2 hts k_203 k_204 k_28 k_205 (by decide +kernel) ⟨Nat.le_of_ble_eq_true rfl, Nat.le_of_ble_eq_true rfl⟩) (mk_sR hP hK hT hS [] rfl) rfl rfl hl.1 rfl (lv_room (Nat.le_of_ble_eq_true rfl)) d_Sl_put_2 ⟨Nat.zero_le _, Nat.zero_le _⟩) ?_
  refine lv_if_ne (tgt := 10) hx hb d_Sl_put_5 (by decide) (fun c_1 => ?_) (fun c_1 => ?_)
  · skip
    rw [mk_ceq (by omega)] at c_1
    first | omega | contradiction
  · skip
    rw [mk_ceq (by omega)] at c_1
    refine lv_iconst (v := nI 0) hx hb d_Sl_put_8 (by decide) ?_
    exact hret _ _ _ _ d_Sl_put_9 hP hD hS

set_option maxHeartbeats 4000000 in
set_option maxRecDepth 100000 in
theorem c_Sl_sum (l : Launch) (dC : Nat → ClassId) (dI : Nat → Nat → Nat) (cI : ClassId) (h a : Nat) (B : Nat → Nat) (q : Nat) (hB : ∀ j, B j < 256) (hq : q < 32) : mR l y_Sl_entrySum w_Sl_entrySum ({ frames := 3, cells := 0, slots := 0, locals := 63 } : Room) [.ref h, .int (nI q)] (dC, dI) vwCl [(cI, .int)] [(h, .inr (4, [.ref a])), (a, .inl (cI, 1024, .inl (nf B)))] (some (.int (nI (suN B (q * 32) 11)))) := by
  refine mk_Ri (cc := b_Sl_entrySum) (maxL := 5) (by decide) rfl (Nat.le_of_ble_eq_true rfl) rfl ?_
  intro p e s m below meth c Q A ls S hP hK hT hS hl hret
  obtain ⟨hx, hb, hml, hown, hts⟩ := id S
  have hl : lv_has ls 5 [(0, .ref h), (1, .int (nI q))] := hl
  refine lv_iconst (v := nI 0) hx hb d_Sl_entrySum_0 (by decide) ?_
  refine lv_istore_n (lv' := [(2, .int (nI 0)), (0, .ref h), (1, .int (nI q))]) hx hb d_Sl_entrySum_1 rfl hl (by decide) rfl (fun ls hl => ?_)
  refine lv_iconst (v := nI 0) hx hb d_Sl_entrySum_2 (by decide) ?_
  refine lv_istore_n (lv' := [(3, .int (nI 0)), (2, .int (nI 0)), (0, .ref h), (1, .int (nI q))]) hx hb d_Sl_entrySum_3 rfl hl (by decide) rfl (fun ls hl => ?_)
  have lp4 : ∀ (k : Nat) (i : Nat) (ls : Array Slot), (i + k = 11) → lv_has ls 5 [(0, .ref h), (1, .int (nI q)), (2, .int (nI (suN B (q * 32) i))), (3, .int (nI i))] → W p l e ({ frames := 3, cells := 0, slots := 0, locals := 63 } : Room) s m ([.ref h, .int (nI q)] : List Value).toArray below meth c s.heap [] 0 0 Q (F0 m 4 ls []) := by
    intro k
    induction k with
    | zero =>
      intro i ls hi hl
      have hs9 := suN_lt B (q * 32) i
      refine lv_iload_n hx hb d_Sl_entrySum_4 rfl (lv_at hl 3 rfl) ?_
      refine lv_bipush (v := nI 11) hx hb d_Sl_entrySum_5 (by decide) ?_
      refine lv_icmp_ge (tgt := 43) hx hb d_Sl_entrySum_7 (by decide) (fun c_1 => ?_) (fun c_1 => ?_)
      · skip
        rw [nI_leI (by omega) (by omega)] at c_1
        refine lv_iload_n hx hb d_Sl_entrySum_43 rfl (lv_at hl 2 rfl) ?_
        exact mk_ti (by rw [show i = 11 by omega]) (hret _ _ d_Sl_entrySum_44)
      · skip
        rw [nI_leI (by omega) (by omega)] at c_1
        first | omega | contradiction
    | succ k ih4 =>
      intro i ls hi hl
      have hs9 := suN_lt B (q * 32) i
      refine lv_iload_n hx hb d_Sl_entrySum_4 rfl (lv_at hl 3 rfl) ?_
      refine lv_bipush (v := nI 11) hx hb d_Sl_entrySum_5 (by decide) ?_
      refine lv_icmp_ge (tgt := 43) hx hb d_Sl_entrySum_7 (by decide) (fun c_2 => ?_) (fun c_2 => ?_)
      · skip
        rw [nI_leI (by omega) (by omega)] at c_2
        first | omega | contradiction
      · skip
        rw [nI_leI (by omega) (by omega)] at c_2
        refine lv_iload_n hx hb d_Sl_entrySum_10 rfl (lv_at hl 2 rfl) ?_
        refine lv_iconst (v := nI 1) hx hb d_Sl_entrySum_11 (by decide) ?_
        refine lv_iand hx hb d_Sl_entrySum_12 ?_
        refine mk_ti (y := nI ((suN B (q * 32) i) % 2 ^ 1)) (pk_andN (by omega) 1 (by decide)) ?_
        refine lv_sipush (v := nI 128) hx hb d_Sl_entrySum_13 (by decide) ?_
        refine lv_imul hx hb d_Sl_entrySum_16 ?_
        refine mk_ti (y := nI (((suN B (q * 32) i) % 2 ^ 1) * 128)) (pk_mul ((suN B (q * 32) i) % 2 ^ 1) 128) ?_
        refine lv_iload_n hx hb d_Sl_entrySum_17 rfl (lv_at hl 2 rfl) ?_
        refine lv_iconst (v := nI 1) hx hb d_Sl_entrySum_18 (by decide) ?_
        refine lv_ishr hx hb d_Sl_entrySum_19 ?_
        refine mk_ti (y := nI ((suN B (q * 32) i) / 2 ^ 1)) (pk_shrN (by omega) _ 1 (by decide)) ?_
        refine lv_iadd hx hb d_Sl_entrySum_20 ?_
        refine mk_ti (y := nI (((suN B (q * 32) i) % 2 ^ 1) * 128 + (suN B (q * 32) i) / 2 ^ 1)) (nI_add (((suN B (q * 32) i) % 2 ^ 1) * 128) ((suN B (q * 32) i) / 2 ^ 1)) ?_
        refine lv_istore (lv' := [(4, .int (nI (((suN B (q * 32) i) % 2 ^ 1) * 128 + (suN B (q * 32) i) / 2 ^ 1))), (0, .ref h), (1, .int (nI q)), (2, .int (nI (suN B (q * 32) i))), (3, .int (nI i))]) hx hb d_Sl_entrySum_21 hl (by decide) rfl (fun ls hl => ?_)
        refine lv_iload hx hb d_Sl_entrySum_23 (lv_at hl 0 rfl) ?_
        refine lv_aload_n hx hb d_Sl_entrySum_25 rfl (lv_at hl 1 rfl) ?_
        refine lv_iload_n hx hb d_Sl_entrySum_26 rfl (lv_at hl 2 rfl) ?_
        refine lv_iload_n hx hb d_Sl_entrySum_27 rfl (lv_at hl 4 rfl) ?_
        refine mk_r1 (W.runV (As := [.int (nI q), .int (nI i)]) (rest := [.int (nI (((suN B (q * 32) i) % 2 ^ 1) * 128 + (suN B (q * 32) i) / 2 ^ 1))]) S (c_Sl_getN l dC dI cI h a B q i (by first | assumption | omega) (by first | assumption | omega) (by first | assumption | omega)) (gV 2 hts k_226 k_214 k_215 k_28 k_216 (by decide +kernel) ⟨Nat.le_of_ble_eq_true rfl, Nat.le_of_ble_eq_true rfl⟩) (mk_vR hP hK hT hS [0, 1] rfl (q0 := 0) (ci := 4) rfl rfl) rfl rfl hl.1 rfl (lv_room (Nat.le_of_ble_eq_true rfl)) d_Sl_entrySum_28 ⟨Nat.zero_le _, Nat.zero_le _⟩) ?_
        have b_3 := (show ∀ j9, B j9 < 256 by assumption) (q * 32 + i)
        refine lv_iadd hx hb d_Sl_entrySum_31 ?_
        refine mk_ti (y := nI (((suN B (q * 32) i) % 2 ^ 1) * 128 + (suN B (q * 32) i) / 2 ^ 1 + B (q * 32 + i))) (nI_add (((suN B (q * 32) i) % 2 ^ 1) * 128 + (suN B (q * 32) i) / 2 ^ 1) (B (q * 32 + i))) ?_
        refine lv_sipush (v := nI 255) hx hb d_Sl_entrySum_32 (by decide) ?_
        refine lv_iand hx hb d_Sl_entrySum_35 ?_
        refine mk_ti (y := nI ((((suN B (q * 32) i) % 2 ^ 1) * 128 + (suN B (q * 32) i) / 2 ^ 1 + B (q * 32 + i)) % 2 ^ 8)) (pk_andN (by omega) 8 (by decide)) ?_
        refine lv_istore_n (lv' := [(2, .int (nI ((((suN B (q * 32) i) % 2 ^ 1) * 128 + (suN B (q * 32) i) / 2 ^ 1 + B (q * 32 + i)) % 2 ^ 8))), (4, .int (nI (((suN B (q * 32) i) % 2 ^ 1) * 128 + (suN B (q * 32) i) / 2 ^ 1))), (0, .ref h), (1, .int (nI q)), (3, .int (nI i))]) hx hb d_Sl_entrySum_36 rfl hl (by decide) rfl (fun ls hl => ?_)
        refine lv_iinc (v := nI (i + 1)) (lv' := [(3, .int (nI (i + 1))), (2, .int (nI ((((suN B (q * 32) i) % 2 ^ 1) * 128 + (suN B (q * 32) i) / 2 ^ 1 + B (q * 32 + i)) % 2 ^ 8))), (4, .int (nI (((suN B (q * 32) i) % 2 ^ 1) * 128 + (suN B (q * 32) i) / 2 ^ 1))), (0, .ref h), (1, .int (nI q))]) hx hb d_Sl_entrySum_37 hl (k := 4) rfl (mk_i1 i) (by decide) rfl (fun ls hl => ?_)
        refine lv_goto (tgt := 4) hx hb d_Sl_entrySum_40 (by decide) ?_
        have hl : lv_has ls 5 [(0, .ref h), (1, .int (nI q)), (2, .int (nI ((((suN B (q * 32) i) % 2 ^ 1) * 128 + (suN B (q * 32) i) / 2 ^ 1 + B (q * 32 + i)) % 2 ^ 8))), (3, .int (nI (i + 1)))] := lv_sub hl [3, 4, 1, 0] rfl
        have hl9 : ([(0, .ref h), (1, .int (nI q)), (2, .int (nI ((((suN B (q * 32) i) % 2 ^ 1) * 128 + (suN B (q * 32) i) / 2 ^ 1 + B (q * 32 + i)) % 2 ^ 8))), (3, .int (nI (i + 1)))] : List (Nat × Value)) = [(0, .ref h), (1, .int (nI q)), (2, .int (nI (suN B (q * 32) (i + 1)))), (3, .int (nI (i + 1)))] := by rfl
        rw [hl9] at hl
        exact ih4 (i + 1) _ (by omega) hl
  have hl : lv_has ls 5 [(0, .ref h), (1, .int (nI q)), (2, .int (nI 0)), (3, .int (nI 0))] := lv_sub hl [2, 3, 1, 0] rfl
  have hl9 : ([(0, .ref h), (1, .int (nI q)), (2, .int (nI 0)), (3, .int (nI 0))] : List (Nat × Value)) = [(0, .ref h), (1, .int (nI q)), (2, .int (nI (suN B (q * 32) 0))), (3, .int (nI 0))] := by rfl
  rw [hl9] at hl
  exact lp4 11 0 _ rfl hl
end
section
set_option maxHeartbeats 4000000 in
set_option maxRecDepth 100000 in
theorem c_Ro_size (l : Launch) (dC : Nat → ClassId) (dI : Nat → Nat → Nat) (cI : ClassId) (h a n : Nat) (v : Nat → Nat)  : mR l y_Ro_size w_Ro_size ({ frames := 0, cells := 0, slots := 0, locals := 0 } : Room) [.ref h] (dC, dI) vwCl [(cI, .int)] [(h, .inr (1, [.ref a, .int (nI n)])), (a, .inl (cI, 255, .inl (nf v)))] (some (.int (nI n))) := by
  refine mk_Ri (cc := b_Ro_size) (maxL := 1) (by decide) rfl (Nat.le_of_ble_eq_true rfl) rfl ?_
  intro p e s m below meth c Q A ls S hP hK hT hS hl hret
  obtain ⟨hx, hb, hml, hown, hts⟩ := id S
  have hl : lv_has ls 1 [(0, .ref h)] := hl
  refine lv_aload_n hx hb d_Ro_size_0 rfl (lv_at hl 0 rfl) ?_
  refine va_get (D := (dC, dI)) (ci := 1) (v := .int (nI n)) (C := "LongNames$Row") (T := F_Ro) (N := 2) hx hb hts (iw_Ro _) hown hK hP 0 rfl rfl 1 (by decide) (hts _ (List.mem_cons_of_mem _ k_54)) (fun _ h9 => h9) rfl d_Ro_size_1 ?_
  exact hret _ _ d_Ro_size_4

set_option maxHeartbeats 4000000 in
set_option maxRecDepth 100000 in
theorem c_Ro_empty (l : Launch) (dC : Nat → ClassId) (dI : Nat → Nat → Nat) (cI : ClassId) (h a n : Nat) (v : Nat → Nat)  : mM l y_Ro_makeEmpty w_Ro_makeEmpty ({ frames := 0, cells := 0, slots := 0, locals := 0 } : Room) [.ref h] (dC, dI) vwCl [(cI, .int)] [(h, .inr (1, [.ref a, .int (nI n)])), (a, .inl (cI, 255, .inl (nf v)))] none [(h, .inr (1, [.ref a, .int (nI 0)])), (a, .inl (cI, 255, .inl (nf v)))] := by
  refine mk_Mv (cc := b_Ro_makeEmpty) (maxL := 1) (by decide) rfl (Nat.le_of_ble_eq_true rfl) ?_
  intro p e s m below meth c Q A ls S hP hK hT hS hl hD hA hret
  obtain ⟨hx, hb, hml, hown, hts⟩ := id S
  have hl : lv_has ls 1 [(0, .ref h)] := hl
  refine lv_aload_n hx hb d_Ro_makeEmpty_0 rfl (lv_at hl 0 rfl) ?_
  refine lv_iconst (v := nI 0) hx hb d_Ro_makeEmpty_1 (by decide) ?_
  refine va_put (D := (dC, dI)) (ci := 1) (v := .int (nI 0)) (ty := .int) (C := "LongNames$Row") (T := F_Ro) (N := 2) hx hb hts (iw_Ro _) t_Ro t_Ro_ok n_Ro hown hK hP hD hS 0 rfl rfl 1 (by decide) (hts _ (List.mem_cons_of_mem _ k_54)) (fun _ h9 => h9) rfl (by decide +kernel) rfl rfl (Nat.le_of_ble_eq_true rfl) d_Ro_makeEmpty_2 (fun H locs hP hD hS => ?_)
  have hP : va_P (dC, dI) vwCl [(h, .inr (1, [.ref a, .int (nI 0)])), (a, .inl (cI, 255, .inl (nf v)))] H := hP
  have hD : va_D A [(h, .inr (1, [.ref a, .int (nI 0)])), (a, .inl (cI, 255, .inl (nf v)))] := hD
  exact hret _ _ _ _ d_Ro_makeEmpty_5 hP hD hS

set_option maxHeartbeats 4000000 in
set_option maxRecDepth 100000 in
theorem c_Ro_app (l : Launch) (dC : Nat → ClassId) (dI : Nat → Nat → Nat) (cI : ClassId) (h a n : Nat) (v : Nat → Nat) (x : Nat) (hn : n < 255) : mM l y_Ro_append w_Ro_append ({ frames := 0, cells := 0, slots := 0, locals := 0 } : Room) [.ref h, .int (nI x)] (dC, dI) vwCl [(cI, .int)] [(h, .inr (1, [.ref a, .int (nI n)])), (a, .inl (cI, 255, .inl (nf v)))] (some (.int (nI 1))) [(h, .inr (1, [.ref a, .int (nI (n + 1))])), (a, .inl (cI, 255, .inl (nf (uN v n x))))] := by
  refine mk_Mi (cc := b_Ro_append) (maxL := 2) (by decide) rfl (Nat.le_of_ble_eq_true rfl) (rfl) ?_
  intro p e s m below meth c Q A ls S hP hK hT hS hl hD hA hret
  obtain ⟨hx, hb, hml, hown, hts⟩ := id S
  have hl : lv_has ls 2 [(0, .ref h), (1, .int (nI x))] := hl
  refine lv_aload_n hx hb d_Ro_append_0 rfl (lv_at hl 0 rfl) ?_
  refine va_get (D := (dC, dI)) (ci := 1) (v := .int (nI n)) (C := "LongNames$Row") (T := F_Ro) (N := 2) hx hb hts (iw_Ro _) hown hK hP 0 rfl rfl 1 (by decide) (hts _ (List.mem_cons_of_mem _ k_54)) (fun _ h9 => h9) rfl d_Ro_append_1 ?_
  refine lv_if_lt (tgt := 17) hx hb d_Ro_append_4 (by decide) (fun c_1 => ?_) (fun c_1 => ?_)
  · skip
    rw [mk_clt (by omega)] at c_1
    first | omega | contradiction
  · skip
    rw [mk_clt (by omega)] at c_1
    refine lv_aload_n hx hb d_Ro_append_7 rfl (lv_at hl 0 rfl) ?_
    refine va_get (D := (dC, dI)) (ci := 1) (v := .int (nI n)) (C := "LongNames$Row") (T := F_Ro) (N := 2) hx hb hts (iw_Ro _) hown hK hP 0 rfl rfl 1 (by decide) (hts _ (List.mem_cons_of_mem _ k_54)) (fun _ h9 => h9) rfl d_Ro_append_8 ?_
    refine lv_sipush (v := nI 255) hx hb d_Ro_append_11 (by decide) ?_
    refine lv_icmp_lt (tgt := 19) hx hb d_Ro_append_14 (by decide) (fun c_2 => ?_) (fun c_2 => ?_)
    · skip
      rw [nI_ltI (by omega) (by omega)] at c_2
      refine lv_aload_n hx hb d_Ro_append_19 rfl (lv_at hl 0 rfl) ?_
      refine va_get (D := (dC, dI)) (ci := 1) (v := .ref a) (C := "LongNames$Row") (T := F_Ro) (N := 2) hx hb hts (iw_Ro _) hown hK hP 0 rfl rfl 0 (by decide) (hts _ (List.mem_cons_of_mem _ k_53)) (fun _ h9 => h9) rfl d_Ro_append_20 ?_
      refine lv_aload_n hx hb d_Ro_append_23 rfl (lv_at hl 0 rfl) ?_
      refine va_get (D := (dC, dI)) (ci := 1) (v := .int (nI n)) (C := "LongNames$Row") (T := F_Ro) (N := 2) hx hb hts (iw_Ro _) hown hK hP 0 rfl rfl 1 (by decide) (hts _ (List.mem_cons_of_mem _ k_54)) (fun _ h9 => h9) rfl d_Ro_append_24 ?_
      refine lv_iload_n hx hb d_Ro_append_27 rfl (lv_at hl 1 rfl) ?_
      refine va_iast hx hb hK hP hD hS 1 0 rfl rfl (vp_in_nI (N := 255) (show n < 255 by omega) (by decide)) d_Ro_append_28 (fun H locs hP hD hS => ?_)
      rw [nI_clamp (by omega), nf_up] at hP hD
      have hP : va_P (dC, dI) vwCl [(h, .inr (1, [.ref a, .int (nI n)])), (a, .inl (cI, 255, .inl (nf (uN v n x))))] H := hP
      have hD : va_D A [(h, .inr (1, [.ref a, .int (nI n)])), (a, .inl (cI, 255, .inl (nf (uN v n x))))] := hD
      refine lv_aload_n hx hb d_Ro_append_29 rfl (lv_at hl 0 rfl) ?_
      refine lv_dup hx hb d_Ro_append_30 rfl ?_
      refine va_get (D := (dC, dI)) (ci := 1) (v := .int (nI n)) (C := "LongNames$Row") (T := F_Ro) (N := 2) hx hb hts (iw_Ro _) hown hK hP 0 rfl rfl 1 (by decide) (hts _ (List.mem_cons_of_mem _ k_54)) (fun _ h9 => h9) rfl d_Ro_append_31 ?_
      refine lv_iconst (v := nI 1) hx hb d_Ro_append_34 (by decide) ?_
      refine lv_iadd hx hb d_Ro_append_35 ?_
      refine mk_ti (y := nI (n + 1)) (nI_add n 1) ?_
      refine va_put (D := (dC, dI)) (ci := 1) (v := .int (nI (n + 1))) (ty := .int) (C := "LongNames$Row") (T := F_Ro) (N := 2) hx hb hts (iw_Ro _) t_Ro t_Ro_ok n_Ro hown hK hP hD hS 0 rfl rfl 1 (by decide) (hts _ (List.mem_cons_of_mem _ k_54)) (fun _ h9 => h9) rfl (by decide +kernel) rfl rfl (Nat.le_of_ble_eq_true rfl) d_Ro_append_36 (fun H locs hP hD hS => ?_)
      have hP : va_P (dC, dI) vwCl [(h, .inr (1, [.ref a, .int (nI (n + 1))])), (a, .inl (cI, 255, .inl (nf (uN v n x))))] H := hP
      have hD : va_D A [(h, .inr (1, [.ref a, .int (nI (n + 1))])), (a, .inl (cI, 255, .inl (nf (uN v n x))))] := hD
      refine lv_iconst (v := nI 1) hx hb d_Ro_append_39 (by decide) ?_
      exact hret _ _ _ _ d_Ro_append_40 hP hD hS
    · skip
      rw [nI_ltI (by omega) (by omega)] at c_2
      first | omega | contradiction

set_option maxHeartbeats 4000000 in
set_option maxRecDepth 100000 in
theorem c_Ro_full (l : Launch) (dC : Nat → ClassId) (dI : Nat → Nat → Nat) (cI : ClassId) (h a n : Nat) (v : Nat → Nat) (x : Int32) (hn : n = 255) : mM l y_Ro_append w_Ro_append ({ frames := 0, cells := 0, slots := 0, locals := 0 } : Room) [.ref h, .int x] (dC, dI) vwCl [(cI, .int)] [(h, .inr (1, [.ref a, .int (nI n)])), (a, .inl (cI, 255, .inl (nf v)))] (some (.int (nI 0))) [(h, .inr (1, [.ref a, .int (nI n)])), (a, .inl (cI, 255, .inl (nf v)))] := by
  refine mk_Mi (cc := b_Ro_append) (maxL := 2) (by decide) rfl (Nat.le_of_ble_eq_true rfl) (rfl) ?_
  intro p e s m below meth c Q A ls S hP hK hT hS hl hD hA hret
  obtain ⟨hx, hb, hml, hown, hts⟩ := id S
  have hl : lv_has ls 2 [(0, .ref h), (1, .int x)] := hl
  refine lv_aload_n hx hb d_Ro_append_0 rfl (lv_at hl 0 rfl) ?_
  refine va_get (D := (dC, dI)) (ci := 1) (v := .int (nI n)) (C := "LongNames$Row") (T := F_Ro) (N := 2) hx hb hts (iw_Ro _) hown hK hP 0 rfl rfl 1 (by decide) (hts _ (List.mem_cons_of_mem _ k_54)) (fun _ h9 => h9) rfl d_Ro_append_1 ?_
  refine lv_if_lt (tgt := 17) hx hb d_Ro_append_4 (by decide) (fun c_1 => ?_) (fun c_1 => ?_)
  · skip
    rw [mk_clt (by omega)] at c_1
    first | omega | contradiction
  · skip
    rw [mk_clt (by omega)] at c_1
    refine lv_aload_n hx hb d_Ro_append_7 rfl (lv_at hl 0 rfl) ?_
    refine va_get (D := (dC, dI)) (ci := 1) (v := .int (nI n)) (C := "LongNames$Row") (T := F_Ro) (N := 2) hx hb hts (iw_Ro _) hown hK hP 0 rfl rfl 1 (by decide) (hts _ (List.mem_cons_of_mem _ k_54)) (fun _ h9 => h9) rfl d_Ro_append_8 ?_
    refine lv_sipush (v := nI 255) hx hb d_Ro_append_11 (by decide) ?_
    refine lv_icmp_lt (tgt := 19) hx hb d_Ro_append_14 (by decide) (fun c_2 => ?_) (fun c_2 => ?_)
    · skip
      rw [nI_ltI (by omega) (by omega)] at c_2
      first | omega | contradiction
    · skip
      rw [nI_ltI (by omega) (by omega)] at c_2
      refine lv_iconst (v := nI 0) hx hb d_Ro_append_17 (by decide) ?_
      exact hret _ _ _ _ d_Ro_append_18 hP hD hS

set_option maxHeartbeats 4000000 in
set_option maxRecDepth 100000 in
theorem c_Ro_get (l : Launch) (dC : Nat → ClassId) (dI : Nat → Nat → Nat) (cI : ClassId) (h a n : Nat) (v : Nat → Nat) (j : Nat) (hn : n ≤ 255) (hv : ∀ j, v j < 65536) (hj : j < n) : mR l y_Ro_get w_Ro_get ({ frames := 0, cells := 0, slots := 0, locals := 0 } : Room) [.ref h, .int (nI j)] (dC, dI) vwCl [(cI, .int)] [(h, .inr (1, [.ref a, .int (nI n)])), (a, .inl (cI, 255, .inl (nf v)))] (some (.int (nI (v j)))) := by
  refine mk_Ri (cc := b_Ro_get) (maxL := 2) (by decide) rfl (Nat.le_of_ble_eq_true rfl) rfl ?_
  intro p e s m below meth c Q A ls S hP hK hT hS hl hret
  obtain ⟨hx, hb, hml, hown, hts⟩ := id S
  have hl : lv_has ls 2 [(0, .ref h), (1, .int (nI j))] := hl
  refine lv_iload_n hx hb d_Ro_get_0 rfl (lv_at hl 1 rfl) ?_
  refine lv_if_lt (tgt := 28) hx hb d_Ro_get_1 (by decide) (fun c_1 => ?_) (fun c_1 => ?_)
  · skip
    rw [mk_clt (by omega)] at c_1
    first | omega | contradiction
  · skip
    rw [mk_clt (by omega)] at c_1
    refine lv_iload_n hx hb d_Ro_get_4 rfl (lv_at hl 1 rfl) ?_
    refine lv_aload_n hx hb d_Ro_get_5 rfl (lv_at hl 0 rfl) ?_
    refine va_get (D := (dC, dI)) (ci := 1) (v := .int (nI n)) (C := "LongNames$Row") (T := F_Ro) (N := 2) hx hb hts (iw_Ro _) hown hK hP 0 rfl rfl 1 (by decide) (hts _ (List.mem_cons_of_mem _ k_54)) (fun _ h9 => h9) rfl d_Ro_get_6 ?_
    refine lv_icmp_ge (tgt := 28) hx hb d_Ro_get_9 (by decide) (fun c_2 => ?_) (fun c_2 => ?_)
    · skip
      rw [nI_leI (by omega) (by omega)] at c_2
      first | omega | contradiction
    · skip
      rw [nI_leI (by omega) (by omega)] at c_2
      refine lv_iload_n hx hb d_Ro_get_12 rfl (lv_at hl 1 rfl) ?_
      refine lv_sipush (v := nI 255) hx hb d_Ro_get_13 (by decide) ?_
      refine lv_icmp_ge (tgt := 28) hx hb d_Ro_get_16 (by decide) (fun c_3 => ?_) (fun c_3 => ?_)
      · skip
        rw [nI_leI (by omega) (by omega)] at c_3
        first | omega | contradiction
      · skip
        rw [nI_leI (by omega) (by omega)] at c_3
        refine lv_aload_n hx hb d_Ro_get_19 rfl (lv_at hl 0 rfl) ?_
        refine va_get (D := (dC, dI)) (ci := 1) (v := .ref a) (C := "LongNames$Row") (T := F_Ro) (N := 2) hx hb hts (iw_Ro _) hown hK hP 0 rfl rfl 0 (by decide) (hts _ (List.mem_cons_of_mem _ k_53)) (fun _ h9 => h9) rfl d_Ro_get_20 ?_
        refine lv_iload_n hx hb d_Ro_get_23 rfl (lv_at hl 1 rfl) ?_
        refine va_iald hx hb hK hP 1 0 rfl rfl (vp_in_nI (N := 255) (show j < 255 by omega) (by decide)) d_Ro_get_24 ?_
        refine mk_ti (y := nI (v j)) (by rw [nI_clamp (by omega)]; rfl) ?_
        have b_4 := hv j
        refine lv_goto (tgt := 29) hx hb d_Ro_get_25 (by decide) ?_
        exact hret _ _ d_Ro_get_29

set_option maxHeartbeats 4000000 in
set_option maxRecDepth 100000 in
theorem c_Ro_getm (l : Launch) (dC : Nat → ClassId) (dI : Nat → Nat → Nat) (cI : ClassId) (h a n : Nat) (v : Nat → Nat)  : mR l y_Ro_get w_Ro_get ({ frames := 0, cells := 0, slots := 0, locals := 0 } : Room) [.ref h, .int (-1)] (dC, dI) vwCl [(cI, .int)] [(h, .inr (1, [.ref a, .int (nI n)])), (a, .inl (cI, 255, .inl (nf v)))] (some (.int (-1))) := by
  refine mk_Ri (cc := b_Ro_get) (maxL := 2) (by decide) rfl (Nat.le_of_ble_eq_true rfl) rfl ?_
  intro p e s m below meth c Q A ls S hP hK hT hS hl hret
  obtain ⟨hx, hb, hml, hown, hts⟩ := id S
  have hl : lv_has ls 2 [(0, .ref h), (1, .int (-1))] := hl
  refine lv_iload_n hx hb d_Ro_get_0 rfl (lv_at hl 1 rfl) ?_
  refine lv_if_lt (tgt := 28) hx hb d_Ro_get_1 (by decide) (fun c_1 => ?_) (fun c_1 => ?_)
  · skip
    refine lv_iconst (v := (-1)) hx hb d_Ro_get_28 (by decide) ?_
    exact hret _ _ d_Ro_get_29
  · skip
    exact absurd (by decide) c_1

set_option maxHeartbeats 4000000 in
set_option maxRecDepth 100000 in
theorem c_Ro_nameE (l : Launch) (dC : Nat → ClassId) (dI : Nat → Nat → Nat) (cI : ClassId) (h a : Nat) (v : Nat → Nat) : mR l y_Ro_isName w_Ro_isName ({ frames := 1, cells := 0, slots := 0, locals := 21 } : Room) [.ref h] (dC, dI) vwCl [(cI, .int)] [(h, .inr (1, [.ref a, .int (nI 0)])), (a, .inl (cI, 255, .inl (nf v)))] (some (.int (bI (nameN v 0)))) := by
  refine mk_Ri (cc := b_Ro_isName) (maxL := 2) (by decide) rfl (Nat.le_of_ble_eq_true rfl) (mk_nz _) ?_
  intro p e s m below meth c Q A ls S hP hK hT hS hl hret
  obtain ⟨hx, hb, hml, hown, hts⟩ := id S
  have hl : lv_has ls 2 [(0, .ref h)] := hl
  refine lv_iconst (v := nI 0) hx hb d_Ro_isName_0 (by decide) ?_
  refine lv_istore_n (lv' := [(1, .int (nI 0)), (0, .ref h)]) hx hb d_Ro_isName_1 rfl hl (by decide) rfl (fun ls hl => ?_)
  refine lv_iload_n hx hb d_Ro_isName_2 rfl (lv_at hl 0 rfl) ?_
  refine lv_aload_n hx hb d_Ro_isName_3 rfl (lv_at hl 1 rfl) ?_
  refine va_get (D := (dC, dI)) (ci := 1) (v := .int (nI 0)) (C := "LongNames$Row") (T := F_Ro) (N := 2) hx hb hts (iw_Ro _) hown hK hP 0 rfl rfl 1 (by decide) (hts _ (List.mem_cons_of_mem _ k_54)) (fun _ h9 => h9) rfl d_Ro_isName_4 ?_
  refine lv_icmp_ge (tgt := 29) hx hb d_Ro_isName_7 (by decide) (fun c_1 => ?_) (fun c_1 => ?_)
  · skip
    rw [nI_leI (by omega) (by omega)] at c_1
    refine lv_aload_n hx hb d_Ro_isName_29 rfl (lv_at hl 1 rfl) ?_
    refine lv_aload_n hx hb d_Ro_isName_30 rfl (lv_at hl 1 rfl) ?_
    refine va_get (D := (dC, dI)) (ci := 1) (v := .int (nI 0)) (C := "LongNames$Row") (T := F_Ro) (N := 2) hx hb hts (iw_Ro _) hown hK hP 0 rfl rfl 1 (by decide) (hts _ (List.mem_cons_of_mem _ k_54)) (fun _ h9 => h9) rfl d_Ro_isName_31 ?_
    refine lv_iconst (v := nI 1) hx hb d_Ro_isName_34 (by decide) ?_
    refine lv_isub hx hb d_Ro_isName_35 ?_
    refine mk_ti (y := (-1)) (by decide) ?_
    refine mk_r1 (W.runV (As := [.int (-1)]) (rest := []) S (c_Ro_getm l dC dI cI h a 0 v) (gV 1 hts k_140 k_141 k_142 k_25 k_143 (by decide +kernel) ⟨Nat.le_of_ble_eq_true rfl, Nat.le_of_ble_eq_true rfl⟩) (mk_vR hP hK hT hS [0, 1] rfl (q0 := 0) (ci := 1) rfl rfl) rfl rfl hl.1 rfl (lv_room (Nat.le_of_ble_eq_true rfl)) d_Ro_isName_36 ⟨Nat.zero_le _, Nat.zero_le _⟩) ?_
    refine lv_istore_n (lv' := [(1, .int (-1)), (0, .ref h)]) hx hb d_Ro_isName_39 rfl hl (by decide) rfl (fun ls hl => ?_)
    refine lv_aload_n hx hb d_Ro_isName_40 rfl (lv_at hl 1 rfl) ?_
    refine va_get (D := (dC, dI)) (ci := 1) (v := .int (nI 0)) (C := "LongNames$Row") (T := F_Ro) (N := 2) hx hb hts (iw_Ro _) hown hK hP 0 rfl rfl 1 (by decide) (hts _ (List.mem_cons_of_mem _ k_54)) (fun _ h9 => h9) rfl d_Ro_isName_41 ?_
    refine lv_if_le (tgt := 63) hx hb d_Ro_isName_44 (by decide) (fun c_2 => ?_) (fun c_2 => ?_)
    · skip
      rw [mk_cle (by omega)] at c_2
      refine lv_iconst (v := nI 0) hx hb d_Ro_isName_63 (by decide) ?_
      exact mk_ti (by exact mk_bf (by simp [nameN])) (hret _ _ d_Ro_isName_64)
    · skip
      rw [mk_cle (by omega)] at c_2
      first | omega | contradiction
  · skip
    rw [nI_leI (by omega) (by omega)] at c_1
    first | omega | contradiction

set_option maxHeartbeats 4000000 in
set_option maxRecDepth 100000 in
theorem c_Ro_nameS (l : Launch) (dC : Nat → ClassId) (dI : Nat → Nat → Nat) (cI : ClassId) (h a n : Nat) (v : Nat → Nat) (hn : n + 1 ≤ 255) (hv : ∀ j, v j < 65536) : mR l y_Ro_isName w_Ro_isName ({ frames := 1, cells := 0, slots := 0, locals := 21 } : Room) [.ref h] (dC, dI) vwCl [(cI, .int)] [(h, .inr (1, [.ref a, .int (nI (n + 1))])), (a, .inl (cI, 255, .inl (nf v)))] (some (.int (bI (nameN v (n + 1))))) := by
  refine mk_Ri (cc := b_Ro_isName) (maxL := 2) (by decide) rfl (Nat.le_of_ble_eq_true rfl) (mk_nz _) ?_
  intro p e s m below meth c Q A ls S hP hK hT hS hl hret
  obtain ⟨hx, hb, hml, hown, hts⟩ := id S
  have hl : lv_has ls 2 [(0, .ref h)] := hl
  refine lv_iconst (v := nI 0) hx hb d_Ro_isName_0 (by decide) ?_
  refine lv_istore_n (lv' := [(1, .int (nI 0)), (0, .ref h)]) hx hb d_Ro_isName_1 rfl hl (by decide) rfl (fun ls hl => ?_)
  have lp2 : ∀ (k : Nat) (i : Nat) (ls : Array Slot), (i + k = n + 1) → (∀ j, j < i → okN (v j) = true) → lv_has ls 2 [(0, .ref h), (1, .int (nI i))] → W p l e ({ frames := 1, cells := 0, slots := 0, locals := 21 } : Room) s m ([.ref h] : List Value).toArray below meth c s.heap [] 0 0 Q (F0 m 2 ls []) := by
    intro k
    induction k with
    | zero =>
      intro i ls hi hq hl
      have hi : i = n + 1 := by omega
      refine lv_iload_n hx hb d_Ro_isName_2 rfl (lv_at hl 1 rfl) ?_
      refine lv_aload_n hx hb d_Ro_isName_3 rfl (lv_at hl 0 rfl) ?_
      refine va_get (D := (dC, dI)) (ci := 1) (v := .int (nI (n + 1))) (C := "LongNames$Row") (T := F_Ro) (N := 2) hx hb hts (iw_Ro _) hown hK hP 0 rfl rfl 1 (by decide) (hts _ (List.mem_cons_of_mem _ k_54)) (fun _ h9 => h9) rfl d_Ro_isName_4 ?_
      refine lv_icmp_ge (tgt := 29) hx hb d_Ro_isName_7 (by decide) (fun c_1 => ?_) (fun c_1 => ?_)
      · skip
        rw [nI_leI (by omega) (by omega)] at c_1
        refine lv_aload_n hx hb d_Ro_isName_29 rfl (lv_at hl 0 rfl) ?_
        refine lv_aload_n hx hb d_Ro_isName_30 rfl (lv_at hl 0 rfl) ?_
        refine va_get (D := (dC, dI)) (ci := 1) (v := .int (nI (n + 1))) (C := "LongNames$Row") (T := F_Ro) (N := 2) hx hb hts (iw_Ro _) hown hK hP 0 rfl rfl 1 (by decide) (hts _ (List.mem_cons_of_mem _ k_54)) (fun _ h9 => h9) rfl d_Ro_isName_31 ?_
        refine lv_iconst (v := nI 1) hx hb d_Ro_isName_34 (by decide) ?_
        refine lv_isub hx hb d_Ro_isName_35 ?_
        refine mk_ti (y := nI n) (nI_pred n) ?_
        refine mk_r1 (W.runV (As := [.int (nI n)]) (rest := []) S (c_Ro_get l dC dI cI h a (n + 1) v n (by first | assumption | omega) (by first | assumption | omega) (by first | assumption | omega)) (gV 1 hts k_140 k_141 k_142 k_25 k_143 (by decide +kernel) ⟨Nat.le_of_ble_eq_true rfl, Nat.le_of_ble_eq_true rfl⟩) (mk_vR hP hK hT hS [0, 1] rfl (q0 := 0) (ci := 1) rfl rfl) rfl rfl hl.1 rfl (lv_room (Nat.le_of_ble_eq_true rfl)) d_Ro_isName_36 ⟨Nat.zero_le _, Nat.zero_le _⟩) ?_
        have b_2 := (show ∀ j9, v j9 < 65536 by assumption) n
        refine lv_istore_n (lv' := [(1, .int (nI (v n))), (0, .ref h)]) hx hb d_Ro_isName_39 rfl hl (by decide) rfl (fun ls hl => ?_)
        refine lv_aload_n hx hb d_Ro_isName_40 rfl (lv_at hl 1 rfl) ?_
        refine va_get (D := (dC, dI)) (ci := 1) (v := .int (nI (n + 1))) (C := "LongNames$Row") (T := F_Ro) (N := 2) hx hb hts (iw_Ro _) hown hK hP 0 rfl rfl 1 (by decide) (hts _ (List.mem_cons_of_mem _ k_54)) (fun _ h9 => h9) rfl d_Ro_isName_41 ?_
        refine lv_if_le (tgt := 63) hx hb d_Ro_isName_44 (by decide) (fun c_3 => ?_) (fun c_3 => ?_)
        · skip
          rw [mk_cle (by omega)] at c_3
          first | omega | contradiction
        · skip
          rw [mk_cle (by omega)] at c_3
          refine lv_iload_n hx hb d_Ro_isName_47 rfl (lv_at hl 0 rfl) ?_
          refine lv_bipush (v := nI 32) hx hb d_Ro_isName_48 (by decide) ?_
          refine lv_icmp_eq (tgt := 63) hx hb d_Ro_isName_50 (by decide) (fun c_4 => ?_) (fun c_4 => ?_)
          · skip
            rw [nI_eq (by omega) (by omega)] at c_4
            refine lv_iconst (v := nI 0) hx hb d_Ro_isName_63 (by decide) ?_
            exact mk_ti (by exact mk_bf (by simp only [nameN, decide_eq_false_iff_not, Nat.add_sub_cancel]; intro h9; omega)) (hret _ _ d_Ro_isName_64)
          · skip
            rw [nI_eq (by omega) (by omega)] at c_4
            refine lv_iload_n hx hb d_Ro_isName_53 rfl (lv_at hl 0 rfl) ?_
            refine lv_bipush (v := nI 46) hx hb d_Ro_isName_54 (by decide) ?_
            refine lv_icmp_eq (tgt := 63) hx hb d_Ro_isName_56 (by decide) (fun c_5 => ?_) (fun c_5 => ?_)
            · skip
              rw [nI_eq (by omega) (by omega)] at c_5
              refine lv_iconst (v := nI 0) hx hb d_Ro_isName_63 (by decide) ?_
              exact mk_ti (by exact mk_bf (by simp only [nameN, decide_eq_false_iff_not, Nat.add_sub_cancel]; intro h9; omega)) (hret _ _ d_Ro_isName_64)
            · skip
              rw [nI_eq (by omega) (by omega)] at c_5
              refine lv_iconst (v := nI 1) hx hb d_Ro_isName_59 (by decide) ?_
              refine lv_goto (tgt := 64) hx hb d_Ro_isName_60 (by decide) ?_
              exact mk_ti (by exact mk_bt (by simp only [nameN, decide_eq_true_eq, Nat.add_sub_cancel]; exact ⟨by omega, by rw [← hi]; exact hq, by omega, by omega⟩)) (hret _ _ d_Ro_isName_64)
      · skip
        rw [nI_leI (by omega) (by omega)] at c_1
        first | omega | contradiction
    | succ k ih2 =>
      intro i ls hi hq hl
      refine lv_iload_n hx hb d_Ro_isName_2 rfl (lv_at hl 1 rfl) ?_
      refine lv_aload_n hx hb d_Ro_isName_3 rfl (lv_at hl 0 rfl) ?_
      refine va_get (D := (dC, dI)) (ci := 1) (v := .int (nI (n + 1))) (C := "LongNames$Row") (T := F_Ro) (N := 2) hx hb hts (iw_Ro _) hown hK hP 0 rfl rfl 1 (by decide) (hts _ (List.mem_cons_of_mem _ k_54)) (fun _ h9 => h9) rfl d_Ro_isName_4 ?_
      refine lv_icmp_ge (tgt := 29) hx hb d_Ro_isName_7 (by decide) (fun c_6 => ?_) (fun c_6 => ?_)
      · skip
        rw [nI_leI (by omega) (by omega)] at c_6
        first | omega | contradiction
      · skip
        rw [nI_leI (by omega) (by omega)] at c_6
        refine lv_aload_n hx hb d_Ro_isName_10 rfl (lv_at hl 0 rfl) ?_
        refine lv_iload_n hx hb d_Ro_isName_11 rfl (lv_at hl 1 rfl) ?_
        refine mk_r1 (W.runV (As := [.int (nI i)]) (rest := []) S (c_Ro_get l dC dI cI h a (n + 1) v i (by first | assumption | omega) (by first | assumption | omega) (by first | assumption | omega)) (gV 1 hts k_140 k_141 k_142 k_25 k_143 (by decide +kernel) ⟨Nat.le_of_ble_eq_true rfl, Nat.le_of_ble_eq_true rfl⟩) (mk_vR hP hK hT hS [0, 1] rfl (q0 := 0) (ci := 1) rfl rfl) rfl rfl hl.1 rfl (lv_room (Nat.le_of_ble_eq_true rfl)) d_Ro_isName_12 ⟨Nat.zero_le _, Nat.zero_le _⟩) ?_
        have b_7 := (show ∀ j9, v j9 < 65536 by assumption) i
        refine mk_r1 (W.runS (As := [.int (nI (v i))]) (rest := []) S (c_Un_name l dC dI cI (v i) (by first | assumption | omega)) (gS 1 hts k_144 k_145 k_30 k_146 (by decide +kernel) ⟨Nat.le_of_ble_eq_true rfl, Nat.le_of_ble_eq_true rfl⟩) (mk_sR hP hK hT hS [] rfl) rfl rfl hl.1 rfl (lv_room (Nat.le_of_ble_eq_true rfl)) d_Ro_isName_15 ⟨Nat.zero_le _, Nat.zero_le _⟩) ?_
        refine lv_if_ne (tgt := 23) hx hb d_Ro_isName_18 (by decide) (fun c_8 => ?_) (fun c_8 => ?_)
        · skip
          have c_8 := bI_1 c_8
          refine lv_iinc (v := nI (i + 1)) (lv' := [(1, .int (nI (i + 1))), (0, .ref h)]) hx hb d_Ro_isName_23 hl (k := 1) rfl (mk_i1 i) (by decide) rfl (fun ls hl => ?_)
          refine lv_goto (tgt := 2) hx hb d_Ro_isName_26 (by decide) ?_
          have hl : lv_has ls 2 [(0, .ref h), (1, .int (nI (i + 1)))] := lv_sub hl [1, 0] rfl
          exact ih2 (i + 1) _ (by omega) (lt_s hq (by assumption)) hl
        · skip
          have c_8 := bI_0 c_8
          refine lv_iconst (v := nI 0) hx hb d_Ro_isName_21 (by decide) ?_
          exact mk_ti (by exact mk_bf (by simp only [nameN, decide_eq_false_iff_not]; intro h9; have h8 := h9.2.1 i (by omega); rw [c_8] at h8; exact absurd h8 (by decide))) (hret _ _ d_Ro_isName_22)
  have hl : lv_has ls 2 [(0, .ref h), (1, .int (nI 0))] := lv_sub hl [1, 0] rfl
  exact lp2 (n + 1) 0 _ (by omega) (fun j hj => absurd hj (Nat.not_lt_zero j)) hl

theorem c_Ro_name (l : Launch) (dC : Nat → ClassId) (dI : Nat → Nat → Nat) (cI : ClassId) (h a n : Nat) (v : Nat → Nat) (hn : n ≤ 255) (hv : ∀ j, v j < 65536) : mR l y_Ro_isName w_Ro_isName ({ frames := 1, cells := 0, slots := 0, locals := 21 } : Room) [.ref h] (dC, dI) vwCl [(cI, .int)] [(h, .inr (1, [.ref a, .int (nI n)])), (a, .inl (cI, 255, .inl (nf v)))] (some (.int (bI (nameN v n)))) := by
  cases n with
  | zero => exact c_Ro_nameE l dC dI cI h a v
  | succ n => exact c_Ro_nameS l dC dI cI h a n v hn hv

set_option maxHeartbeats 4000000 in
set_option maxRecDepth 100000 in
theorem c_Ro_lp0 (l : Launch) (dC : Nat → ClassId) (dI : Nat → Nat → Nat) (cI : ClassId) (h a n : Nat) (v : Nat → Nat) (hn : n ≤ 255) (hv : ∀ j, v j < 65536) (h0 : lpN v n = 0) : mR l y_Ro_lastPoint w_Ro_lastPoint ({ frames := 1, cells := 0, slots := 0, locals := 21 } : Room) [.ref h] (dC, dI) vwCl [(cI, .int)] [(h, .inr (1, [.ref a, .int (nI n)])), (a, .inl (cI, 255, .inl (nf v)))] (some (.int (-1))) := by
  refine mk_Ri (cc := b_Ro_lastPoint) (maxL := 2) (by decide) rfl (Nat.le_of_ble_eq_true rfl) rfl ?_
  intro p e s m below meth c Q A ls S hP hK hT hS hl hret
  obtain ⟨hx, hb, hml, hown, hts⟩ := id S
  have hl : lv_has ls 2 [(0, .ref h)] := hl
  refine lv_aload_n hx hb d_Ro_lastPoint_0 rfl (lv_at hl 0 rfl) ?_
  refine va_get (D := (dC, dI)) (ci := 1) (v := .int (nI n)) (C := "LongNames$Row") (T := F_Ro) (N := 2) hx hb hts (iw_Ro _) hown hK hP 0 rfl rfl 1 (by decide) (hts _ (List.mem_cons_of_mem _ k_54)) (fun _ h9 => h9) rfl d_Ro_lastPoint_1 ?_
  refine lv_iconst (v := nI 1) hx hb d_Ro_lastPoint_4 (by decide) ?_
  refine lv_isub hx hb d_Ro_lastPoint_5 ?_
  refine lv_istore_n (lv' := [(1, .int ((nI n) - (nI 1))), (0, .ref h)]) hx hb d_Ro_lastPoint_6 rfl hl (by decide) rfl (fun ls hl => ?_)
  have lp7 : ∀ (k : Nat) (x : Int32) (ls : Array Slot), (x = nI k - 1) → (lpN v n = lpN v k) → (k ≤ n) → lv_has ls 2 [(0, .ref h), (1, .int x)] → W p l e ({ frames := 1, cells := 0, slots := 0, locals := 21 } : Room) s m ([.ref h] : List Value).toArray below meth c s.heap [] 0 0 Q (F0 m 7 ls []) := by
    intro k
    induction k with
    | zero =>
      intro x ls hx9 hlp hk hl
      obtain rfl : x = -1 := by rw [hx9]; decide
      have hl : lv_has ls 2 [(0, .ref h), (1, .int (-1))] := hl
      refine lv_iload_n hx hb d_Ro_lastPoint_7 rfl (lv_at hl 1 rfl) ?_
      refine lv_if_lt (tgt := 29) hx hb d_Ro_lastPoint_8 (by decide) (fun c_1 => ?_) (fun c_1 => ?_)
      · skip
        refine lv_iconst (v := (-1)) hx hb d_Ro_lastPoint_29 (by decide) ?_
        exact hret _ _ d_Ro_lastPoint_30
      · skip
        exact absurd (by decide) c_1
    | succ k ih7 =>
      intro x ls hx9 hlp hk hl
      obtain rfl : x = nI k := by rw [hx9]; exact nI_pred k
      have hl : lv_has ls 2 [(0, .ref h), (1, .int (nI k))] := hl
      refine lv_iload_n hx hb d_Ro_lastPoint_7 rfl (lv_at hl 1 rfl) ?_
      refine lv_if_lt (tgt := 29) hx hb d_Ro_lastPoint_8 (by decide) (fun c_2 => ?_) (fun c_2 => ?_)
      · skip
        rw [mk_clt (by omega)] at c_2
        first | omega | contradiction
      · skip
        rw [mk_clt (by omega)] at c_2
        refine lv_aload_n hx hb d_Ro_lastPoint_11 rfl (lv_at hl 0 rfl) ?_
        refine lv_iload_n hx hb d_Ro_lastPoint_12 rfl (lv_at hl 1 rfl) ?_
        refine mk_r1 (W.runV (As := [.int (nI k)]) (rest := []) S (c_Ro_get l dC dI cI h a n v k (by first | assumption | omega) (by first | assumption | omega) (by first | assumption | omega)) (gV 1 hts k_140 k_141 k_142 k_25 k_143 (by decide +kernel) ⟨Nat.le_of_ble_eq_true rfl, Nat.le_of_ble_eq_true rfl⟩) (mk_vR hP hK hT hS [0, 1] rfl (q0 := 0) (ci := 1) rfl rfl) rfl rfl hl.1 rfl (lv_room (Nat.le_of_ble_eq_true rfl)) d_Ro_lastPoint_13 ⟨Nat.zero_le _, Nat.zero_le _⟩) ?_
        have b_3 := (show ∀ j9, v j9 < 65536 by assumption) k
        refine lv_bipush (v := nI 46) hx hb d_Ro_lastPoint_16 (by decide) ?_
        refine lv_icmp_ne (tgt := 23) hx hb d_Ro_lastPoint_18 (by decide) (fun c_4 => ?_) (fun c_4 => ?_)
        · skip
          rw [nI_eq (by omega) (by omega)] at c_4
          refine lv_iinc (v := nI k - 1) (lv' := [(1, .int (nI k - 1)), (0, .ref h)]) hx hb d_Ro_lastPoint_23 hl (k := 1) rfl (mk_dec (nI k)) (by decide) rfl (fun ls hl => ?_)
          refine lv_goto (tgt := 7) hx hb d_Ro_lastPoint_26 (by decide) ?_
          have hl : lv_has ls 2 [(0, .ref h), (1, .int (nI k - 1))] := lv_sub hl [1, 0] rfl
          exact ih7 (nI k - 1) _ rfl (hlp.trans (by rw [lpN, if_neg c_4])) (by omega) hl
        · skip
          rw [nI_eq (by omega) (by omega)] at c_4
          refine lv_iload_n hx hb d_Ro_lastPoint_21 rfl (lv_at hl 1 rfl) ?_
          exact mk_ti (by exfalso; rw [h0, lpN, if_pos c_4] at hlp; omega) (hret _ _ d_Ro_lastPoint_22)
  have hl : lv_has ls 2 [(0, .ref h), (1, .int ((nI n) - (nI 1)))] := lv_sub hl [1, 0] rfl
  have hl9 : ([(0, .ref h), (1, .int ((nI n) - (nI 1)))] : List (Nat × Value)) = [(0, .ref h), (1, .int (nI n - nI 1))] := by rfl
  rw [hl9] at hl
  exact lp7 n (nI n - nI 1) _ rfl rfl (Nat.le_refl n) hl

set_option maxHeartbeats 4000000 in
set_option maxRecDepth 100000 in
theorem c_Ro_lpS (l : Launch) (dC : Nat → ClassId) (dI : Nat → Nat → Nat) (cI : ClassId) (h a n : Nat) (v : Nat → Nat) (m9 : Nat) (hn : n ≤ 255) (hv : ∀ j, v j < 65536) (h0 : lpN v n = m9 + 1) : mR l y_Ro_lastPoint w_Ro_lastPoint ({ frames := 1, cells := 0, slots := 0, locals := 21 } : Room) [.ref h] (dC, dI) vwCl [(cI, .int)] [(h, .inr (1, [.ref a, .int (nI n)])), (a, .inl (cI, 255, .inl (nf v)))] (some (.int (nI m9))) := by
  refine mk_Ri (cc := b_Ro_lastPoint) (maxL := 2) (by decide) rfl (Nat.le_of_ble_eq_true rfl) rfl ?_
  intro p e s m below meth c Q A ls S hP hK hT hS hl hret
  obtain ⟨hx, hb, hml, hown, hts⟩ := id S
  have hl : lv_has ls 2 [(0, .ref h)] := hl
  refine lv_aload_n hx hb d_Ro_lastPoint_0 rfl (lv_at hl 0 rfl) ?_
  refine va_get (D := (dC, dI)) (ci := 1) (v := .int (nI n)) (C := "LongNames$Row") (T := F_Ro) (N := 2) hx hb hts (iw_Ro _) hown hK hP 0 rfl rfl 1 (by decide) (hts _ (List.mem_cons_of_mem _ k_54)) (fun _ h9 => h9) rfl d_Ro_lastPoint_1 ?_
  refine lv_iconst (v := nI 1) hx hb d_Ro_lastPoint_4 (by decide) ?_
  refine lv_isub hx hb d_Ro_lastPoint_5 ?_
  refine lv_istore_n (lv' := [(1, .int ((nI n) - (nI 1))), (0, .ref h)]) hx hb d_Ro_lastPoint_6 rfl hl (by decide) rfl (fun ls hl => ?_)
  have lp7 : ∀ (k : Nat) (x : Int32) (ls : Array Slot), (x = nI k - 1) → (lpN v n = lpN v k) → (k ≤ n) → lv_has ls 2 [(0, .ref h), (1, .int x)] → W p l e ({ frames := 1, cells := 0, slots := 0, locals := 21 } : Room) s m ([.ref h] : List Value).toArray below meth c s.heap [] 0 0 Q (F0 m 7 ls []) := by
    intro k
    induction k with
    | zero =>
      intro x ls hx9 hlp hk hl
      obtain rfl : x = -1 := by rw [hx9]; decide
      have hl : lv_has ls 2 [(0, .ref h), (1, .int (-1))] := hl
      refine lv_iload_n hx hb d_Ro_lastPoint_7 rfl (lv_at hl 1 rfl) ?_
      refine lv_if_lt (tgt := 29) hx hb d_Ro_lastPoint_8 (by decide) (fun c_1 => ?_) (fun c_1 => ?_)
      · skip
        refine lv_iconst (v := (-1)) hx hb d_Ro_lastPoint_29 (by decide) ?_
        exact mk_ti (by exfalso; rw [h0, lpN] at hlp; omega) (hret _ _ d_Ro_lastPoint_30)
      · skip
        exact absurd (by decide) c_1
    | succ k ih7 =>
      intro x ls hx9 hlp hk hl
      obtain rfl : x = nI k := by rw [hx9]; exact nI_pred k
      have hl : lv_has ls 2 [(0, .ref h), (1, .int (nI k))] := hl
      refine lv_iload_n hx hb d_Ro_lastPoint_7 rfl (lv_at hl 1 rfl) ?_
      refine lv_if_lt (tgt := 29) hx hb d_Ro_lastPoint_8 (by decide) (fun c_2 => ?_) (fun c_2 => ?_)
      · skip
        rw [mk_clt (by omega)] at c_2
        first | omega | contradiction
      · skip
        rw [mk_clt (by omega)] at c_2
        refine lv_aload_n hx hb d_Ro_lastPoint_11 rfl (lv_at hl 0 rfl) ?_
        refine lv_iload_n hx hb d_Ro_lastPoint_12 rfl (lv_at hl 1 rfl) ?_
        refine mk_r1 (W.runV (As := [.int (nI k)]) (rest := []) S (c_Ro_get l dC dI cI h a n v k (by first | assumption | omega) (by first | assumption | omega) (by first | assumption | omega)) (gV 1 hts k_140 k_141 k_142 k_25 k_143 (by decide +kernel) ⟨Nat.le_of_ble_eq_true rfl, Nat.le_of_ble_eq_true rfl⟩) (mk_vR hP hK hT hS [0, 1] rfl (q0 := 0) (ci := 1) rfl rfl) rfl rfl hl.1 rfl (lv_room (Nat.le_of_ble_eq_true rfl)) d_Ro_lastPoint_13 ⟨Nat.zero_le _, Nat.zero_le _⟩) ?_
        have b_3 := (show ∀ j9, v j9 < 65536 by assumption) k
        refine lv_bipush (v := nI 46) hx hb d_Ro_lastPoint_16 (by decide) ?_
        refine lv_icmp_ne (tgt := 23) hx hb d_Ro_lastPoint_18 (by decide) (fun c_4 => ?_) (fun c_4 => ?_)
        · skip
          rw [nI_eq (by omega) (by omega)] at c_4
          refine lv_iinc (v := nI k - 1) (lv' := [(1, .int (nI k - 1)), (0, .ref h)]) hx hb d_Ro_lastPoint_23 hl (k := 1) rfl (mk_dec (nI k)) (by decide) rfl (fun ls hl => ?_)
          refine lv_goto (tgt := 7) hx hb d_Ro_lastPoint_26 (by decide) ?_
          have hl : lv_has ls 2 [(0, .ref h), (1, .int (nI k - 1))] := lv_sub hl [1, 0] rfl
          exact ih7 (nI k - 1) _ rfl (hlp.trans (by rw [lpN, if_neg c_4])) (by omega) hl
        · skip
          rw [nI_eq (by omega) (by omega)] at c_4
          refine lv_iload_n hx hb d_Ro_lastPoint_21 rfl (lv_at hl 1 rfl) ?_
          exact mk_ti (by rw [h0, lpN, if_pos c_4] at hlp; rw [show k = m9 by omega]) (hret _ _ d_Ro_lastPoint_22)
  have hl : lv_has ls 2 [(0, .ref h), (1, .int ((nI n) - (nI 1)))] := lv_sub hl [1, 0] rfl
  have hl9 : ([(0, .ref h), (1, .int ((nI n) - (nI 1)))] : List (Nat × Value)) = [(0, .ref h), (1, .int (nI n - nI 1))] := by rfl
  rw [hl9] at hl
  exact lp7 n (nI n - nI 1) _ rfl rfl (Nat.le_refl n) hl

set_option maxHeartbeats 4000000 in
set_option maxRecDepth 100000 in
theorem c_Ro_sh0 (l : Launch) (dC : Nat → ClassId) (dI : Nat → Nat → Nat) (cI : ClassId) (h a n : Nat) (v : Nat → Nat) (hn : n ≤ 255) (hv : ∀ j, v j < 65536) (h0 : lpN v n = 0) : mR l y_Ro_isShortAsShown w_Ro_isShortAsShown ({ frames := 2, cells := 0, slots := 0, locals := 42 } : Room) [.ref h] (dC, dI) vwCl [(cI, .int)] [(h, .inr (1, [.ref a, .int (nI n)])), (a, .inl (cI, 255, .inl (nf v)))] (some (.int (bI (shortN v n)))) := by
  refine mk_Ri (cc := b_Ro_isShortAsShown) (maxL := 5) (by decide) rfl (Nat.le_of_ble_eq_true rfl) (mk_nz _) ?_
  intro p e s m below meth c Q A ls S hP hK hT hS hl hret
  obtain ⟨hx, hb, hml, hown, hts⟩ := id S
  have hl : lv_has ls 5 [(0, .ref h)] := hl
  refine lv_aload_n hx hb d_Ro_isShortAsShown_0 rfl (lv_at hl 0 rfl) ?_
  refine mk_r1 (W.runV (As := []) (rest := []) S (c_Ro_lp0 l dC dI cI h a n v (by first | assumption | omega) (by first | assumption | omega) (by first | assumption | omega)) (gV 0 hts k_154 k_155 k_156 k_25 k_157 (by decide +kernel) ⟨Nat.le_of_ble_eq_true rfl, Nat.le_of_ble_eq_true rfl⟩) (mk_vR hP hK hT hS [0, 1] rfl (q0 := 0) (ci := 1) rfl rfl) rfl rfl hl.1 rfl (lv_room (Nat.le_of_ble_eq_true rfl)) d_Ro_isShortAsShown_1 ⟨Nat.zero_le _, Nat.zero_le _⟩) ?_
  refine lv_istore_n (lv' := [(1, .int (-1)), (0, .ref h)]) hx hb d_Ro_isShortAsShown_4 rfl hl (by decide) rfl (fun ls hl => ?_)
  refine lv_iload_n hx hb d_Ro_isShortAsShown_5 rfl (lv_at hl 0 rfl) ?_
  refine lv_iconst (v := (-1)) hx hb d_Ro_isShortAsShown_6 (by decide) ?_
  refine lv_icmp_ne (tgt := 17) hx hb d_Ro_isShortAsShown_7 (by decide) (fun c_1 => ?_) (fun c_1 => ?_)
  · skip
    exact absurd rfl c_1
  · skip
    refine lv_aload_n hx hb d_Ro_isShortAsShown_10 rfl (lv_at hl 1 rfl) ?_
    refine va_get (D := (dC, dI)) (ci := 1) (v := .int (nI n)) (C := "LongNames$Row") (T := F_Ro) (N := 2) hx hb hts (iw_Ro _) hown hK hP 0 rfl rfl 1 (by decide) (hts _ (List.mem_cons_of_mem _ k_54)) (fun _ h9 => h9) rfl d_Ro_isShortAsShown_11 ?_
    refine lv_goto (tgt := 18) hx hb d_Ro_isShortAsShown_14 (by decide) ?_
    refine lv_istore_n (lv' := [(2, .int (nI n)), (1, .int (-1)), (0, .ref h)]) hx hb d_Ro_isShortAsShown_18 rfl hl (by decide) rfl (fun ls hl => ?_)
    refine lv_aload_n hx hb d_Ro_isShortAsShown_19 rfl (lv_at hl 2 rfl) ?_
    refine va_get (D := (dC, dI)) (ci := 1) (v := .int (nI n)) (C := "LongNames$Row") (T := F_Ro) (N := 2) hx hb hts (iw_Ro _) hown hK hP 0 rfl rfl 1 (by decide) (hts _ (List.mem_cons_of_mem _ k_54)) (fun _ h9 => h9) rfl d_Ro_isShortAsShown_20 ?_
    refine lv_iload_n hx hb d_Ro_isShortAsShown_23 rfl (lv_at hl 0 rfl) ?_
    refine lv_isub hx hb d_Ro_isShortAsShown_24 ?_
    refine mk_ti (y := nI (n - n)) (pk_sub (by omega)) ?_
    refine lv_iconst (v := nI 1) hx hb d_Ro_isShortAsShown_25 (by decide) ?_
    refine lv_isub hx hb d_Ro_isShortAsShown_26 ?_
    refine lv_istore_n (lv' := [(3, .int ((nI (n - n)) - (nI 1))), (2, .int (nI n)), (1, .int (-1)), (0, .ref h)]) hx hb d_Ro_isShortAsShown_27 rfl hl (by decide) rfl (fun ls hl => ?_)
    refine lv_iload_n hx hb d_Ro_isShortAsShown_28 rfl (lv_at hl 1 rfl) ?_
    refine lv_iconst (v := nI 1) hx hb d_Ro_isShortAsShown_29 (by decide) ?_
    refine lv_icmp_lt (tgt := 39) hx hb d_Ro_isShortAsShown_30 (by decide) (fun c_2 => ?_) (fun c_2 => ?_)
    · skip
      rw [nI_ltI (by omega) (by omega)] at c_2
      refine lv_iconst (v := nI 0) hx hb d_Ro_isShortAsShown_39 (by decide) ?_
      exact mk_ti (by exact mk_bf (by simp only [shortN, decide_eq_false_iff_not]; intro h9; have h8 := h9.1 h0; omega)) (hret _ _ d_Ro_isShortAsShown_40)
    · skip
      rw [nI_ltI (by omega) (by omega)] at c_2
      refine lv_iload_n hx hb d_Ro_isShortAsShown_33 rfl (lv_at hl 1 rfl) ?_
      refine lv_bipush (v := nI 8) hx hb d_Ro_isShortAsShown_34 (by decide) ?_
      refine lv_icmp_le (tgt := 41) hx hb d_Ro_isShortAsShown_36 (by decide) (fun c_3 => ?_) (fun c_3 => ?_)
      · skip
        rw [nI_leI (by omega) (by omega)] at c_3
        refine lv_iload_n hx hb d_Ro_isShortAsShown_41 rfl (lv_at hl 2 rfl) ?_
        refine lv_iconst (v := (-1)) hx hb d_Ro_isShortAsShown_42 (by decide) ?_
        refine lv_icmp_eq (tgt := 58) hx hb d_Ro_isShortAsShown_43 (by decide) (fun c_4 => ?_) (fun c_4 => ?_)
        · skip
          refine lv_iconst (v := nI 0) hx hb d_Ro_isShortAsShown_58 (by decide) ?_
          refine lv_istore (lv' := [(4, .int (nI 0)), (3, .int ((nI (n - n)) - (nI 1))), (2, .int (nI n)), (1, .int (-1)), (0, .ref h)]) hx hb d_Ro_isShortAsShown_59 hl (by decide) rfl (fun ls hl => ?_)
          have lp61 : ∀ (k : Nat) (i : Nat) (ls : Array Slot), (i + k = n) → (∀ j, j < i → okS (v j) = true) → lv_has ls 5 [(0, .ref h), (1, .int (-1)), (4, .int (nI i))] → W p l e ({ frames := 2, cells := 0, slots := 0, locals := 42 } : Room) s m ([.ref h] : List Value).toArray below meth c s.heap [] 0 0 Q (F0 m 61 ls []) := by
            intro k
            induction k with
            | zero =>
              intro i ls hi hq hl
              refine lv_iload hx hb d_Ro_isShortAsShown_61 (lv_at hl 2 rfl) ?_
              refine lv_aload_n hx hb d_Ro_isShortAsShown_63 rfl (lv_at hl 0 rfl) ?_
              refine va_get (D := (dC, dI)) (ci := 1) (v := .int (nI n)) (C := "LongNames$Row") (T := F_Ro) (N := 2) hx hb hts (iw_Ro _) hown hK hP 0 rfl rfl 1 (by decide) (hts _ (List.mem_cons_of_mem _ k_54)) (fun _ h9 => h9) rfl d_Ro_isShortAsShown_64 ?_
              refine lv_icmp_ge (tgt := 96) hx hb d_Ro_isShortAsShown_67 (by decide) (fun c_5 => ?_) (fun c_5 => ?_)
              · skip
                rw [nI_leI (by omega) (by omega)] at c_5
                refine lv_iconst (v := nI 1) hx hb d_Ro_isShortAsShown_96 (by decide) ?_
                exact mk_ti (by exact mk_bt (by simp only [shortN, decide_eq_true_eq]; exact ⟨fun _ => ⟨by omega, by omega⟩, fun h9 => by omega, fun j hj => Or.inr (hq j (by omega))⟩)) (hret _ _ d_Ro_isShortAsShown_97)
              · skip
                rw [nI_leI (by omega) (by omega)] at c_5
                first | omega | contradiction
            | succ k ih61 =>
              intro i ls hi hq hl
              refine lv_iload hx hb d_Ro_isShortAsShown_61 (lv_at hl 2 rfl) ?_
              refine lv_aload_n hx hb d_Ro_isShortAsShown_63 rfl (lv_at hl 0 rfl) ?_
              refine va_get (D := (dC, dI)) (ci := 1) (v := .int (nI n)) (C := "LongNames$Row") (T := F_Ro) (N := 2) hx hb hts (iw_Ro _) hown hK hP 0 rfl rfl 1 (by decide) (hts _ (List.mem_cons_of_mem _ k_54)) (fun _ h9 => h9) rfl d_Ro_isShortAsShown_64 ?_
              refine lv_icmp_ge (tgt := 96) hx hb d_Ro_isShortAsShown_67 (by decide) (fun c_6 => ?_) (fun c_6 => ?_)
              · skip
                rw [nI_leI (by omega) (by omega)] at c_6
                first | omega | contradiction
              · skip
                rw [nI_leI (by omega) (by omega)] at c_6
                refine lv_iload hx hb d_Ro_isShortAsShown_70 (lv_at hl 2 rfl) ?_
                refine lv_iload_n hx hb d_Ro_isShortAsShown_72 rfl (lv_at hl 1 rfl) ?_
                refine lv_icmp_eq (tgt := 90) hx hb d_Ro_isShortAsShown_73 (by decide) (fun c_7 => ?_) (fun c_7 => ?_)
                · skip
                  exact absurd c_7 (mk_nm1 (by omega))
                · skip
                  refine lv_aload_n hx hb d_Ro_isShortAsShown_76 rfl (lv_at hl 0 rfl) ?_
                  refine lv_iload hx hb d_Ro_isShortAsShown_77 (lv_at hl 2 rfl) ?_
                  refine mk_r1 (W.runV (As := [.int (nI i)]) (rest := []) S (c_Ro_get l dC dI cI h a n v i (by first | assumption | omega) (by first | assumption | omega) (by first | assumption | omega)) (gV 1 hts k_140 k_141 k_142 k_25 k_143 (by decide +kernel) ⟨Nat.le_of_ble_eq_true rfl, Nat.le_of_ble_eq_true rfl⟩) (mk_vR hP hK hT hS [0, 1] rfl (q0 := 0) (ci := 1) rfl rfl) rfl rfl hl.1 rfl (lv_room (Nat.le_of_ble_eq_true rfl)) d_Ro_isShortAsShown_79 ⟨Nat.zero_le _, Nat.zero_le _⟩) ?_
                  have b_8 := (show ∀ j9, v j9 < 65536 by assumption) i
                  refine mk_r1 (W.runS (As := [.int (nI (v i))]) (rest := []) S (c_Un_short l dC dI cI (v i) (by first | assumption | omega)) (gS 1 hts k_158 k_159 k_30 k_160 (by decide +kernel) ⟨Nat.le_of_ble_eq_true rfl, Nat.le_of_ble_eq_true rfl⟩) (mk_sR hP hK hT hS [] rfl) rfl rfl hl.1 rfl (lv_room (Nat.le_of_ble_eq_true rfl)) d_Ro_isShortAsShown_82 ⟨Nat.zero_le _, Nat.zero_le _⟩) ?_
                  refine lv_if_ne (tgt := 90) hx hb d_Ro_isShortAsShown_85 (by decide) (fun c_9 => ?_) (fun c_9 => ?_)
                  · skip
                    have c_9 := bI_1 c_9
                    refine lv_iinc (v := nI (i + 1)) (lv' := [(4, .int (nI (i + 1))), (0, .ref h), (1, .int (-1))]) hx hb d_Ro_isShortAsShown_90 hl (k := 2) rfl (mk_i1 i) (by decide) rfl (fun ls hl => ?_)
                    refine lv_goto (tgt := 61) hx hb d_Ro_isShortAsShown_93 (by decide) ?_
                    have hl : lv_has ls 5 [(0, .ref h), (1, .int (-1)), (4, .int (nI (i + 1)))] := lv_sub hl [1, 2, 0] rfl
                    exact ih61 (i + 1) _ (by omega) (lt_s hq (by assumption)) hl
                  · skip
                    have c_9 := bI_0 c_9
                    refine lv_iconst (v := nI 0) hx hb d_Ro_isShortAsShown_88 (by decide) ?_
                    exact mk_ti (by exact mk_bf (by simp only [shortN, decide_eq_false_iff_not]; intro h9; rcases h9.2.2 i (by omega) with h8 | h8 <;> first | omega | (rw [c_9] at h8; exact absurd h8 (by decide)))) (hret _ _ d_Ro_isShortAsShown_89)
          have hl : lv_has ls 5 [(0, .ref h), (1, .int (-1)), (4, .int (nI 0))] := lv_sub hl [4, 3, 0] rfl
          exact lp61 n 0 _ (by omega) (fun j hj => absurd hj (Nat.not_lt_zero j)) hl
        · skip
          exact absurd rfl c_4
      · skip
        rw [nI_leI (by omega) (by omega)] at c_3
        refine lv_iconst (v := nI 0) hx hb d_Ro_isShortAsShown_39 (by decide) ?_
        exact mk_ti (by exact mk_bf (by simp only [shortN, decide_eq_false_iff_not]; intro h9; have h8 := h9.1 h0; omega)) (hret _ _ d_Ro_isShortAsShown_40)

set_option maxHeartbeats 4000000 in
set_option maxRecDepth 100000 in
theorem c_Ro_sh1 (l : Launch) (dC : Nat → ClassId) (dI : Nat → Nat → Nat) (cI : ClassId) (h a n : Nat) (v : Nat → Nat) (m9 : Nat) (hn : n ≤ 255) (hv : ∀ j, v j < 65536) (h0 : lpN v n = m9 + 1) : mR l y_Ro_isShortAsShown w_Ro_isShortAsShown ({ frames := 2, cells := 0, slots := 0, locals := 42 } : Room) [.ref h] (dC, dI) vwCl [(cI, .int)] [(h, .inr (1, [.ref a, .int (nI n)])), (a, .inl (cI, 255, .inl (nf v)))] (some (.int (bI (shortN v n)))) := by
  have hm9 := lpN_le v n
  refine mk_Ri (cc := b_Ro_isShortAsShown) (maxL := 5) (by decide) rfl (Nat.le_of_ble_eq_true rfl) (mk_nz _) ?_
  intro p e s m below meth c Q A ls S hP hK hT hS hl hret
  obtain ⟨hx, hb, hml, hown, hts⟩ := id S
  have hl : lv_has ls 5 [(0, .ref h)] := hl
  refine lv_aload_n hx hb d_Ro_isShortAsShown_0 rfl (lv_at hl 0 rfl) ?_
  refine mk_r1 (W.runV (As := []) (rest := []) S (c_Ro_lpS l dC dI cI h a n v m9 (by first | assumption | omega) (by first | assumption | omega) (by first | assumption | omega)) (gV 0 hts k_154 k_155 k_156 k_25 k_157 (by decide +kernel) ⟨Nat.le_of_ble_eq_true rfl, Nat.le_of_ble_eq_true rfl⟩) (mk_vR hP hK hT hS [0, 1] rfl (q0 := 0) (ci := 1) rfl rfl) rfl rfl hl.1 rfl (lv_room (Nat.le_of_ble_eq_true rfl)) d_Ro_isShortAsShown_1 ⟨Nat.zero_le _, Nat.zero_le _⟩) ?_
  refine lv_istore_n (lv' := [(1, .int (nI m9)), (0, .ref h)]) hx hb d_Ro_isShortAsShown_4 rfl hl (by decide) rfl (fun ls hl => ?_)
  refine lv_iload_n hx hb d_Ro_isShortAsShown_5 rfl (lv_at hl 0 rfl) ?_
  refine lv_iconst (v := (-1)) hx hb d_Ro_isShortAsShown_6 (by decide) ?_
  refine lv_icmp_ne (tgt := 17) hx hb d_Ro_isShortAsShown_7 (by decide) (fun c_1 => ?_) (fun c_1 => ?_)
  · skip
    refine lv_iload_n hx hb d_Ro_isShortAsShown_17 rfl (lv_at hl 0 rfl) ?_
    refine lv_istore_n (lv' := [(2, .int (nI m9)), (1, .int (nI m9)), (0, .ref h)]) hx hb d_Ro_isShortAsShown_18 rfl hl (by decide) rfl (fun ls hl => ?_)
    refine lv_aload_n hx hb d_Ro_isShortAsShown_19 rfl (lv_at hl 2 rfl) ?_
    refine va_get (D := (dC, dI)) (ci := 1) (v := .int (nI n)) (C := "LongNames$Row") (T := F_Ro) (N := 2) hx hb hts (iw_Ro _) hown hK hP 0 rfl rfl 1 (by decide) (hts _ (List.mem_cons_of_mem _ k_54)) (fun _ h9 => h9) rfl d_Ro_isShortAsShown_20 ?_
    refine lv_iload_n hx hb d_Ro_isShortAsShown_23 rfl (lv_at hl 0 rfl) ?_
    refine lv_isub hx hb d_Ro_isShortAsShown_24 ?_
    refine mk_ti (y := nI (n - m9)) (pk_sub (by omega)) ?_
    refine lv_iconst (v := nI 1) hx hb d_Ro_isShortAsShown_25 (by decide) ?_
    refine lv_isub hx hb d_Ro_isShortAsShown_26 ?_
    refine mk_ti (y := nI (n - m9 - 1)) (pk_sub (by omega)) ?_
    refine lv_istore_n (lv' := [(3, .int (nI (n - m9 - 1))), (2, .int (nI m9)), (1, .int (nI m9)), (0, .ref h)]) hx hb d_Ro_isShortAsShown_27 rfl hl (by decide) rfl (fun ls hl => ?_)
    refine lv_iload_n hx hb d_Ro_isShortAsShown_28 rfl (lv_at hl 1 rfl) ?_
    refine lv_iconst (v := nI 1) hx hb d_Ro_isShortAsShown_29 (by decide) ?_
    refine lv_icmp_lt (tgt := 39) hx hb d_Ro_isShortAsShown_30 (by decide) (fun c_2 => ?_) (fun c_2 => ?_)
    · skip
      rw [nI_ltI (by omega) (by omega)] at c_2
      refine lv_iconst (v := nI 0) hx hb d_Ro_isShortAsShown_39 (by decide) ?_
      exact mk_ti (by exact mk_bf (by simp only [shortN, decide_eq_false_iff_not]; intro h9; have h8 := h9.2.1 (by omega); omega)) (hret _ _ d_Ro_isShortAsShown_40)
    · skip
      rw [nI_ltI (by omega) (by omega)] at c_2
      refine lv_iload_n hx hb d_Ro_isShortAsShown_33 rfl (lv_at hl 1 rfl) ?_
      refine lv_bipush (v := nI 8) hx hb d_Ro_isShortAsShown_34 (by decide) ?_
      refine lv_icmp_le (tgt := 41) hx hb d_Ro_isShortAsShown_36 (by decide) (fun c_3 => ?_) (fun c_3 => ?_)
      · skip
        rw [nI_leI (by omega) (by omega)] at c_3
        refine lv_iload_n hx hb d_Ro_isShortAsShown_41 rfl (lv_at hl 2 rfl) ?_
        refine lv_iconst (v := (-1)) hx hb d_Ro_isShortAsShown_42 (by decide) ?_
        refine lv_icmp_eq (tgt := 58) hx hb d_Ro_isShortAsShown_43 (by decide) (fun c_4 => ?_) (fun c_4 => ?_)
        · skip
          exact absurd c_4 (mk_nm1 (by omega))
        · skip
          refine lv_iload_n hx hb d_Ro_isShortAsShown_46 rfl (lv_at hl 0 rfl) ?_
          refine lv_iconst (v := nI 1) hx hb d_Ro_isShortAsShown_47 (by decide) ?_
          refine lv_icmp_lt (tgt := 56) hx hb d_Ro_isShortAsShown_48 (by decide) (fun c_5 => ?_) (fun c_5 => ?_)
          · skip
            rw [nI_ltI (by omega) (by omega)] at c_5
            refine lv_iconst (v := nI 0) hx hb d_Ro_isShortAsShown_56 (by decide) ?_
            exact mk_ti (by exact mk_bf (by simp only [shortN, decide_eq_false_iff_not]; intro h9; have h8 := h9.2.1 (by omega); omega)) (hret _ _ d_Ro_isShortAsShown_57)
          · skip
            rw [nI_ltI (by omega) (by omega)] at c_5
            refine lv_iload_n hx hb d_Ro_isShortAsShown_51 rfl (lv_at hl 0 rfl) ?_
            refine lv_iconst (v := nI 3) hx hb d_Ro_isShortAsShown_52 (by decide) ?_
            refine lv_icmp_le (tgt := 58) hx hb d_Ro_isShortAsShown_53 (by decide) (fun c_6 => ?_) (fun c_6 => ?_)
            · skip
              rw [nI_leI (by omega) (by omega)] at c_6
              refine lv_iconst (v := nI 0) hx hb d_Ro_isShortAsShown_58 (by decide) ?_
              refine lv_istore (lv' := [(4, .int (nI 0)), (3, .int (nI (n - m9 - 1))), (2, .int (nI m9)), (1, .int (nI m9)), (0, .ref h)]) hx hb d_Ro_isShortAsShown_59 hl (by decide) rfl (fun ls hl => ?_)
              have lp61 : ∀ (k : Nat) (i : Nat) (ls : Array Slot), (i + k = n) → (∀ j, j < i → j = m9 ∨ okS (v j) = true) → lv_has ls 5 [(0, .ref h), (1, .int (nI m9)), (4, .int (nI i))] → W p l e ({ frames := 2, cells := 0, slots := 0, locals := 42 } : Room) s m ([.ref h] : List Value).toArray below meth c s.heap [] 0 0 Q (F0 m 61 ls []) := by
                intro k
                induction k with
                | zero =>
                  intro i ls hi hq hl
                  refine lv_iload hx hb d_Ro_isShortAsShown_61 (lv_at hl 2 rfl) ?_
                  refine lv_aload_n hx hb d_Ro_isShortAsShown_63 rfl (lv_at hl 0 rfl) ?_
                  refine va_get (D := (dC, dI)) (ci := 1) (v := .int (nI n)) (C := "LongNames$Row") (T := F_Ro) (N := 2) hx hb hts (iw_Ro _) hown hK hP 0 rfl rfl 1 (by decide) (hts _ (List.mem_cons_of_mem _ k_54)) (fun _ h9 => h9) rfl d_Ro_isShortAsShown_64 ?_
                  refine lv_icmp_ge (tgt := 96) hx hb d_Ro_isShortAsShown_67 (by decide) (fun c_7 => ?_) (fun c_7 => ?_)
                  · skip
                    rw [nI_leI (by omega) (by omega)] at c_7
                    refine lv_iconst (v := nI 1) hx hb d_Ro_isShortAsShown_96 (by decide) ?_
                    exact mk_ti (by exact mk_bt (by simp only [shortN, decide_eq_true_eq]; exact ⟨fun h9 => by omega, fun _ => ⟨by omega, by omega, by omega, by omega⟩, fun j hj => (hq j (by omega)).imp (fun h9 => by omega) id⟩)) (hret _ _ d_Ro_isShortAsShown_97)
                  · skip
                    rw [nI_leI (by omega) (by omega)] at c_7
                    first | omega | contradiction
                | succ k ih61 =>
                  intro i ls hi hq hl
                  refine lv_iload hx hb d_Ro_isShortAsShown_61 (lv_at hl 2 rfl) ?_
                  refine lv_aload_n hx hb d_Ro_isShortAsShown_63 rfl (lv_at hl 0 rfl) ?_
                  refine va_get (D := (dC, dI)) (ci := 1) (v := .int (nI n)) (C := "LongNames$Row") (T := F_Ro) (N := 2) hx hb hts (iw_Ro _) hown hK hP 0 rfl rfl 1 (by decide) (hts _ (List.mem_cons_of_mem _ k_54)) (fun _ h9 => h9) rfl d_Ro_isShortAsShown_64 ?_
                  refine lv_icmp_ge (tgt := 96) hx hb d_Ro_isShortAsShown_67 (by decide) (fun c_8 => ?_) (fun c_8 => ?_)
                  · skip
                    rw [nI_leI (by omega) (by omega)] at c_8
                    first | omega | contradiction
                  · skip
                    rw [nI_leI (by omega) (by omega)] at c_8
                    refine lv_iload hx hb d_Ro_isShortAsShown_70 (lv_at hl 2 rfl) ?_
                    refine lv_iload_n hx hb d_Ro_isShortAsShown_72 rfl (lv_at hl 1 rfl) ?_
                    refine lv_icmp_eq (tgt := 90) hx hb d_Ro_isShortAsShown_73 (by decide) (fun c_9 => ?_) (fun c_9 => ?_)
                    · skip
                      rw [nI_eq (by omega) (by omega)] at c_9
                      refine lv_iinc (v := nI (i + 1)) (lv' := [(4, .int (nI (i + 1))), (0, .ref h), (1, .int (nI m9))]) hx hb d_Ro_isShortAsShown_90 hl (k := 2) rfl (mk_i1 i) (by decide) rfl (fun ls hl => ?_)
                      refine lv_goto (tgt := 61) hx hb d_Ro_isShortAsShown_93 (by decide) ?_
                      have hl : lv_has ls 5 [(0, .ref h), (1, .int (nI m9)), (4, .int (nI (i + 1)))] := lv_sub hl [1, 2, 0] rfl
                      exact ih61 (i + 1) _ (by omega) (lt_s hq (by first | exact Or.inl (by omega) | exact Or.inr (by assumption))) hl
                    · skip
                      rw [nI_eq (by omega) (by omega)] at c_9
                      refine lv_aload_n hx hb d_Ro_isShortAsShown_76 rfl (lv_at hl 0 rfl) ?_
                      refine lv_iload hx hb d_Ro_isShortAsShown_77 (lv_at hl 2 rfl) ?_
                      refine mk_r1 (W.runV (As := [.int (nI i)]) (rest := []) S (c_Ro_get l dC dI cI h a n v i (by first | assumption | omega) (by first | assumption | omega) (by first | assumption | omega)) (gV 1 hts k_140 k_141 k_142 k_25 k_143 (by decide +kernel) ⟨Nat.le_of_ble_eq_true rfl, Nat.le_of_ble_eq_true rfl⟩) (mk_vR hP hK hT hS [0, 1] rfl (q0 := 0) (ci := 1) rfl rfl) rfl rfl hl.1 rfl (lv_room (Nat.le_of_ble_eq_true rfl)) d_Ro_isShortAsShown_79 ⟨Nat.zero_le _, Nat.zero_le _⟩) ?_
                      have b_10 := (show ∀ j9, v j9 < 65536 by assumption) i
                      refine mk_r1 (W.runS (As := [.int (nI (v i))]) (rest := []) S (c_Un_short l dC dI cI (v i) (by first | assumption | omega)) (gS 1 hts k_158 k_159 k_30 k_160 (by decide +kernel) ⟨Nat.le_of_ble_eq_true rfl, Nat.le_of_ble_eq_true rfl⟩) (mk_sR hP hK hT hS [] rfl) rfl rfl hl.1 rfl (lv_room (Nat.le_of_ble_eq_true rfl)) d_Ro_isShortAsShown_82 ⟨Nat.zero_le _, Nat.zero_le _⟩) ?_
                      refine lv_if_ne (tgt := 90) hx hb d_Ro_isShortAsShown_85 (by decide) (fun c_11 => ?_) (fun c_11 => ?_)
                      · skip
                        have c_11 := bI_1 c_11
                        refine lv_iinc (v := nI (i + 1)) (lv' := [(4, .int (nI (i + 1))), (0, .ref h), (1, .int (nI m9))]) hx hb d_Ro_isShortAsShown_90 hl (k := 2) rfl (mk_i1 i) (by decide) rfl (fun ls hl => ?_)
                        refine lv_goto (tgt := 61) hx hb d_Ro_isShortAsShown_93 (by decide) ?_
                        have hl : lv_has ls 5 [(0, .ref h), (1, .int (nI m9)), (4, .int (nI (i + 1)))] := lv_sub hl [1, 2, 0] rfl
                        exact ih61 (i + 1) _ (by omega) (lt_s hq (by first | exact Or.inl (by omega) | exact Or.inr (by assumption))) hl
                      · skip
                        have c_11 := bI_0 c_11
                        refine lv_iconst (v := nI 0) hx hb d_Ro_isShortAsShown_88 (by decide) ?_
                        exact mk_ti (by exact mk_bf (by simp only [shortN, decide_eq_false_iff_not]; intro h9; rcases h9.2.2 i (by omega) with h8 | h8 <;> first | omega | (rw [c_11] at h8; exact absurd h8 (by decide)))) (hret _ _ d_Ro_isShortAsShown_89)
              have hl : lv_has ls 5 [(0, .ref h), (1, .int (nI m9)), (4, .int (nI 0))] := lv_sub hl [4, 3, 0] rfl
              exact lp61 n 0 _ (by omega) (fun j hj => absurd hj (Nat.not_lt_zero j)) hl
            · skip
              rw [nI_leI (by omega) (by omega)] at c_6
              refine lv_iconst (v := nI 0) hx hb d_Ro_isShortAsShown_56 (by decide) ?_
              exact mk_ti (by exact mk_bf (by simp only [shortN, decide_eq_false_iff_not]; intro h9; have h8 := h9.2.1 (by omega); omega)) (hret _ _ d_Ro_isShortAsShown_57)
      · skip
        rw [nI_leI (by omega) (by omega)] at c_3
        refine lv_iconst (v := nI 0) hx hb d_Ro_isShortAsShown_39 (by decide) ?_
        exact mk_ti (by exact mk_bf (by simp only [shortN, decide_eq_false_iff_not]; intro h9; have h8 := h9.2.1 (by omega); omega)) (hret _ _ d_Ro_isShortAsShown_40)
  · skip
    exact absurd c_1 (mk_nm1 (by omega))

theorem c_Ro_short (l : Launch) (dC : Nat → ClassId) (dI : Nat → Nat → Nat) (cI : ClassId) (h a n : Nat) (v : Nat → Nat) (hn : n ≤ 255) (hv : ∀ j, v j < 65536) : mR l y_Ro_isShortAsShown w_Ro_isShortAsShown ({ frames := 2, cells := 0, slots := 0, locals := 42 } : Room) [.ref h] (dC, dI) vwCl [(cI, .int)] [(h, .inr (1, [.ref a, .int (nI n)])), (a, .inl (cI, 255, .inl (nf v)))] (some (.int (bI (shortN v n)))) := by
  cases h0 : lpN v n with
  | zero => exact c_Ro_sh0 l dC dI cI h a n v hn hv h0
  | succ m => exact c_Ro_sh1 l dC dI cI h a n v m hn hv h0

set_option maxHeartbeats 4000000 in
set_option maxRecDepth 100000 in
theorem c_Ro_parts (l : Launch) (dC : Nat → ClassId) (dI : Nat → Nat → Nat) (cI : ClassId) (h a n : Nat) (v : Nat → Nat) (hn : n ≤ 255) : mR l y_Ro_partsNeeded w_Ro_partsNeeded ({ frames := 0, cells := 0, slots := 0, locals := 0 } : Room) [.ref h] (dC, dI) vwCl [(cI, .int)] [(h, .inr (1, [.ref a, .int (nI n)])), (a, .inl (cI, 255, .inl (nf v)))] (some (.int (nI (pnN n)))) := by
  refine mk_Ri (cc := b_Ro_partsNeeded) (maxL := 1) (by decide) rfl (Nat.le_of_ble_eq_true rfl) rfl ?_
  intro p e s m below meth c Q A ls S hP hK hT hS hl hret
  obtain ⟨hx, hb, hml, hown, hts⟩ := id S
  have hl : lv_has ls 1 [(0, .ref h)] := hl
  refine lv_aload_n hx hb d_Ro_partsNeeded_0 rfl (lv_at hl 0 rfl) ?_
  refine va_get (D := (dC, dI)) (ci := 1) (v := .int (nI n)) (C := "LongNames$Row") (T := F_Ro) (N := 2) hx hb hts (iw_Ro _) hown hK hP 0 rfl rfl 1 (by decide) (hts _ (List.mem_cons_of_mem _ k_54)) (fun _ h9 => h9) rfl d_Ro_partsNeeded_1 ?_
  refine lv_bipush (v := nI 13) hx hb d_Ro_partsNeeded_4 (by decide) ?_
  refine lv_iadd hx hb d_Ro_partsNeeded_6 ?_
  refine mk_ti (y := nI (n + 13)) (nI_add n 13) ?_
  refine lv_iconst (v := nI 1) hx hb d_Ro_partsNeeded_7 (by decide) ?_
  refine lv_isub hx hb d_Ro_partsNeeded_8 ?_
  refine mk_ti (y := nI (n + 13 - 1)) (pk_sub (by omega)) ?_
  refine lv_bipush (v := nI 13) hx hb d_Ro_partsNeeded_9 (by decide) ?_
  refine lv_idiv hx hb d_Ro_partsNeeded_11 (by decide) ?_
  refine mk_ti (y := nI ((n + 13 - 1) / 13)) (pk_div (by omega) (by decide) (by decide)) ?_
  exact mk_ti (by rfl) (hret _ _ d_Ro_partsNeeded_12)

set_option maxHeartbeats 4000000 in
set_option maxRecDepth 100000 in
theorem c_Ro_es (l : Launch) (dC : Nat → ClassId) (dI : Nat → Nat → Nat) (cI : ClassId) (h a n : Nat) (v : Nat → Nat) (hn : n ≤ 255) (hv : ∀ j, v j < 65536) : mR l y_Ro_encodedSize w_Ro_encodedSize ({ frames := 1, cells := 0, slots := 0, locals := 21 } : Room) [.ref h] (dC, dI) vwCl [(cI, .int)] [(h, .inr (1, [.ref a, .int (nI n)])), (a, .inl (cI, 255, .inl (nf v)))] (some (.int (nI (esN v n)))) := by
  refine mk_Ri (cc := b_Ro_encodedSize) (maxL := 3) (by decide) rfl (Nat.le_of_ble_eq_true rfl) rfl ?_
  intro p e s m below meth c Q A ls S hP hK hT hS hl hret
  obtain ⟨hx, hb, hml, hown, hts⟩ := id S
  have hl : lv_has ls 3 [(0, .ref h)] := hl
  refine lv_iconst (v := nI 0) hx hb d_Ro_encodedSize_0 (by decide) ?_
  refine lv_istore_n (lv' := [(1, .int (nI 0)), (0, .ref h)]) hx hb d_Ro_encodedSize_1 rfl hl (by decide) rfl (fun ls hl => ?_)
  refine lv_iconst (v := nI 0) hx hb d_Ro_encodedSize_2 (by decide) ?_
  refine lv_istore_n (lv' := [(2, .int (nI 0)), (1, .int (nI 0)), (0, .ref h)]) hx hb d_Ro_encodedSize_3 rfl hl (by decide) rfl (fun ls hl => ?_)
  have lp4 : ∀ (k : Nat) (i : Nat) (ls : Array Slot), (i + k = n) → lv_has ls 3 [(0, .ref h), (1, .int (nI (esN v i))), (2, .int (nI i))] → W p l e ({ frames := 1, cells := 0, slots := 0, locals := 21 } : Room) s m ([.ref h] : List Value).toArray below meth c s.heap [] 0 0 Q (F0 m 4 ls []) := by
    intro k
    induction k with
    | zero =>
      intro i ls hi hl
      refine lv_iload_n hx hb d_Ro_encodedSize_4 rfl (lv_at hl 2 rfl) ?_
      refine lv_aload_n hx hb d_Ro_encodedSize_5 rfl (lv_at hl 0 rfl) ?_
      refine va_get (D := (dC, dI)) (ci := 1) (v := .int (nI n)) (C := "LongNames$Row") (T := F_Ro) (N := 2) hx hb hts (iw_Ro _) hown hK hP 0 rfl rfl 1 (by decide) (hts _ (List.mem_cons_of_mem _ k_54)) (fun _ h9 => h9) rfl d_Ro_encodedSize_6 ?_
      refine lv_icmp_ge (tgt := 29) hx hb d_Ro_encodedSize_9 (by decide) (fun c_1 => ?_) (fun c_1 => ?_)
      · skip
        rw [nI_leI (by omega) (by omega)] at c_1
        refine lv_iload_n hx hb d_Ro_encodedSize_29 rfl (lv_at hl 1 rfl) ?_
        exact mk_ti (by rw [show i = n by omega]) (hret _ _ d_Ro_encodedSize_30)
      · skip
        rw [nI_leI (by omega) (by omega)] at c_1
        first | omega | contradiction
    | succ k ih4 =>
      intro i ls hi hl
      refine lv_iload_n hx hb d_Ro_encodedSize_4 rfl (lv_at hl 2 rfl) ?_
      refine lv_aload_n hx hb d_Ro_encodedSize_5 rfl (lv_at hl 0 rfl) ?_
      refine va_get (D := (dC, dI)) (ci := 1) (v := .int (nI n)) (C := "LongNames$Row") (T := F_Ro) (N := 2) hx hb hts (iw_Ro _) hown hK hP 0 rfl rfl 1 (by decide) (hts _ (List.mem_cons_of_mem _ k_54)) (fun _ h9 => h9) rfl d_Ro_encodedSize_6 ?_
      refine lv_icmp_ge (tgt := 29) hx hb d_Ro_encodedSize_9 (by decide) (fun c_2 => ?_) (fun c_2 => ?_)
      · skip
        rw [nI_leI (by omega) (by omega)] at c_2
        first | omega | contradiction
      · skip
        rw [nI_leI (by omega) (by omega)] at c_2
        refine lv_iload_n hx hb d_Ro_encodedSize_12 rfl (lv_at hl 1 rfl) ?_
        refine lv_aload_n hx hb d_Ro_encodedSize_13 rfl (lv_at hl 0 rfl) ?_
        refine lv_iload_n hx hb d_Ro_encodedSize_14 rfl (lv_at hl 2 rfl) ?_
        refine mk_r1 (W.runV (As := [.int (nI i)]) (rest := [.int (nI (esN v i))]) S (c_Ro_get l dC dI cI h a n v i (by first | assumption | omega) (by first | assumption | omega) (by first | assumption | omega)) (gV 1 hts k_140 k_141 k_142 k_25 k_143 (by decide +kernel) ⟨Nat.le_of_ble_eq_true rfl, Nat.le_of_ble_eq_true rfl⟩) (mk_vR hP hK hT hS [0, 1] rfl (q0 := 0) (ci := 1) rfl rfl) rfl rfl hl.1 rfl (lv_room (Nat.le_of_ble_eq_true rfl)) d_Ro_encodedSize_15 ⟨Nat.zero_le _, Nat.zero_le _⟩) ?_
        have b_3 := (show ∀ j9, v j9 < 65536 by assumption) i
        refine mk_r1 (W.runS (As := [.int (nI (v i))]) (rest := [.int (nI (esN v i))]) S (c_Un_wd l dC dI cI (v i) (by first | assumption | omega)) (gS 1 hts k_169 k_170 k_30 k_171 (by decide +kernel) ⟨Nat.le_of_ble_eq_true rfl, Nat.le_of_ble_eq_true rfl⟩) (mk_sR hP hK hT hS [] rfl) rfl rfl hl.1 rfl (lv_room (Nat.le_of_ble_eq_true rfl)) d_Ro_encodedSize_18 ⟨Nat.zero_le _, Nat.zero_le _⟩) ?_
        have b_4 := wdN_in (v i)
        refine lv_iadd hx hb d_Ro_encodedSize_21 ?_
        refine mk_ti (y := nI (esN v i + wdN (v i))) (nI_add (esN v i) (wdN (v i))) ?_
        refine lv_istore_n (lv' := [(1, .int (nI (esN v i + wdN (v i)))), (0, .ref h), (2, .int (nI i))]) hx hb d_Ro_encodedSize_22 rfl hl (by decide) rfl (fun ls hl => ?_)
        refine lv_iinc (v := nI (i + 1)) (lv' := [(2, .int (nI (i + 1))), (1, .int (nI (esN v i + wdN (v i)))), (0, .ref h)]) hx hb d_Ro_encodedSize_23 hl (k := 2) rfl (mk_i1 i) (by decide) rfl (fun ls hl => ?_)
        refine lv_goto (tgt := 4) hx hb d_Ro_encodedSize_26 (by decide) ?_
        have hl : lv_has ls 3 [(0, .ref h), (1, .int (nI (esN v i + wdN (v i)))), (2, .int (nI (i + 1)))] := lv_sub hl [2, 1, 0] rfl
        have hl9 : ([(0, .ref h), (1, .int (nI (esN v i + wdN (v i)))), (2, .int (nI (i + 1)))] : List (Nat × Value)) = [(0, .ref h), (1, .int (nI (esN v (i + 1)))), (2, .int (nI (i + 1)))] := by rfl
        rw [hl9] at hl
        exact ih4 (i + 1) _ (by omega) hl
  have hl : lv_has ls 3 [(0, .ref h), (1, .int (nI 0)), (2, .int (nI 0))] := lv_sub hl [2, 1, 0] rfl
  have hl9 : ([(0, .ref h), (1, .int (nI 0)), (2, .int (nI 0))] : List (Nat × Value)) = [(0, .ref h), (1, .int (nI (esN v 0))), (2, .int (nI 0))] := by rfl
  rw [hl9] at hl
  exact lp4 n 0 _ (by omega) hl

set_option maxHeartbeats 4000000 in
set_option maxRecDepth 100000 in
theorem c_Ro_ebX (l : Launch) (dC : Nat → ClassId) (dI : Nat → Nat → Nat) (cI : ClassId) (h a n : Nat) (v : Nat → Nat) (x : Int32) (hx9 : x < 0) : mR l y_Ro_encodedByte w_Ro_encodedByte ({ frames := 0, cells := 0, slots := 0, locals := 0 } : Room) [.ref h, .int x] (dC, dI) vwCl [(cI, .int)] [(h, .inr (1, [.ref a, .int (nI n)])), (a, .inl (cI, 255, .inl (nf v)))] (some (.int (-1))) := by
  refine mk_Ri (cc := b_Ro_encodedByte) (maxL := 5) (by decide) rfl (Nat.le_of_ble_eq_true rfl) rfl ?_
  intro p e s m below meth c Q A ls S hP hK hT hS hl hret
  obtain ⟨hx, hb, hml, hown, hts⟩ := id S
  have hl : lv_has ls 5 [(0, .ref h), (1, .int x)] := hl
  refine lv_iload_n hx hb d_Ro_encodedByte_0 rfl (lv_at hl 1 rfl) ?_
  refine lv_if_ge (tgt := 6) hx hb d_Ro_encodedByte_1 (by decide) (fun c_1 => ?_) (fun c_1 => ?_)
  · skip
    exact absurd c_1 (Int32.not_le.mpr hx9)
  · skip
    refine lv_iconst (v := (-1)) hx hb d_Ro_encodedByte_4 (by decide) ?_
    exact hret _ _ d_Ro_encodedByte_5

set_option maxHeartbeats 4000000 in
set_option maxRecDepth 100000 in
theorem c_Ro_ebN (l : Launch) (dC : Nat → ClassId) (dI : Nat → Nat → Nat) (cI : ClassId) (h a n : Nat) (v : Nat → Nat) (t : Nat) (hn : n ≤ 255) (hv : ∀ j, v j < 65536) (ht : t < 2 ^ 31) : mR l y_Ro_encodedByte w_Ro_encodedByte ({ frames := 2, cells := 0, slots := 0, locals := 43 } : Room) [.ref h, .int (nI t)] (dC, dI) vwCl [(cI, .int)] [(h, .inr (1, [.ref a, .int (nI n)])), (a, .inl (cI, 255, .inl (nf v)))] (some (.int (ebL v n 0 t))) := by
  refine mk_Ri (cc := b_Ro_encodedByte) (maxL := 5) (by decide) rfl (Nat.le_of_ble_eq_true rfl) rfl ?_
  intro p e s m below meth c Q A ls S hP hK hT hS hl hret
  obtain ⟨hx, hb, hml, hown, hts⟩ := id S
  have hl : lv_has ls 5 [(0, .ref h), (1, .int (nI t))] := hl
  refine lv_iload_n hx hb d_Ro_encodedByte_0 rfl (lv_at hl 1 rfl) ?_
  refine lv_if_ge (tgt := 6) hx hb d_Ro_encodedByte_1 (by decide) (fun c_1 => ?_) (fun c_1 => ?_)
  · skip
    rw [mk_cge (by omega)] at c_1
    refine lv_iload_n hx hb d_Ro_encodedByte_6 rfl (lv_at hl 1 rfl) ?_
    refine lv_istore_n (lv' := [(2, .int (nI t)), (0, .ref h), (1, .int (nI t))]) hx hb d_Ro_encodedByte_7 rfl hl (by decide) rfl (fun ls hl => ?_)
    refine lv_iconst (v := nI 0) hx hb d_Ro_encodedByte_8 (by decide) ?_
    refine lv_istore_n (lv' := [(3, .int (nI 0)), (2, .int (nI t)), (0, .ref h), (1, .int (nI t))]) hx hb d_Ro_encodedByte_9 rfl hl (by decide) rfl (fun ls hl => ?_)
    have lp10 : ∀ (k : Nat) (i r : Nat) (ls : Array Slot), (i + k = n) → (r < 2 ^ 31) → (ebL v n 0 t = ebL v k i r) → lv_has ls 5 [(0, .ref h), (2, .int (nI r)), (3, .int (nI i))] → W p l e ({ frames := 2, cells := 0, slots := 0, locals := 43 } : Room) s m ([.ref h, .int (nI t)] : List Value).toArray below meth c s.heap [] 0 0 Q (F0 m 10 ls []) := by
      intro k
      induction k with
      | zero =>
        intro i r ls hi hr9 he hl
        refine lv_iload_n hx hb d_Ro_encodedByte_10 rfl (lv_at hl 2 rfl) ?_
        refine lv_aload_n hx hb d_Ro_encodedByte_11 rfl (lv_at hl 0 rfl) ?_
        refine va_get (D := (dC, dI)) (ci := 1) (v := .int (nI n)) (C := "LongNames$Row") (T := F_Ro) (N := 2) hx hb hts (iw_Ro _) hown hK hP 0 rfl rfl 1 (by decide) (hts _ (List.mem_cons_of_mem _ k_54)) (fun _ h9 => h9) rfl d_Ro_encodedByte_12 ?_
        refine lv_icmp_ge (tgt := 55) hx hb d_Ro_encodedByte_15 (by decide) (fun c_2 => ?_) (fun c_2 => ?_)
        · skip
          rw [nI_leI (by omega) (by omega)] at c_2
          refine lv_iconst (v := (-1)) hx hb d_Ro_encodedByte_55 (by decide) ?_
          exact mk_ti (by rw [he]; rfl) (hret _ _ d_Ro_encodedByte_56)
        · skip
          rw [nI_leI (by omega) (by omega)] at c_2
          first | omega | contradiction
      | succ k ih10 =>
        intro i r ls hi hr9 he hl
        refine lv_iload_n hx hb d_Ro_encodedByte_10 rfl (lv_at hl 2 rfl) ?_
        refine lv_aload_n hx hb d_Ro_encodedByte_11 rfl (lv_at hl 0 rfl) ?_
        refine va_get (D := (dC, dI)) (ci := 1) (v := .int (nI n)) (C := "LongNames$Row") (T := F_Ro) (N := 2) hx hb hts (iw_Ro _) hown hK hP 0 rfl rfl 1 (by decide) (hts _ (List.mem_cons_of_mem _ k_54)) (fun _ h9 => h9) rfl d_Ro_encodedByte_12 ?_
        refine lv_icmp_ge (tgt := 55) hx hb d_Ro_encodedByte_15 (by decide) (fun c_3 => ?_) (fun c_3 => ?_)
        · skip
          rw [nI_leI (by omega) (by omega)] at c_3
          first | omega | contradiction
        · skip
          rw [nI_leI (by omega) (by omega)] at c_3
          refine lv_aload_n hx hb d_Ro_encodedByte_18 rfl (lv_at hl 0 rfl) ?_
          refine lv_iload_n hx hb d_Ro_encodedByte_19 rfl (lv_at hl 2 rfl) ?_
          refine mk_r1 (W.runV (As := [.int (nI i)]) (rest := []) S (c_Ro_get l dC dI cI h a n v i (by first | assumption | omega) (by first | assumption | omega) (by first | assumption | omega)) (gV 1 hts k_140 k_141 k_142 k_25 k_143 (by decide +kernel) ⟨Nat.le_of_ble_eq_true rfl, Nat.le_of_ble_eq_true rfl⟩) (mk_vR hP hK hT hS [0, 1] rfl (q0 := 0) (ci := 1) rfl rfl) rfl rfl hl.1 rfl (lv_room (Nat.le_of_ble_eq_true rfl)) d_Ro_encodedByte_20 ⟨Nat.zero_le _, Nat.zero_le _⟩) ?_
          have b_4 := (show ∀ j9, v j9 < 65536 by assumption) i
          refine mk_r1 (W.runS (As := [.int (nI (v i))]) (rest := []) S (c_Un_wd l dC dI cI (v i) (by first | assumption | omega)) (gS 1 hts k_169 k_170 k_30 k_171 (by decide +kernel) ⟨Nat.le_of_ble_eq_true rfl, Nat.le_of_ble_eq_true rfl⟩) (mk_sR hP hK hT hS [] rfl) rfl rfl hl.1 rfl (lv_room (Nat.le_of_ble_eq_true rfl)) d_Ro_encodedByte_23 ⟨Nat.zero_le _, Nat.zero_le _⟩) ?_
          have b_5 := wdN_in (v i)
          refine lv_istore (lv' := [(4, .int (nI (wdN (v i)))), (0, .ref h), (2, .int (nI r)), (3, .int (nI i))]) hx hb d_Ro_encodedByte_26 hl (by decide) rfl (fun ls hl => ?_)
          refine lv_iload_n hx hb d_Ro_encodedByte_28 rfl (lv_at hl 2 rfl) ?_
          refine lv_iload hx hb d_Ro_encodedByte_29 (lv_at hl 0 rfl) ?_
          refine lv_icmp_ge (tgt := 44) hx hb d_Ro_encodedByte_31 (by decide) (fun c_6 => ?_) (fun c_6 => ?_)
          · skip
            rw [nI_leI (by omega) (by omega)] at c_6
            refine lv_iload_n hx hb d_Ro_encodedByte_44 rfl (lv_at hl 2 rfl) ?_
            refine lv_iload hx hb d_Ro_encodedByte_45 (lv_at hl 0 rfl) ?_
            refine lv_isub hx hb d_Ro_encodedByte_47 ?_
            refine mk_ti (y := nI (r - (wdN (v i)))) (pk_sub (by omega)) ?_
            refine lv_istore_n (lv' := [(2, .int (nI (r - (wdN (v i))))), (4, .int (nI (wdN (v i)))), (0, .ref h), (3, .int (nI i))]) hx hb d_Ro_encodedByte_48 rfl hl (by decide) rfl (fun ls hl => ?_)
            refine lv_iinc (v := nI (i + 1)) (lv' := [(3, .int (nI (i + 1))), (2, .int (nI (r - (wdN (v i))))), (4, .int (nI (wdN (v i)))), (0, .ref h)]) hx hb d_Ro_encodedByte_49 hl (k := 3) rfl (mk_i1 i) (by decide) rfl (fun ls hl => ?_)
            refine lv_goto (tgt := 10) hx hb d_Ro_encodedByte_52 (by decide) ?_
            have hl : lv_has ls 5 [(0, .ref h), (2, .int (nI (r - (wdN (v i))))), (3, .int (nI (i + 1)))] := lv_sub hl [3, 1, 0] rfl
            have hl9 : ([(0, .ref h), (2, .int (nI (r - (wdN (v i))))), (3, .int (nI (i + 1)))] : List (Nat × Value)) = [(0, .ref h), (2, .int (nI (r - wdN (v i)))), (3, .int (nI (i + 1)))] := by rfl
            rw [hl9] at hl
            exact ih10 (i + 1) (r - wdN (v i)) _ (by omega) (by omega) (he.trans (by rw [ebL, if_neg (by omega)])) hl
          · skip
            rw [nI_leI (by omega) (by omega)] at c_6
            refine lv_aload_n hx hb d_Ro_encodedByte_34 rfl (lv_at hl 1 rfl) ?_
            refine lv_iload_n hx hb d_Ro_encodedByte_35 rfl (lv_at hl 3 rfl) ?_
            refine mk_r1 (W.runV (As := [.int (nI i)]) (rest := []) S (c_Ro_get l dC dI cI h a n v i (by first | assumption | omega) (by first | assumption | omega) (by first | assumption | omega)) (gV 1 hts k_140 k_141 k_142 k_25 k_143 (by decide +kernel) ⟨Nat.le_of_ble_eq_true rfl, Nat.le_of_ble_eq_true rfl⟩) (mk_vR hP hK hT hS [0, 1] rfl (q0 := 0) (ci := 1) rfl rfl) rfl rfl hl.1 rfl (lv_room (Nat.le_of_ble_eq_true rfl)) d_Ro_encodedByte_36 ⟨Nat.zero_le _, Nat.zero_le _⟩) ?_
            have b_7 := (show ∀ j9, v j9 < 65536 by assumption) i
            refine lv_iload_n hx hb d_Ro_encodedByte_39 rfl (lv_at hl 2 rfl) ?_
            refine mk_r1 (W.runS (As := [.int (nI (v i)), .int (nI r)]) (rest := []) S (c_Un_eb l dC dI cI (v i) r (by first | assumption | omega) (by first | assumption | omega)) (gS 2 hts k_180 k_181 k_30 k_182 (by decide +kernel) ⟨Nat.le_of_ble_eq_true rfl, Nat.le_of_ble_eq_true rfl⟩) (mk_sR hP hK hT hS [] rfl) rfl rfl hl.1 rfl (lv_room (Nat.le_of_ble_eq_true rfl)) d_Ro_encodedByte_40 ⟨Nat.zero_le _, Nat.zero_le _⟩) ?_
            exact mk_ti (by rw [he, ebL, if_pos (by omega)]) (hret _ _ d_Ro_encodedByte_43)
    have hl : lv_has ls 5 [(0, .ref h), (2, .int (nI t)), (3, .int (nI 0))] := lv_sub hl [2, 1, 0] rfl
    exact lp10 n 0 t _ (by omega) ht rfl hl
  · skip
    rw [mk_cge (by omega)] at c_1
    first | omega | contradiction

set_option maxHeartbeats 4000000 in
set_option maxRecDepth 100000 in
theorem c_Ro_like (l : Launch) (dC : Nat → ClassId) (dI : Nat → Nat → Nat) (cI : ClassId) (h a n : Nat) (v : Nat → Nat) (h2 a2 n2 : Nat) (v2 : Nat → Nat) (hn : n ≤ 255) (hv : ∀ j, v j < 65536) (hn2 : n2 ≤ 255) (hv2 : ∀ j, v2 j < 65536) : mR l y_Ro_isLike w_Ro_isLike ({ frames := 1, cells := 0, slots := 0, locals := 21 } : Room) [.ref h, .ref h2] (dC, dI) vwCl [(cI, .int)] [(h, .inr (1, [.ref a, .int (nI n)])), (a, .inl (cI, 255, .inl (nf v))), (h2, .inr (1, [.ref a2, .int (nI n2)])), (a2, .inl (cI, 255, .inl (nf v2)))] (some (.int (bI (likeN v n v2 n2)))) := by
  refine mk_Ri (cc := b_Ro_isLike) (maxL := 3) (by decide) rfl (Nat.le_of_ble_eq_true rfl) (mk_nz _) ?_
  intro p e s m below meth c Q A ls S hP hK hT hS hl hret
  obtain ⟨hx, hb, hml, hown, hts⟩ := id S
  have hl : lv_has ls 3 [(0, .ref h), (1, .ref h2)] := hl
  refine lv_aload_n hx hb d_Ro_isLike_0 rfl (lv_at hl 1 rfl) ?_
  refine lv_ifnull hx hb d_Ro_isLike_1 ?_
  refine lv_aload_n hx hb d_Ro_isLike_4 rfl (lv_at hl 0 rfl) ?_
  refine va_get (D := (dC, dI)) (ci := 1) (v := .int (nI n)) (C := "LongNames$Row") (T := F_Ro) (N := 2) hx hb hts (iw_Ro _) hown hK hP 0 rfl rfl 1 (by decide) (hts _ (List.mem_cons_of_mem _ k_54)) (fun _ h9 => h9) rfl d_Ro_isLike_5 ?_
  refine lv_aload_n hx hb d_Ro_isLike_8 rfl (lv_at hl 1 rfl) ?_
  refine va_get (D := (dC, dI)) (ci := 1) (v := .int (nI n2)) (C := "LongNames$Row") (T := F_Ro) (N := 2) hx hb hts (iw_Ro _) hown hK hP 2 rfl rfl 1 (by decide) (hts _ (List.mem_cons_of_mem _ k_54)) (fun _ h9 => h9) rfl d_Ro_isLike_9 ?_
  refine lv_icmp_eq (tgt := 17) hx hb d_Ro_isLike_12 (by decide) (fun c_1 => ?_) (fun c_1 => ?_)
  · skip
    rw [nI_eq (by omega) (by omega)] at c_1
    refine lv_iconst (v := nI 0) hx hb d_Ro_isLike_17 (by decide) ?_
    refine lv_istore_n (lv' := [(2, .int (nI 0)), (0, .ref h), (1, .ref h2)]) hx hb d_Ro_isLike_18 rfl hl (by decide) rfl (fun ls hl => ?_)
    have lp19 : ∀ (k : Nat) (i : Nat) (ls : Array Slot), (i + k = n) → (∀ j, j < i → capN (v j) = capN (v2 j)) → lv_has ls 3 [(0, .ref h), (1, .ref h2), (2, .int (nI i))] → W p l e ({ frames := 1, cells := 0, slots := 0, locals := 21 } : Room) s m ([.ref h, .ref h2] : List Value).toArray below meth c s.heap [] 0 0 Q (F0 m 19 ls []) := by
      intro k
      induction k with
      | zero =>
        intro i ls hi hq hl
        refine lv_iload_n hx hb d_Ro_isLike_19 rfl (lv_at hl 2 rfl) ?_
        refine lv_aload_n hx hb d_Ro_isLike_20 rfl (lv_at hl 0 rfl) ?_
        refine va_get (D := (dC, dI)) (ci := 1) (v := .int (nI n)) (C := "LongNames$Row") (T := F_Ro) (N := 2) hx hb hts (iw_Ro _) hown hK hP 0 rfl rfl 1 (by decide) (hts _ (List.mem_cons_of_mem _ k_54)) (fun _ h9 => h9) rfl d_Ro_isLike_21 ?_
        refine lv_icmp_ge (tgt := 54) hx hb d_Ro_isLike_24 (by decide) (fun c_2 => ?_) (fun c_2 => ?_)
        · skip
          rw [nI_leI (by omega) (by omega)] at c_2
          refine lv_iconst (v := nI 1) hx hb d_Ro_isLike_54 (by decide) ?_
          exact mk_ti (by exact mk_bt (by simp only [likeN, decide_eq_true_eq]; exact ⟨by omega, fun j hj => hq j (by omega)⟩)) (hret _ _ d_Ro_isLike_55)
        · skip
          rw [nI_leI (by omega) (by omega)] at c_2
          first | omega | contradiction
      | succ k ih19 =>
        intro i ls hi hq hl
        refine lv_iload_n hx hb d_Ro_isLike_19 rfl (lv_at hl 2 rfl) ?_
        refine lv_aload_n hx hb d_Ro_isLike_20 rfl (lv_at hl 0 rfl) ?_
        refine va_get (D := (dC, dI)) (ci := 1) (v := .int (nI n)) (C := "LongNames$Row") (T := F_Ro) (N := 2) hx hb hts (iw_Ro _) hown hK hP 0 rfl rfl 1 (by decide) (hts _ (List.mem_cons_of_mem _ k_54)) (fun _ h9 => h9) rfl d_Ro_isLike_21 ?_
        refine lv_icmp_ge (tgt := 54) hx hb d_Ro_isLike_24 (by decide) (fun c_3 => ?_) (fun c_3 => ?_)
        · skip
          rw [nI_leI (by omega) (by omega)] at c_3
          first | omega | contradiction
        · skip
          rw [nI_leI (by omega) (by omega)] at c_3
          refine lv_aload_n hx hb d_Ro_isLike_27 rfl (lv_at hl 0 rfl) ?_
          refine lv_iload_n hx hb d_Ro_isLike_28 rfl (lv_at hl 2 rfl) ?_
          refine mk_r1 (W.runV (As := [.int (nI i)]) (rest := []) S (c_Ro_get l dC dI cI h a n v i (by first | assumption | omega) (by first | assumption | omega) (by first | assumption | omega)) (gV 1 hts k_140 k_141 k_142 k_25 k_143 (by decide +kernel) ⟨Nat.le_of_ble_eq_true rfl, Nat.le_of_ble_eq_true rfl⟩) (mk_vR hP hK hT hS [0, 1] rfl (q0 := 0) (ci := 1) rfl rfl) rfl rfl hl.1 rfl (lv_room (Nat.le_of_ble_eq_true rfl)) d_Ro_isLike_29 ⟨Nat.zero_le _, Nat.zero_le _⟩) ?_
          have b_4 := (show ∀ j9, v j9 < 65536 by assumption) i
          refine mk_r1 (W.runS (As := [.int (nI (v i))]) (rest := []) S (c_Un_cap l dC dI cI (v i) (by first | assumption | omega)) (gS 1 hts k_192 k_193 k_30 k_194 (by decide +kernel) ⟨Nat.le_of_ble_eq_true rfl, Nat.le_of_ble_eq_true rfl⟩) (mk_sR hP hK hT hS [] rfl) rfl rfl hl.1 rfl (lv_room (Nat.le_of_ble_eq_true rfl)) d_Ro_isLike_32 ⟨Nat.zero_le _, Nat.zero_le _⟩) ?_
          have b_5 := capN_le (v i)
          refine lv_aload_n hx hb d_Ro_isLike_35 rfl (lv_at hl 1 rfl) ?_
          refine lv_iload_n hx hb d_Ro_isLike_36 rfl (lv_at hl 2 rfl) ?_
          refine mk_r1 (W.runV (As := [.int (nI i)]) (rest := [.int (nI (capN (v i)))]) S (c_Ro_get l dC dI cI h2 a2 n2 v2 i (by first | assumption | omega) (by first | assumption | omega) (by first | assumption | omega)) (gV 1 hts k_140 k_141 k_142 k_25 k_143 (by decide +kernel) ⟨Nat.le_of_ble_eq_true rfl, Nat.le_of_ble_eq_true rfl⟩) (mk_vR hP hK hT hS [2, 3] rfl (q0 := 2) (ci := 1) rfl rfl) rfl rfl hl.1 rfl (lv_room (Nat.le_of_ble_eq_true rfl)) d_Ro_isLike_37 ⟨Nat.zero_le _, Nat.zero_le _⟩) ?_
          have b_6 := (show ∀ j9, v2 j9 < 65536 by assumption) i
          refine mk_r1 (W.runS (As := [.int (nI (v2 i))]) (rest := [.int (nI (capN (v i)))]) S (c_Un_cap l dC dI cI (v2 i) (by first | assumption | omega)) (gS 1 hts k_192 k_193 k_30 k_194 (by decide +kernel) ⟨Nat.le_of_ble_eq_true rfl, Nat.le_of_ble_eq_true rfl⟩) (mk_sR hP hK hT hS [] rfl) rfl rfl hl.1 rfl (lv_room (Nat.le_of_ble_eq_true rfl)) d_Ro_isLike_40 ⟨Nat.zero_le _, Nat.zero_le _⟩) ?_
          have b_7 := capN_le (v2 i)
          refine lv_icmp_eq (tgt := 48) hx hb d_Ro_isLike_43 (by decide) (fun c_8 => ?_) (fun c_8 => ?_)
          · skip
            rw [nI_eq (by omega) (by omega)] at c_8
            refine lv_iinc (v := nI (i + 1)) (lv' := [(2, .int (nI (i + 1))), (0, .ref h), (1, .ref h2)]) hx hb d_Ro_isLike_48 hl (k := 2) rfl (mk_i1 i) (by decide) rfl (fun ls hl => ?_)
            refine lv_goto (tgt := 19) hx hb d_Ro_isLike_51 (by decide) ?_
            have hl : lv_has ls 3 [(0, .ref h), (1, .ref h2), (2, .int (nI (i + 1)))] := lv_sub hl [1, 2, 0] rfl
            exact ih19 (i + 1) _ (by omega) (lt_s hq (by assumption)) hl
          · skip
            rw [nI_eq (by omega) (by omega)] at c_8
            refine lv_iconst (v := nI 0) hx hb d_Ro_isLike_46 (by decide) ?_
            exact mk_ti (by exact mk_bf (by simp only [likeN, decide_eq_false_iff_not]; intro h9; exact c_8 (h9.2 i (by omega)))) (hret _ _ d_Ro_isLike_47)
    have hl : lv_has ls 3 [(0, .ref h), (1, .ref h2), (2, .int (nI 0))] := lv_sub hl [1, 2, 0] rfl
    exact lp19 n 0 _ (by omega) (fun j hj => absurd hj (Nat.not_lt_zero j)) hl
  · skip
    rw [nI_eq (by omega) (by omega)] at c_1
    refine lv_iconst (v := nI 0) hx hb d_Ro_isLike_15 (by decide) ?_
    exact mk_ti (by exact mk_bf (by simp only [likeN, decide_eq_false_iff_not]; intro h9; omega)) (hret _ _ d_Ro_isLike_16)
end
section
set_option maxHeartbeats 4000000 in
set_option maxRecDepth 100000 in
theorem c_Ar_fill11 (l : Launch) (dC : Nat → ClassId) (dI : Nat → Nat → Nat) (cI : ClassId) (a : Nat) (b : Nat → Nat) (x : Nat) : mM l y_Ar_fill w_Ar_fill ({ frames := 0, cells := 0, slots := 0, locals := 0 } : Room) [.ref a, .int (nI x)] (dC, dI) vwCl [(cI, .int)] [(a, .inl (cI, 11, .inl (nf b)))] none [(a, .inl (cI, 11, .inl (nf (fiN b x 11))))] := by
  refine mk_Mv (cc := b_Ar_fill) (maxL := 4) (by decide) rfl (Nat.le_of_ble_eq_true rfl) ?_
  intro p e s m below meth c Q A ls S hP hK hT hS hl hD hA hret
  obtain ⟨hx, hb, hml, hown, hts⟩ := id S
  have hl : lv_has ls 4 [(0, .ref a), (1, .int (nI x))] := hl
  refine lv_iconst (v := nI 0) hx hb d_Ar_fill_0 (by decide) ?_
  refine lv_istore_n (lv' := [(2, .int (nI 0)), (0, .ref a), (1, .int (nI x))]) hx hb d_Ar_fill_1 rfl hl (by decide) rfl (fun ls hl => ?_)
  refine lv_aload_n hx hb d_Ar_fill_2 rfl (lv_at hl 1 rfl) ?_
  refine va_alen hx hb hK hP 0 0 rfl rfl (v := nI 11) rfl d_Ar_fill_3 ?_
  refine lv_istore_n (lv' := [(3, .int (nI 11)), (2, .int (nI 0)), (0, .ref a), (1, .int (nI x))]) hx hb d_Ar_fill_4 rfl hl (by decide) rfl (fun ls hl => ?_)
  have lp5 : ∀ (k : Nat) (i : Nat) (H : Heap) (locs : List Loc) (ls : Array Slot), (i + k = 11) → va_P (dC, dI) vwCl [(a, .inl (cI, 11, .inl (nf (fiN b x i))))] H → va_D A [(a, .inl (cI, 11, .inl (nf (fiN b x i))))] → va_S A s.heap H locs → lv_has ls 4 [(0, .ref a), (1, .int (nI x)), (2, .int (nI i)), (3, .int (nI 11))] → W p l e ({ frames := 0, cells := 0, slots := 0, locals := 0 } : Room) s m ([.ref a, .int (nI x)] : List Value).toArray below meth c H locs 0 0 Q (F0 m 5 ls []) := by
    intro k
    induction k with
    | zero =>
      intro i H locs ls hi hP hD hS hl
      refine lv_iload_n hx hb d_Ar_fill_5 rfl (lv_at hl 2 rfl) ?_
      refine lv_iload_n hx hb d_Ar_fill_6 rfl (lv_at hl 3 rfl) ?_
      refine lv_icmp_ge (tgt := 20) hx hb d_Ar_fill_7 (by decide) (fun c_1 => ?_) (fun c_1 => ?_)
      · skip
        rw [nI_leI (by omega) (by omega)] at c_1
        have hw9 : ([(a, .inl (cI, 11, .inl (nf (fiN b x i))))] : va_W) = [(a, .inl (cI, 11, .inl (nf (fiN b x 11))))] := by rw [show i = 11 by omega]
        rw [hw9] at hP hD
        exact hret _ _ _ _ d_Ar_fill_20 hP hD hS
      · skip
        rw [nI_leI (by omega) (by omega)] at c_1
        first | omega | contradiction
    | succ k ih5 =>
      intro i H locs ls hi hP hD hS hl
      refine lv_iload_n hx hb d_Ar_fill_5 rfl (lv_at hl 2 rfl) ?_
      refine lv_iload_n hx hb d_Ar_fill_6 rfl (lv_at hl 3 rfl) ?_
      refine lv_icmp_ge (tgt := 20) hx hb d_Ar_fill_7 (by decide) (fun c_2 => ?_) (fun c_2 => ?_)
      · skip
        rw [nI_leI (by omega) (by omega)] at c_2
        first | omega | contradiction
      · skip
        rw [nI_leI (by omega) (by omega)] at c_2
        refine lv_aload_n hx hb d_Ar_fill_10 rfl (lv_at hl 0 rfl) ?_
        refine lv_iload_n hx hb d_Ar_fill_11 rfl (lv_at hl 2 rfl) ?_
        refine lv_iload_n hx hb d_Ar_fill_12 rfl (lv_at hl 1 rfl) ?_
        refine va_iast hx hb hK hP hD hS 0 0 rfl rfl (vp_in_nI (N := 11) (show i < 11 by omega) (by decide)) d_Ar_fill_13 (fun H locs hP hD hS => ?_)
        rw [nI_clamp (by omega), nf_up] at hP hD
        have hP : va_P (dC, dI) vwCl [(a, .inl (cI, 11, .inl (nf (uN (fiN b x i) i x))))] H := hP
        have hD : va_D A [(a, .inl (cI, 11, .inl (nf (uN (fiN b x i) i x))))] := hD
        refine lv_iinc (v := nI (i + 1)) (lv' := [(2, .int (nI (i + 1))), (0, .ref a), (1, .int (nI x)), (3, .int (nI 11))]) hx hb d_Ar_fill_14 hl (k := 2) rfl (mk_i1 i) (by decide) rfl (fun ls hl => ?_)
        refine lv_goto (tgt := 5) hx hb d_Ar_fill_17 (by decide) ?_
        have hl : lv_has ls 4 [(0, .ref a), (1, .int (nI x)), (2, .int (nI (i + 1))), (3, .int (nI 11))] := lv_sub hl [1, 2, 0, 3] rfl
        have hw9 : ([(a, .inl (cI, 11, .inl (nf (uN (fiN b x i) i x))))] : va_W) = [(a, .inl (cI, 11, .inl (nf (fiN b x (i + 1)))))] := by rw [fiN_s]
        rw [hw9] at hP hD
        exact ih5 (i + 1) _ _ _ (by omega) hP hD hS hl
  have hl : lv_has ls 4 [(0, .ref a), (1, .int (nI x)), (2, .int (nI 0)), (3, .int (nI 11))] := lv_sub hl [2, 3, 1, 0] rfl
  have hw9 : ([(a, .inl (cI, 11, .inl (nf b)))] : va_W) = [(a, .inl (cI, 11, .inl (nf (fiN b x 0))))] := by rw [fiN_0]
  rw [hw9] at hP hD
  exact lp5 11 0 _ _ _ rfl hP hD hS hl

set_option maxHeartbeats 4000000 in
set_option maxRecDepth 100000 in
theorem c_Ar_fill32 (l : Launch) (dC : Nat → ClassId) (dI : Nat → Nat → Nat) (cI : ClassId) (a : Nat) (b : Nat → Nat) (x : Nat) : mM l y_Ar_fill w_Ar_fill ({ frames := 0, cells := 0, slots := 0, locals := 0 } : Room) [.ref a, .int (nI x)] (dC, dI) vwCl [(cI, .int)] [(a, .inl (cI, 32, .inl (nf b)))] none [(a, .inl (cI, 32, .inl (nf (fiN b x 32))))] := by
  refine mk_Mv (cc := b_Ar_fill) (maxL := 4) (by decide) rfl (Nat.le_of_ble_eq_true rfl) ?_
  intro p e s m below meth c Q A ls S hP hK hT hS hl hD hA hret
  obtain ⟨hx, hb, hml, hown, hts⟩ := id S
  have hl : lv_has ls 4 [(0, .ref a), (1, .int (nI x))] := hl
  refine lv_iconst (v := nI 0) hx hb d_Ar_fill_0 (by decide) ?_
  refine lv_istore_n (lv' := [(2, .int (nI 0)), (0, .ref a), (1, .int (nI x))]) hx hb d_Ar_fill_1 rfl hl (by decide) rfl (fun ls hl => ?_)
  refine lv_aload_n hx hb d_Ar_fill_2 rfl (lv_at hl 1 rfl) ?_
  refine va_alen hx hb hK hP 0 0 rfl rfl (v := nI 32) rfl d_Ar_fill_3 ?_
  refine lv_istore_n (lv' := [(3, .int (nI 32)), (2, .int (nI 0)), (0, .ref a), (1, .int (nI x))]) hx hb d_Ar_fill_4 rfl hl (by decide) rfl (fun ls hl => ?_)
  have lp5 : ∀ (k : Nat) (i : Nat) (H : Heap) (locs : List Loc) (ls : Array Slot), (i + k = 32) → va_P (dC, dI) vwCl [(a, .inl (cI, 32, .inl (nf (fiN b x i))))] H → va_D A [(a, .inl (cI, 32, .inl (nf (fiN b x i))))] → va_S A s.heap H locs → lv_has ls 4 [(0, .ref a), (1, .int (nI x)), (2, .int (nI i)), (3, .int (nI 32))] → W p l e ({ frames := 0, cells := 0, slots := 0, locals := 0 } : Room) s m ([.ref a, .int (nI x)] : List Value).toArray below meth c H locs 0 0 Q (F0 m 5 ls []) := by
    intro k
    induction k with
    | zero =>
      intro i H locs ls hi hP hD hS hl
      refine lv_iload_n hx hb d_Ar_fill_5 rfl (lv_at hl 2 rfl) ?_
      refine lv_iload_n hx hb d_Ar_fill_6 rfl (lv_at hl 3 rfl) ?_
      refine lv_icmp_ge (tgt := 20) hx hb d_Ar_fill_7 (by decide) (fun c_1 => ?_) (fun c_1 => ?_)
      · skip
        rw [nI_leI (by omega) (by omega)] at c_1
        have hw9 : ([(a, .inl (cI, 32, .inl (nf (fiN b x i))))] : va_W) = [(a, .inl (cI, 32, .inl (nf (fiN b x 32))))] := by rw [show i = 32 by omega]
        rw [hw9] at hP hD
        exact hret _ _ _ _ d_Ar_fill_20 hP hD hS
      · skip
        rw [nI_leI (by omega) (by omega)] at c_1
        first | omega | contradiction
    | succ k ih5 =>
      intro i H locs ls hi hP hD hS hl
      refine lv_iload_n hx hb d_Ar_fill_5 rfl (lv_at hl 2 rfl) ?_
      refine lv_iload_n hx hb d_Ar_fill_6 rfl (lv_at hl 3 rfl) ?_
      refine lv_icmp_ge (tgt := 20) hx hb d_Ar_fill_7 (by decide) (fun c_2 => ?_) (fun c_2 => ?_)
      · skip
        rw [nI_leI (by omega) (by omega)] at c_2
        first | omega | contradiction
      · skip
        rw [nI_leI (by omega) (by omega)] at c_2
        refine lv_aload_n hx hb d_Ar_fill_10 rfl (lv_at hl 0 rfl) ?_
        refine lv_iload_n hx hb d_Ar_fill_11 rfl (lv_at hl 2 rfl) ?_
        refine lv_iload_n hx hb d_Ar_fill_12 rfl (lv_at hl 1 rfl) ?_
        refine va_iast hx hb hK hP hD hS 0 0 rfl rfl (vp_in_nI (N := 32) (show i < 32 by omega) (by decide)) d_Ar_fill_13 (fun H locs hP hD hS => ?_)
        rw [nI_clamp (by omega), nf_up] at hP hD
        have hP : va_P (dC, dI) vwCl [(a, .inl (cI, 32, .inl (nf (uN (fiN b x i) i x))))] H := hP
        have hD : va_D A [(a, .inl (cI, 32, .inl (nf (uN (fiN b x i) i x))))] := hD
        refine lv_iinc (v := nI (i + 1)) (lv' := [(2, .int (nI (i + 1))), (0, .ref a), (1, .int (nI x)), (3, .int (nI 32))]) hx hb d_Ar_fill_14 hl (k := 2) rfl (mk_i1 i) (by decide) rfl (fun ls hl => ?_)
        refine lv_goto (tgt := 5) hx hb d_Ar_fill_17 (by decide) ?_
        have hl : lv_has ls 4 [(0, .ref a), (1, .int (nI x)), (2, .int (nI (i + 1))), (3, .int (nI 32))] := lv_sub hl [1, 2, 0, 3] rfl
        have hw9 : ([(a, .inl (cI, 32, .inl (nf (uN (fiN b x i) i x))))] : va_W) = [(a, .inl (cI, 32, .inl (nf (fiN b x (i + 1)))))] := by rw [fiN_s]
        rw [hw9] at hP hD
        exact ih5 (i + 1) _ _ _ (by omega) hP hD hS hl
  have hl : lv_has ls 4 [(0, .ref a), (1, .int (nI x)), (2, .int (nI 0)), (3, .int (nI 32))] := lv_sub hl [2, 3, 1, 0] rfl
  have hw9 : ([(a, .inl (cI, 32, .inl (nf b)))] : va_W) = [(a, .inl (cI, 32, .inl (nf (fiN b x 0))))] := by rw [fiN_0]
  rw [hw9] at hP hD
  exact lp5 32 0 _ _ _ rfl hP hD hS hl
end
section
set_option maxHeartbeats 4000000 in
set_option maxRecDepth 100000 in
theorem c_Sn_set (l : Launch) (dC : Nat → ClassId) (dI : Nat → Nat → Nat) (cI : ClassId) (h a : Nat) (b : Nat → Nat) (j x : Nat) (hj : j < 11) : mM l y_Sn_set w_Sn_set ({ frames := 0, cells := 0, slots := 0, locals := 0 } : Room) [.ref h, .int (nI j), .int (nI x)] (dC, dI) vwCl [(cI, .int)] [(h, .inr (2, [.ref a])), (a, .inl (cI, 11, .inl (nf b)))] none [(h, .inr (2, [.ref a])), (a, .inl (cI, 11, .inl (nf (uN b j x))))] := by
  refine mk_Mv (cc := b_Sn_set) (maxL := 3) (by decide) rfl (Nat.le_of_ble_eq_true rfl) ?_
  intro p e s m below meth c Q A ls S hP hK hT hS hl hD hA hret
  obtain ⟨hx, hb, hml, hown, hts⟩ := id S
  have hl : lv_has ls 3 [(0, .ref h), (1, .int (nI j)), (2, .int (nI x))] := hl
  refine lv_iload_n hx hb d_Sn_set_0 rfl (lv_at hl 1 rfl) ?_
  refine lv_if_lt (tgt := 17) hx hb d_Sn_set_1 (by decide) (fun c_1 => ?_) (fun c_1 => ?_)
  · skip
    rw [mk_clt (by omega)] at c_1
    first | omega | contradiction
  · skip
    rw [mk_clt (by omega)] at c_1
    refine lv_iload_n hx hb d_Sn_set_4 rfl (lv_at hl 1 rfl) ?_
    refine lv_bipush (v := nI 11) hx hb d_Sn_set_5 (by decide) ?_
    refine lv_icmp_ge (tgt := 17) hx hb d_Sn_set_7 (by decide) (fun c_2 => ?_) (fun c_2 => ?_)
    · skip
      rw [nI_leI (by omega) (by omega)] at c_2
      first | omega | contradiction
    · skip
      rw [nI_leI (by omega) (by omega)] at c_2
      refine lv_aload_n hx hb d_Sn_set_10 rfl (lv_at hl 0 rfl) ?_
      refine va_get (D := (dC, dI)) (ci := 2) (v := .ref a) (C := "LongNames$ShortName") (T := F_Sn) (N := 1) hx hb hts (iw_Sn _) hown hK hP 0 rfl rfl 0 (by decide) (hts _ (List.mem_cons_of_mem _ k_67)) (fun _ h9 => h9) rfl d_Sn_set_11 ?_
      refine lv_iload_n hx hb d_Sn_set_14 rfl (lv_at hl 1 rfl) ?_
      refine lv_iload_n hx hb d_Sn_set_15 rfl (lv_at hl 2 rfl) ?_
      refine va_iast hx hb hK hP hD hS 1 0 rfl rfl (vp_in_nI (N := 11) (show j < 11 by omega) (by decide)) d_Sn_set_16 (fun H locs hP hD hS => ?_)
      rw [nI_clamp (by omega), nf_up] at hP hD
      have hP : va_P (dC, dI) vwCl [(h, .inr (2, [.ref a])), (a, .inl (cI, 11, .inl (nf (uN b j x))))] H := hP
      have hD : va_D A [(h, .inr (2, [.ref a])), (a, .inl (cI, 11, .inl (nf (uN b j x))))] := hD
      exact hret _ _ _ _ d_Sn_set_17 hP hD hS

set_option maxHeartbeats 4000000 in
set_option maxRecDepth 100000 in
theorem c_Sn_get (l : Launch) (dC : Nat → ClassId) (dI : Nat → Nat → Nat) (cI : ClassId) (h a : Nat) (b : Nat → Nat) (j : Nat) (hb9 : ∀ j, b j < 65536) (hj : j < 11) : mR l y_Sn_get w_Sn_get ({ frames := 0, cells := 0, slots := 0, locals := 0 } : Room) [.ref h, .int (nI j)] (dC, dI) vwCl [(cI, .int)] [(h, .inr (2, [.ref a])), (a, .inl (cI, 11, .inl (nf b)))] (some (.int (nI (b j)))) := by
  refine mk_Ri (cc := b_Sn_get) (maxL := 2) (by decide) rfl (Nat.le_of_ble_eq_true rfl) rfl ?_
  intro p e s m below meth c Q A ls S hP hK hT hS hl hret
  obtain ⟨hx, hb, hml, hown, hts⟩ := id S
  have hl : lv_has ls 2 [(0, .ref h), (1, .int (nI j))] := hl
  refine lv_iload_n hx hb d_Sn_get_0 rfl (lv_at hl 1 rfl) ?_
  refine lv_if_lt (tgt := 19) hx hb d_Sn_get_1 (by decide) (fun c_1 => ?_) (fun c_1 => ?_)
  · skip
    rw [mk_clt (by omega)] at c_1
    first | omega | contradiction
  · skip
    rw [mk_clt (by omega)] at c_1
    refine lv_iload_n hx hb d_Sn_get_4 rfl (lv_at hl 1 rfl) ?_
    refine lv_bipush (v := nI 11) hx hb d_Sn_get_5 (by decide) ?_
    refine lv_icmp_ge (tgt := 19) hx hb d_Sn_get_7 (by decide) (fun c_2 => ?_) (fun c_2 => ?_)
    · skip
      rw [nI_leI (by omega) (by omega)] at c_2
      first | omega | contradiction
    · skip
      rw [nI_leI (by omega) (by omega)] at c_2
      refine lv_aload_n hx hb d_Sn_get_10 rfl (lv_at hl 0 rfl) ?_
      refine va_get (D := (dC, dI)) (ci := 2) (v := .ref a) (C := "LongNames$ShortName") (T := F_Sn) (N := 1) hx hb hts (iw_Sn _) hown hK hP 0 rfl rfl 0 (by decide) (hts _ (List.mem_cons_of_mem _ k_67)) (fun _ h9 => h9) rfl d_Sn_get_11 ?_
      refine lv_iload_n hx hb d_Sn_get_14 rfl (lv_at hl 1 rfl) ?_
      refine va_iald hx hb hK hP 1 0 rfl rfl (vp_in_nI (N := 11) (show j < 11 by omega) (by decide)) d_Sn_get_15 ?_
      refine mk_ti (y := nI (b j)) (by rw [nI_clamp (by omega)]; rfl) ?_
      have b_3 := hb9 j
      refine lv_goto (tgt := 20) hx hb d_Sn_get_16 (by decide) ?_
      exact hret _ _ d_Sn_get_20

set_option maxHeartbeats 4000000 in
set_option maxRecDepth 100000 in
theorem c_Sn_dig (l : Launch) (dC : Nat → ClassId) (dI : Nat → Nat → Nat) (cI : ClassId) (t : Nat) (ht : t < 10000) : mR l y_Sn_digitsOf w_Sn_digitsOf ({ frames := 0, cells := 0, slots := 0, locals := 0 } : Room) [.int (nI t)] (dC, dI) vwCl [(cI, .int)] [] (some (.int (nI (dgN t)))) := by
  refine mk_Ri (cc := b_Sn_digitsOf) (maxL := 1) (by decide) rfl (Nat.le_of_ble_eq_true rfl) rfl ?_
  intro p e s m below meth c Q A ls S hP hK hT hS hl hret
  obtain ⟨hx, hb, hml, hown, hts⟩ := id S
  have hl : lv_has ls 1 [(0, .int (nI t))] := hl
  refine lv_iload_n hx hb d_Sn_digitsOf_0 rfl (lv_at hl 0 rfl) ?_
  refine lv_bipush (v := nI 100) hx hb d_Sn_digitsOf_1 (by decide) ?_
  refine lv_icmp_ge (tgt := 18) hx hb d_Sn_digitsOf_3 (by decide) (fun c_1 => ?_) (fun c_1 => ?_)
  · skip
    rw [nI_leI (by omega) (by omega)] at c_1
    refine lv_iload_n hx hb d_Sn_digitsOf_18 rfl (lv_at hl 0 rfl) ?_
    refine lv_sipush (v := nI 1000) hx hb d_Sn_digitsOf_19 (by decide) ?_
    refine lv_icmp_ge (tgt := 29) hx hb d_Sn_digitsOf_22 (by decide) (fun c_2 => ?_) (fun c_2 => ?_)
    · skip
      rw [nI_leI (by omega) (by omega)] at c_2
      refine lv_iconst (v := nI 4) hx hb d_Sn_digitsOf_29 (by decide) ?_
      exact mk_ti (by congr 1; unfold dgN; (repeat' split) <;> omega) (hret _ _ d_Sn_digitsOf_30)
    · skip
      rw [nI_leI (by omega) (by omega)] at c_2
      refine lv_iconst (v := nI 3) hx hb d_Sn_digitsOf_25 (by decide) ?_
      refine lv_goto (tgt := 30) hx hb d_Sn_digitsOf_26 (by decide) ?_
      exact mk_ti (by congr 1; unfold dgN; (repeat' split) <;> omega) (hret _ _ d_Sn_digitsOf_30)
  · skip
    rw [nI_leI (by omega) (by omega)] at c_1
    refine lv_iload_n hx hb d_Sn_digitsOf_6 rfl (lv_at hl 0 rfl) ?_
    refine lv_bipush (v := nI 10) hx hb d_Sn_digitsOf_7 (by decide) ?_
    refine lv_icmp_ge (tgt := 16) hx hb d_Sn_digitsOf_9 (by decide) (fun c_3 => ?_) (fun c_3 => ?_)
    · skip
      rw [nI_leI (by omega) (by omega)] at c_3
      refine lv_iconst (v := nI 2) hx hb d_Sn_digitsOf_16 (by decide) ?_
      exact mk_ti (by congr 1; unfold dgN; (repeat' split) <;> omega) (hret _ _ d_Sn_digitsOf_17)
    · skip
      rw [nI_leI (by omega) (by omega)] at c_3
      refine lv_iconst (v := nI 1) hx hb d_Sn_digitsOf_12 (by decide) ?_
      refine lv_goto (tgt := 17) hx hb d_Sn_digitsOf_13 (by decide) ?_
      exact mk_ti (by congr 1; unfold dgN; (repeat' split) <;> omega) (hret _ _ d_Sn_digitsOf_17)

set_option maxHeartbeats 4000000 in
set_option maxRecDepth 100000 in
theorem c_Sn_num (l : Launch) (dC : Nat → ClassId) (dI : Nat → Nat → Nat) (cI : ClassId) (h a : Nat) (b : Nat → Nat) (p9 d t : Nat) (ht : t < 10000) (hd : p9 + d ≤ 11) : mM l y_Sn_setNumber w_Sn_setNumber ({ frames := 1, cells := 0, slots := 0, locals := 22 } : Room) [.ref h, .int (nI p9), .int (nI d), .int (nI t)] (dC, dI) vwCl [(cI, .int)] [(h, .inr (2, [.ref a])), (a, .inl (cI, 11, .inl (nf b)))] none [(h, .inr (2, [.ref a])), (a, .inl (cI, 11, .inl (nf (nuN p9 d t b))))] := by
  refine mk_Mv (cc := b_Sn_setNumber) (maxL := 6) (by decide) rfl (Nat.le_of_ble_eq_true rfl) ?_
  intro p e s m below meth c Q A ls S hP hK hT hS hl hD hA hret
  obtain ⟨hx, hb, hml, hown, hts⟩ := id S
  have hl : lv_has ls 6 [(0, .ref h), (1, .int (nI p9)), (2, .int (nI d)), (3, .int (nI t))] := hl
  refine lv_iload_n hx hb d_Sn_setNumber_0 rfl (lv_at hl 3 rfl) ?_
  refine lv_istore (lv' := [(4, .int (nI t)), (0, .ref h), (1, .int (nI p9)), (2, .int (nI d)), (3, .int (nI t))]) hx hb d_Sn_setNumber_1 hl (by decide) rfl (fun ls hl => ?_)
  refine lv_iload_n hx hb d_Sn_setNumber_3 rfl (lv_at hl 3 rfl) ?_
  refine lv_iconst (v := nI 1) hx hb d_Sn_setNumber_4 (by decide) ?_
  refine lv_isub hx hb d_Sn_setNumber_5 ?_
  refine lv_istore (lv' := [(5, .int ((nI d) - (nI 1))), (4, .int (nI t)), (0, .ref h), (1, .int (nI p9)), (2, .int (nI d)), (3, .int (nI t))]) hx hb d_Sn_setNumber_6 hl (by decide) rfl (fun ls hl => ?_)
  have lp8 : ∀ (k : Nat) (x : Int32) (r : Nat) (b' : Nat → Nat) (H : Heap) (locs : List Loc) (ls : Array Slot), (x = nI k - 1) → (r < 10000) → (p9 + k ≤ 11) → (nuN p9 d t b = nuN p9 k r b') → va_P (dC, dI) vwCl [(h, .inr (2, [.ref a])), (a, .inl (cI, 11, .inl (nf b')))] H → va_D A [(h, .inr (2, [.ref a])), (a, .inl (cI, 11, .inl (nf b')))] → va_S A s.heap H locs → lv_has ls 6 [(0, .ref h), (1, .int (nI p9)), (4, .int (nI r)), (5, .int x)] → W p l e ({ frames := 1, cells := 0, slots := 0, locals := 22 } : Room) s m ([.ref h, .int (nI p9), .int (nI d), .int (nI t)] : List Value).toArray below meth c H locs 0 0 Q (F0 m 8 ls []) := by
    intro k
    induction k with
    | zero =>
      intro x r b' H locs ls hx9 hr9 hk hE hP hD hS hl
      obtain rfl : x = -1 := by rw [hx9]; decide
      have hl : lv_has ls 6 [(0, .ref h), (1, .int (nI p9)), (4, .int (nI r)), (5, .int (-1))] := hl
      refine lv_iload hx hb d_Sn_setNumber_8 (lv_at hl 3 rfl) ?_
      refine lv_if_lt (tgt := 42) hx hb d_Sn_setNumber_10 (by decide) (fun c_1 => ?_) (fun c_1 => ?_)
      · skip
        have hw9 : ([(h, .inr (2, [.ref a])), (a, .inl (cI, 11, .inl (nf b')))] : va_W) = [(h, .inr (2, [.ref a])), (a, .inl (cI, 11, .inl (nf (nuN p9 d t b))))] := by rw [hE]; rfl
        rw [hw9] at hP hD
        exact hret _ _ _ _ d_Sn_setNumber_42 hP hD hS
      · skip
        exact absurd (by decide) c_1
    | succ k ih8 =>
      intro x r b' H locs ls hx9 hr9 hk hE hP hD hS hl
      obtain rfl : x = nI k := by rw [hx9]; exact nI_pred k
      have hl : lv_has ls 6 [(0, .ref h), (1, .int (nI p9)), (4, .int (nI r)), (5, .int (nI k))] := hl
      refine lv_iload hx hb d_Sn_setNumber_8 (lv_at hl 3 rfl) ?_
      refine lv_if_lt (tgt := 42) hx hb d_Sn_setNumber_10 (by decide) (fun c_2 => ?_) (fun c_2 => ?_)
      · skip
        rw [mk_clt (by omega)] at c_2
        first | omega | contradiction
      · skip
        rw [mk_clt (by omega)] at c_2
        refine lv_aload_n hx hb d_Sn_setNumber_13 rfl (lv_at hl 0 rfl) ?_
        refine lv_iload_n hx hb d_Sn_setNumber_14 rfl (lv_at hl 1 rfl) ?_
        refine lv_iload hx hb d_Sn_setNumber_15 (lv_at hl 3 rfl) ?_
        refine lv_iadd hx hb d_Sn_setNumber_17 ?_
        refine mk_ti (y := nI (p9 + k)) (nI_add p9 k) ?_
        refine lv_bipush (v := nI 48) hx hb d_Sn_setNumber_18 (by decide) ?_
        refine lv_iload hx hb d_Sn_setNumber_20 (lv_at hl 2 rfl) ?_
        refine lv_bipush (v := nI 10) hx hb d_Sn_setNumber_22 (by decide) ?_
        refine lv_irem hx hb d_Sn_setNumber_24 (by decide) ?_
        refine mk_ti (y := nI (r % 10)) (pk_rem (by omega) (by decide) (by decide)) ?_
        refine lv_iadd hx hb d_Sn_setNumber_25 ?_
        refine mk_ti (y := nI (48 + r % 10)) (nI_add 48 (r % 10)) ?_
        refine mk_w0 (wr := []) (W.runV (As := [.int (nI (p9 + k)), .int (nI (48 + r % 10))]) (rest := []) S ((c_Sn_set l dC dI cI h a b' (p9 + k) (48 + r % 10) (by first | assumption | omega)) _) (gV 2 hts k_391 k_393 k_3 k_26 k_394 (by decide +kernel) ⟨Nat.le_of_ble_eq_true rfl, Nat.le_of_ble_eq_true rfl⟩) (mk_vM hP hD hK hT hS hA [0, 1] rfl rfl (by decide) (q0 := 0) (ci := 2) rfl rfl) rfl rfl hl.1 rfl (lv_room (Nat.le_of_ble_eq_true rfl)) d_Sn_setNumber_26 ⟨Nat.zero_le _, Nat.zero_le _⟩) hP hD hS hA [0, 1] [] rfl rfl (by decide) (by decide) (fun H locs hP hD hS => ?_)
        have hP : va_P (dC, dI) vwCl [(h, .inr (2, [.ref a])), (a, .inl (cI, 11, .inl (nf (uN b' (p9 + k) (48 + r % 10)))))] H := hP.sub [0, 1] rfl
        have hD : va_D A [(h, .inr (2, [.ref a])), (a, .inl (cI, 11, .inl (nf (uN b' (p9 + k) (48 + r % 10)))))] := hD.sub [0, 1] (by decide) rfl
        refine lv_iload hx hb d_Sn_setNumber_29 (lv_at hl 2 rfl) ?_
        refine lv_bipush (v := nI 10) hx hb d_Sn_setNumber_31 (by decide) ?_
        refine lv_idiv hx hb d_Sn_setNumber_33 (by decide) ?_
        refine mk_ti (y := nI (r / 10)) (pk_div (by omega) (by decide) (by decide)) ?_
        refine lv_istore (lv' := [(4, .int (nI (r / 10))), (0, .ref h), (1, .int (nI p9)), (5, .int (nI k))]) hx hb d_Sn_setNumber_34 hl (by decide) rfl (fun ls hl => ?_)
        refine lv_iinc (v := nI k - 1) (lv' := [(5, .int (nI k - 1)), (4, .int (nI (r / 10))), (0, .ref h), (1, .int (nI p9))]) hx hb d_Sn_setNumber_36 hl (k := 3) rfl (mk_dec (nI k)) (by decide) rfl (fun ls hl => ?_)
        refine lv_goto (tgt := 8) hx hb d_Sn_setNumber_39 (by decide) ?_
        have hl : lv_has ls 6 [(0, .ref h), (1, .int (nI p9)), (4, .int (nI (r / 10))), (5, .int (nI k - 1))] := lv_sub hl [2, 3, 1, 0] rfl
        exact ih8 (nI k - 1) (r / 10) (uN b' (p9 + k) (48 + r % 10)) _ _ _ rfl (by omega) (by omega) (hE.trans rfl) hP hD hS hl
  have hl : lv_has ls 6 [(0, .ref h), (1, .int (nI p9)), (4, .int (nI t)), (5, .int ((nI d) - (nI 1)))] := lv_sub hl [2, 3, 1, 0] rfl
  have hl9 : ([(0, .ref h), (1, .int (nI p9)), (4, .int (nI t)), (5, .int ((nI d) - (nI 1)))] : List (Nat × Value)) = [(0, .ref h), (1, .int (nI p9)), (4, .int (nI t)), (5, .int (nI d - nI 1))] := by rfl
  rw [hl9] at hl
  exact lp8 d (nI d - nI 1) t b _ _ _ rfl ht hd rfl hP hD hS hl

set_option maxHeartbeats 4000000 in
set_option maxRecDepth 100000 in
theorem c_Sn_sho (l : Launch) (dC : Nat → ClassId) (dI : Nat → Nat → Nat) (cI : ClassId) (h a : Nat) (b : Nat → Nat) (hr ar n : Nat) (v : Nat → Nat) (f t p9 mo : Nat) (hn : n ≤ 255) (hv : ∀ j, v j < 65536) (hf : f ≤ 256) (ht : t ≤ n) (hp : p9 + mo ≤ 11) : mM l y_Sn_shorten w_Sn_shorten ({ frames := 2, cells := 0, slots := 0, locals := 41 } : Room) [.ref h, .ref hr, .int (nI f), .int (nI t), .int (nI p9), .int (nI mo)] (dC, dI) vwCl [(cI, .int)] [(h, .inr (2, [.ref a])), (a, .inl (cI, 11, .inl (nf b))), (hr, .inr (1, [.ref ar, .int (nI n)])), (ar, .inl (cI, 255, .inl (nf v)))] (some (.int (nI (shC v mo (t - f) f 0)))) [(h, .inr (2, [.ref a])), (a, .inl (cI, 11, .inl (nf (shB v p9 mo (t - f) f 0 b)))), (hr, .inr (1, [.ref ar, .int (nI n)])), (ar, .inl (cI, 255, .inl (nf v)))] := by
  refine mk_Mi (cc := b_Sn_shorten) (maxL := 9) (by decide) rfl (Nat.le_of_ble_eq_true rfl) rfl ?_
  intro p e s m below meth c Q A ls S hP hK hT hS hl hD hA hret
  obtain ⟨hx, hb, hml, hown, hts⟩ := id S
  have hl : lv_has ls 9 [(0, .ref h), (1, .ref hr), (2, .int (nI f)), (3, .int (nI t)), (4, .int (nI p9)), (5, .int (nI mo))] := hl
  refine lv_iconst (v := nI 0) hx hb d_Sn_shorten_0 (by decide) ?_
  refine lv_istore (lv' := [(6, .int (nI 0)), (0, .ref h), (1, .ref hr), (2, .int (nI f)), (3, .int (nI t)), (4, .int (nI p9)), (5, .int (nI mo))]) hx hb d_Sn_shorten_1 hl (by decide) rfl (fun ls hl => ?_)
  refine lv_iload_n hx hb d_Sn_shorten_3 rfl (lv_at hl 3 rfl) ?_
  refine lv_istore (lv' := [(7, .int (nI f)), (6, .int (nI 0)), (0, .ref h), (1, .ref hr), (2, .int (nI f)), (3, .int (nI t)), (4, .int (nI p9)), (5, .int (nI mo))]) hx hb d_Sn_shorten_4 hl (by decide) rfl (fun ls hl => ?_)
  have lp6 : ∀ (k : Nat) (i c9 : Nat) (b' : Nat → Nat) (H : Heap) (locs : List Loc) (ls : Array Slot), ((i + k = t) ∨ (k = 0 ∧ t ≤ i)) → (i ≤ 256) → (c9 ≤ mo) → (shC v mo (t - f) f 0 = shC v mo k i c9 ∧ shB v p9 mo (t - f) f 0 b = shB v p9 mo k i c9 b') → va_P (dC, dI) vwCl [(h, .inr (2, [.ref a])), (a, .inl (cI, 11, .inl (nf b'))), (hr, .inr (1, [.ref ar, .int (nI n)])), (ar, .inl (cI, 255, .inl (nf v)))] H → va_D A [(h, .inr (2, [.ref a])), (a, .inl (cI, 11, .inl (nf b'))), (hr, .inr (1, [.ref ar, .int (nI n)])), (ar, .inl (cI, 255, .inl (nf v)))] → va_S A s.heap H locs → lv_has ls 9 [(0, .ref h), (1, .ref hr), (3, .int (nI t)), (4, .int (nI p9)), (5, .int (nI mo)), (6, .int (nI c9)), (7, .int (nI i))] → W p l e ({ frames := 2, cells := 0, slots := 0, locals := 41 } : Room) s m ([.ref h, .ref hr, .int (nI f), .int (nI t), .int (nI p9), .int (nI mo)] : List Value).toArray below meth c H locs 0 0 Q (F0 m 6 ls []) := by
    intro k
    induction k with
    | zero =>
      intro i c9 b' H locs ls hi hi2 hc hE hP hD hS hl
      refine lv_iload hx hb d_Sn_shorten_6 (lv_at hl 6 rfl) ?_
      refine lv_iload_n hx hb d_Sn_shorten_8 rfl (lv_at hl 2 rfl) ?_
      refine lv_icmp_ge (tgt := 64) hx hb d_Sn_shorten_9 (by decide) (fun c_1 => ?_) (fun c_1 => ?_)
      · skip
        rw [nI_leI (by omega) (by omega)] at c_1
        refine lv_iload hx hb d_Sn_shorten_64 (lv_at hl 5 rfl) ?_
        have hw9 : ([(h, .inr (2, [.ref a])), (a, .inl (cI, 11, .inl (nf b'))), (hr, .inr (1, [.ref ar, .int (nI n)])), (ar, .inl (cI, 255, .inl (nf v)))] : va_W) = [(h, .inr (2, [.ref a])), (a, .inl (cI, 11, .inl (nf (shB v p9 mo (t - f) f 0 b)))), (hr, .inr (1, [.ref ar, .int (nI n)])), (ar, .inl (cI, 255, .inl (nf v)))] := by rw [hE.2]; first | rfl | rw [shB, if_neg (by omega)]
        rw [hw9] at hP hD
        exact mk_ti (by rw [hE.1]; first | rfl | rw [shC, if_neg (by omega)]) (hret _ _ _ _ d_Sn_shorten_66 hP hD hS)
      · skip
        rw [nI_leI (by omega) (by omega)] at c_1
        first | omega | contradiction
    | succ k ih6 =>
      intro i c9 b' H locs ls hi hi2 hc hE hP hD hS hl
      refine lv_iload hx hb d_Sn_shorten_6 (lv_at hl 6 rfl) ?_
      refine lv_iload_n hx hb d_Sn_shorten_8 rfl (lv_at hl 2 rfl) ?_
      refine lv_icmp_ge (tgt := 64) hx hb d_Sn_shorten_9 (by decide) (fun c_2 => ?_) (fun c_2 => ?_)
      · skip
        rw [nI_leI (by omega) (by omega)] at c_2
        first | omega | contradiction
      · skip
        rw [nI_leI (by omega) (by omega)] at c_2
        refine lv_iload hx hb d_Sn_shorten_12 (lv_at hl 5 rfl) ?_
        refine lv_iload hx hb d_Sn_shorten_14 (lv_at hl 4 rfl) ?_
        refine lv_icmp_ge (tgt := 64) hx hb d_Sn_shorten_16 (by decide) (fun c_3 => ?_) (fun c_3 => ?_)
        · skip
          rw [nI_leI (by omega) (by omega)] at c_3
          refine lv_iload hx hb d_Sn_shorten_64 (lv_at hl 5 rfl) ?_
          have hw9 : ([(h, .inr (2, [.ref a])), (a, .inl (cI, 11, .inl (nf b'))), (hr, .inr (1, [.ref ar, .int (nI n)])), (ar, .inl (cI, 255, .inl (nf v)))] : va_W) = [(h, .inr (2, [.ref a])), (a, .inl (cI, 11, .inl (nf (shB v p9 mo (t - f) f 0 b)))), (hr, .inr (1, [.ref ar, .int (nI n)])), (ar, .inl (cI, 255, .inl (nf v)))] := by rw [hE.2]; first | rfl | rw [shB, if_neg (by omega)]
          rw [hw9] at hP hD
          exact mk_ti (by rw [hE.1]; first | rfl | rw [shC, if_neg (by omega)]) (hret _ _ _ _ d_Sn_shorten_66 hP hD hS)
        · skip
          rw [nI_leI (by omega) (by omega)] at c_3
          refine lv_aload_n hx hb d_Sn_shorten_19 rfl (lv_at hl 1 rfl) ?_
          refine lv_iload hx hb d_Sn_shorten_20 (lv_at hl 6 rfl) ?_
          refine mk_r1 (W.runV (As := [.int (nI i)]) (rest := []) S (c_Ro_get l dC dI cI hr ar n v i (by first | assumption | omega) (by first | assumption | omega) (by first | assumption | omega)) (gV 1 hts k_385 k_141 k_142 k_25 k_143 (by decide +kernel) ⟨Nat.le_of_ble_eq_true rfl, Nat.le_of_ble_eq_true rfl⟩) (mk_vR hP hK hT hS [2, 3] rfl (q0 := 2) (ci := 1) rfl rfl) rfl rfl hl.1 rfl (lv_room (Nat.le_of_ble_eq_true rfl)) d_Sn_shorten_22 ⟨Nat.zero_le _, Nat.zero_le _⟩) ?_
          have b_4 := (show ∀ j9, v j9 < 65536 by assumption) i
          refine lv_istore (lv' := [(8, .int (nI (v i))), (0, .ref h), (1, .ref hr), (3, .int (nI t)), (4, .int (nI p9)), (5, .int (nI mo)), (6, .int (nI c9)), (7, .int (nI i))]) hx hb d_Sn_shorten_25 hl (by decide) rfl (fun ls hl => ?_)
          refine lv_iload hx hb d_Sn_shorten_27 (lv_at hl 0 rfl) ?_
          refine lv_bipush (v := nI 32) hx hb d_Sn_shorten_29 (by decide) ?_
          refine lv_icmp_eq (tgt := 58) hx hb d_Sn_shorten_31 (by decide) (fun c_5 => ?_) (fun c_5 => ?_)
          · skip
            rw [nI_eq (by omega) (by omega)] at c_5
            refine lv_iinc (v := nI (i + 1)) (lv' := [(7, .int (nI (i + 1))), (8, .int (nI (v i))), (0, .ref h), (1, .ref hr), (3, .int (nI t)), (4, .int (nI p9)), (5, .int (nI mo)), (6, .int (nI c9))]) hx hb d_Sn_shorten_58 hl (k := 7) rfl (mk_i1 i) (by decide) rfl (fun ls hl => ?_)
            refine lv_goto (tgt := 6) hx hb d_Sn_shorten_61 (by decide) ?_
            have hl : lv_has ls 9 [(0, .ref h), (1, .ref hr), (3, .int (nI t)), (4, .int (nI p9)), (5, .int (nI mo)), (6, .int (nI c9)), (7, .int (nI (i + 1)))] := lv_sub hl [2, 3, 4, 5, 6, 7, 0] rfl
            exact ih6 (i + 1) c9 b' _ _ _ (by omega) (by omega) (by omega) (by rw [hE.1, hE.2, shC, shB, if_pos (show c9 < mo by omega), if_pos (show c9 < mo by omega)]; first | rw [if_pos (by omega), if_pos (by omega)]; exact ⟨rfl, rfl⟩ | rw [if_neg (by omega), if_neg (by omega)]; exact ⟨rfl, rfl⟩) hP hD hS hl
          · skip
            rw [nI_eq (by omega) (by omega)] at c_5
            refine lv_iload hx hb d_Sn_shorten_34 (lv_at hl 0 rfl) ?_
            refine lv_bipush (v := nI 46) hx hb d_Sn_shorten_36 (by decide) ?_
            refine lv_icmp_eq (tgt := 58) hx hb d_Sn_shorten_38 (by decide) (fun c_6 => ?_) (fun c_6 => ?_)
            · skip
              rw [nI_eq (by omega) (by omega)] at c_6
              refine lv_iinc (v := nI (i + 1)) (lv' := [(7, .int (nI (i + 1))), (8, .int (nI (v i))), (0, .ref h), (1, .ref hr), (3, .int (nI t)), (4, .int (nI p9)), (5, .int (nI mo)), (6, .int (nI c9))]) hx hb d_Sn_shorten_58 hl (k := 7) rfl (mk_i1 i) (by decide) rfl (fun ls hl => ?_)
              refine lv_goto (tgt := 6) hx hb d_Sn_shorten_61 (by decide) ?_
              have hl : lv_has ls 9 [(0, .ref h), (1, .ref hr), (3, .int (nI t)), (4, .int (nI p9)), (5, .int (nI mo)), (6, .int (nI c9)), (7, .int (nI (i + 1)))] := lv_sub hl [2, 3, 4, 5, 6, 7, 0] rfl
              exact ih6 (i + 1) c9 b' _ _ _ (by omega) (by omega) (by omega) (by rw [hE.1, hE.2, shC, shB, if_pos (show c9 < mo by omega), if_pos (show c9 < mo by omega)]; first | rw [if_pos (by omega), if_pos (by omega)]; exact ⟨rfl, rfl⟩ | rw [if_neg (by omega), if_neg (by omega)]; exact ⟨rfl, rfl⟩) hP hD hS hl
            · skip
              rw [nI_eq (by omega) (by omega)] at c_6
              refine lv_aload_n hx hb d_Sn_shorten_41 rfl (lv_at hl 1 rfl) ?_
              refine lv_iload hx hb d_Sn_shorten_42 (lv_at hl 4 rfl) ?_
              refine lv_iload hx hb d_Sn_shorten_44 (lv_at hl 6 rfl) ?_
              refine lv_iadd hx hb d_Sn_shorten_46 ?_
              refine mk_ti (y := nI (p9 + c9)) (nI_add p9 c9) ?_
              refine lv_iload hx hb d_Sn_shorten_47 (lv_at hl 0 rfl) ?_
              refine mk_r1 (W.runS (As := [.int (nI (v i))]) (rest := [.int (nI (p9 + c9)), .ref h]) S (c_Un_sho l dC dI cI (v i) (by first | assumption | omega)) (gS 1 hts k_386 k_387 k_30 k_388 (by decide +kernel) ⟨Nat.le_of_ble_eq_true rfl, Nat.le_of_ble_eq_true rfl⟩) (mk_sR hP hK hT hS [] rfl) rfl rfl hl.1 rfl (lv_room (Nat.le_of_ble_eq_true rfl)) d_Sn_shorten_49 ⟨Nat.zero_le _, Nat.zero_le _⟩) ?_
              have b_7 := shoN_lt (show (v i) < 65536 by omega)
              refine mk_w0 (wr := [(hr, .inr (1, [.ref ar, .int (nI n)])), (ar, .inl (cI, 255, .inl (nf v)))]) (W.runV (As := [.int (nI (p9 + c9)), .int (nI (shoN (v i)))]) (rest := []) S ((c_Sn_set l dC dI cI h a b' (p9 + c9) (shoN (v i)) (by first | assumption | omega)) _) (gV 2 hts k_391 k_393 k_3 k_26 k_394 (by decide +kernel) ⟨Nat.le_of_ble_eq_true rfl, Nat.le_of_ble_eq_true rfl⟩) (mk_vM hP hD hK hT hS hA [0, 1] rfl rfl (by decide) (q0 := 0) (ci := 2) rfl rfl) rfl rfl hl.1 rfl (lv_room (Nat.le_of_ble_eq_true rfl)) d_Sn_shorten_52 ⟨Nat.zero_le _, Nat.zero_le _⟩) hP hD hS hA [0, 1] [2, 3] rfl rfl (by decide) (by decide) (fun H locs hP hD hS => ?_)
              have hP : va_P (dC, dI) vwCl [(h, .inr (2, [.ref a])), (a, .inl (cI, 11, .inl (nf (uN b' (p9 + c9) (shoN (v i)))))), (hr, .inr (1, [.ref ar, .int (nI n)])), (ar, .inl (cI, 255, .inl (nf v)))] H := hP.sub [2, 3, 0, 1] rfl
              have hD : va_D A [(h, .inr (2, [.ref a])), (a, .inl (cI, 11, .inl (nf (uN b' (p9 + c9) (shoN (v i)))))), (hr, .inr (1, [.ref ar, .int (nI n)])), (ar, .inl (cI, 255, .inl (nf v)))] := hD.sub [2, 3, 0, 1] (by decide) rfl
              refine lv_iinc (v := nI (c9 + 1)) (lv' := [(6, .int (nI (c9 + 1))), (8, .int (nI (v i))), (0, .ref h), (1, .ref hr), (3, .int (nI t)), (4, .int (nI p9)), (5, .int (nI mo)), (7, .int (nI i))]) hx hb d_Sn_shorten_55 hl (k := 6) rfl (mk_i1 c9) (by decide) rfl (fun ls hl => ?_)
              refine lv_iinc (v := nI (i + 1)) (lv' := [(7, .int (nI (i + 1))), (6, .int (nI (c9 + 1))), (8, .int (nI (v i))), (0, .ref h), (1, .ref hr), (3, .int (nI t)), (4, .int (nI p9)), (5, .int (nI mo))]) hx hb d_Sn_shorten_58 hl (k := 7) rfl (mk_i1 i) (by decide) rfl (fun ls hl => ?_)
              refine lv_goto (tgt := 6) hx hb d_Sn_shorten_61 (by decide) ?_
              have hl : lv_has ls 9 [(0, .ref h), (1, .ref hr), (3, .int (nI t)), (4, .int (nI p9)), (5, .int (nI mo)), (6, .int (nI (c9 + 1))), (7, .int (nI (i + 1)))] := lv_sub hl [3, 4, 5, 6, 7, 1, 0] rfl
              exact ih6 (i + 1) (c9 + 1) (uN b' (p9 + c9) (shoN (v i))) _ _ _ (by omega) (by omega) (by omega) (by rw [hE.1, hE.2, shC, shB, if_pos (show c9 < mo by omega), if_pos (show c9 < mo by omega)]; first | rw [if_pos (by omega), if_pos (by omega)]; exact ⟨rfl, rfl⟩ | rw [if_neg (by omega), if_neg (by omega)]; exact ⟨rfl, rfl⟩) hP hD hS hl
  have hl : lv_has ls 9 [(0, .ref h), (1, .ref hr), (3, .int (nI t)), (4, .int (nI p9)), (5, .int (nI mo)), (6, .int (nI 0)), (7, .int (nI f))] := lv_sub hl [2, 3, 5, 6, 7, 1, 0] rfl
  exact lp6 (t - f) f 0 b _ _ _ (by omega) hf (Nat.zero_le _) ⟨rfl, rfl⟩ hP hD hS hl

set_option maxHeartbeats 4000000 in
set_option maxRecDepth 100000 in
theorem c_Sn_shown0 (l : Launch) (dC : Nat → ClassId) (dI : Nat → Nat → Nat) (cI : ClassId) (h a : Nat) (b : Nat → Nat) (hr ar n : Nat) (v : Nat → Nat) (hn : n ≤ 255) (hv : ∀ j, v j < 65536) (h0 : lpN v n = 0) : mM l y_Sn_takeShown w_Sn_takeShown ({ frames := 3, cells := 0, slots := 0, locals := 69 } : Room) [.ref h, .ref hr] (dC, dI) vwCl [(cI, .int)] [(h, .inr (2, [.ref a])), (a, .inl (cI, 11, .inl (nf b))), (hr, .inr (1, [.ref ar, .int (nI n)])), (ar, .inl (cI, 255, .inl (nf v)))] none [(h, .inr (2, [.ref a])), (a, .inl (cI, 11, .inl (nf (tsN v n b)))), (hr, .inr (1, [.ref ar, .int (nI n)])), (ar, .inl (cI, 255, .inl (nf v)))] := by
  refine mk_Mv (cc := b_Sn_takeShown) (maxL := 4) (by decide) rfl (Nat.le_of_ble_eq_true rfl) ?_
  intro p e s m below meth c Q A ls S hP hK hT hS hl hD hA hret
  obtain ⟨hx, hb, hml, hown, hts⟩ := id S
  have hl : lv_has ls 4 [(0, .ref h), (1, .ref hr)] := hl
  refine lv_aload_n hx hb d_Sn_takeShown_0 rfl (lv_at hl 0 rfl) ?_
  refine va_get (D := (dC, dI)) (ci := 2) (v := .ref a) (C := "LongNames$ShortName") (T := F_Sn) (N := 1) hx hb hts (iw_Sn _) hown hK hP 0 rfl rfl 0 (by decide) (hts _ (List.mem_cons_of_mem _ k_67)) (fun _ h9 => h9) rfl d_Sn_takeShown_1 ?_
  refine lv_bipush (v := nI 32) hx hb d_Sn_takeShown_4 (by decide) ?_
  refine mk_w0 (wr := [(h, .inr (2, [.ref a])), (hr, .inr (1, [.ref ar, .int (nI n)])), (ar, .inl (cI, 255, .inl (nf v)))]) (W.runS (As := [.ref a, .int (nI 32)]) (rest := []) S ((c_Ar_fill11 l dC dI cI a b 32) _) (gS 2 hts k_376 k_377 k_36 k_378 (by decide +kernel) ⟨Nat.le_of_ble_eq_true rfl, Nat.le_of_ble_eq_true rfl⟩) (mk_sM hP hD hK hT hS hA [1] rfl rfl (by decide)) rfl rfl hl.1 rfl (lv_room (Nat.le_of_ble_eq_true rfl)) d_Sn_takeShown_6 ⟨Nat.zero_le _, Nat.zero_le _⟩) hP hD hS hA [1] [0, 2, 3] rfl rfl (by decide) (by decide) (fun H locs hP hD hS => ?_)
  have hP : va_P (dC, dI) vwCl [(h, .inr (2, [.ref a])), (a, .inl (cI, 11, .inl (nf (fiN b 32 11)))), (hr, .inr (1, [.ref ar, .int (nI n)])), (ar, .inl (cI, 255, .inl (nf v)))] H := hP.sub [0, 3, 1, 2] rfl
  have hD : va_D A [(h, .inr (2, [.ref a])), (a, .inl (cI, 11, .inl (nf (fiN b 32 11)))), (hr, .inr (1, [.ref ar, .int (nI n)])), (ar, .inl (cI, 255, .inl (nf v)))] := hD.sub [0, 3, 1, 2] (by decide) rfl
  refine lv_aload_n hx hb d_Sn_takeShown_9 rfl (lv_at hl 1 rfl) ?_
  refine mk_r1 (W.runV (As := []) (rest := []) S (c_Ro_lp0 l dC dI cI hr ar n v (by first | assumption | omega) (by first | assumption | omega) (by first | assumption | omega)) (gV 0 hts k_379 k_155 k_156 k_25 k_157 (by decide +kernel) ⟨Nat.le_of_ble_eq_true rfl, Nat.le_of_ble_eq_true rfl⟩) (mk_vR hP hK hT hS [2, 3] rfl (q0 := 2) (ci := 1) rfl rfl) rfl rfl hl.1 rfl (lv_room (Nat.le_of_ble_eq_true rfl)) d_Sn_takeShown_10 ⟨Nat.zero_le _, Nat.zero_le _⟩) ?_
  refine lv_istore_n (lv' := [(2, .int (-1)), (0, .ref h), (1, .ref hr)]) hx hb d_Sn_takeShown_13 rfl hl (by decide) rfl (fun ls hl => ?_)
  refine lv_iload_n hx hb d_Sn_takeShown_14 rfl (lv_at hl 0 rfl) ?_
  refine lv_iconst (v := (-1)) hx hb d_Sn_takeShown_15 (by decide) ?_
  refine lv_icmp_ne (tgt := 26) hx hb d_Sn_takeShown_16 (by decide) (fun c_1 => ?_) (fun c_1 => ?_)
  · skip
    exact absurd rfl c_1
  · skip
    refine lv_aload_n hx hb d_Sn_takeShown_19 rfl (lv_at hl 2 rfl) ?_
    refine mk_r1 (W.runV (As := []) (rest := []) S (c_Ro_size l dC dI cI hr ar n v) (gV 0 hts k_380 k_125 k_126 k_25 k_127 (by decide +kernel) ⟨Nat.le_of_ble_eq_true rfl, Nat.le_of_ble_eq_true rfl⟩) (mk_vR hP hK hT hS [2, 3] rfl (q0 := 2) (ci := 1) rfl rfl) rfl rfl hl.1 rfl (lv_room (Nat.le_of_ble_eq_true rfl)) d_Sn_takeShown_20 ⟨Nat.zero_le _, Nat.zero_le _⟩) ?_
    refine lv_goto (tgt := 27) hx hb d_Sn_takeShown_23 (by decide) ?_
    refine lv_istore_n (lv' := [(3, .int (nI n)), (2, .int (-1)), (0, .ref h), (1, .ref hr)]) hx hb d_Sn_takeShown_27 rfl hl (by decide) rfl (fun ls hl => ?_)
    refine lv_aload_n hx hb d_Sn_takeShown_28 rfl (lv_at hl 2 rfl) ?_
    refine lv_aload_n hx hb d_Sn_takeShown_29 rfl (lv_at hl 3 rfl) ?_
    refine lv_iconst (v := nI 0) hx hb d_Sn_takeShown_30 (by decide) ?_
    refine lv_iload_n hx hb d_Sn_takeShown_31 rfl (lv_at hl 0 rfl) ?_
    refine lv_iconst (v := nI 0) hx hb d_Sn_takeShown_32 (by decide) ?_
    refine lv_bipush (v := nI 8) hx hb d_Sn_takeShown_33 (by decide) ?_
    refine mk_w1 (wr := []) (W.runV (As := [.ref hr, .int (nI 0), .int (nI n), .int (nI 0), .int (nI 8)]) (rest := []) S ((c_Sn_sho l dC dI cI h a (fiN b 32 11) hr ar n v 0 n 0 8 (by first | assumption | omega) (by first | assumption | omega) (by first | assumption | omega) (by first | assumption | omega) (by first | assumption | omega)) _) (gV 5 hts k_381 k_383 k_2 k_26 k_384 (by decide +kernel) ⟨Nat.le_of_ble_eq_true rfl, Nat.le_of_ble_eq_true rfl⟩) (mk_vM hP hD hK hT hS hA [0, 1, 2, 3] rfl rfl (by decide) (q0 := 0) (ci := 2) rfl rfl) rfl rfl hl.1 rfl (lv_room (Nat.le_of_ble_eq_true rfl)) d_Sn_takeShown_35 ⟨Nat.zero_le _, Nat.zero_le _⟩) hP hD hS hA [0, 1, 2, 3] [] rfl rfl (by decide) (by decide) (fun H locs hP hD hS => ?_)
    have hP : va_P (dC, dI) vwCl [(h, .inr (2, [.ref a])), (a, .inl (cI, 11, .inl (nf (shB v 0 8 (n - 0) 0 0 (fiN b 32 11))))), (hr, .inr (1, [.ref ar, .int (nI n)])), (ar, .inl (cI, 255, .inl (nf v)))] H := hP.sub [0, 1, 2, 3] rfl
    have hD : va_D A [(h, .inr (2, [.ref a])), (a, .inl (cI, 11, .inl (nf (shB v 0 8 (n - 0) 0 0 (fiN b 32 11))))), (hr, .inr (1, [.ref ar, .int (nI n)])), (ar, .inl (cI, 255, .inl (nf v)))] := hD.sub [0, 1, 2, 3] (by decide) rfl
    have b_2 := shC_le v 8 (n - 0) 0 0 (Nat.zero_le _)
    refine lv_pop hx hb d_Sn_takeShown_38 rfl ?_
    refine lv_aload_n hx hb d_Sn_takeShown_39 rfl (lv_at hl 2 rfl) ?_
    refine lv_aload_n hx hb d_Sn_takeShown_40 rfl (lv_at hl 3 rfl) ?_
    refine lv_iload_n hx hb d_Sn_takeShown_41 rfl (lv_at hl 0 rfl) ?_
    refine lv_iconst (v := nI 1) hx hb d_Sn_takeShown_42 (by decide) ?_
    refine lv_iadd hx hb d_Sn_takeShown_43 ?_
    refine mk_ti (y := nI (n + 1)) (nI_add n 1) ?_
    refine lv_aload_n hx hb d_Sn_takeShown_44 rfl (lv_at hl 3 rfl) ?_
    refine mk_r1 (W.runV (As := []) (rest := [.int (nI (n + 1)), .ref hr, .ref h]) S (c_Ro_size l dC dI cI hr ar n v) (gV 0 hts k_380 k_125 k_126 k_25 k_127 (by decide +kernel) ⟨Nat.le_of_ble_eq_true rfl, Nat.le_of_ble_eq_true rfl⟩) (mk_vR hP hK hT hS [2, 3] rfl (q0 := 2) (ci := 1) rfl rfl) rfl rfl hl.1 rfl (lv_room (Nat.le_of_ble_eq_true rfl)) d_Sn_takeShown_45 ⟨Nat.zero_le _, Nat.zero_le _⟩) ?_
    refine lv_bipush (v := nI 8) hx hb d_Sn_takeShown_48 (by decide) ?_
    refine lv_iconst (v := nI 3) hx hb d_Sn_takeShown_50 (by decide) ?_
    refine mk_w1 (wr := []) (W.runV (As := [.ref hr, .int (nI (n + 1)), .int (nI n), .int (nI 8), .int (nI 3)]) (rest := []) S ((c_Sn_sho l dC dI cI h a (shB v 0 8 (n - 0) 0 0 (fiN b 32 11)) hr ar n v (n + 1) n 8 3 (by first | assumption | omega) (by first | assumption | omega) (by first | assumption | omega) (by first | assumption | omega) (by first | assumption | omega)) _) (gV 5 hts k_381 k_383 k_2 k_26 k_384 (by decide +kernel) ⟨Nat.le_of_ble_eq_true rfl, Nat.le_of_ble_eq_true rfl⟩) (mk_vM hP hD hK hT hS hA [0, 1, 2, 3] rfl rfl (by decide) (q0 := 0) (ci := 2) rfl rfl) rfl rfl hl.1 rfl (lv_room (Nat.le_of_ble_eq_true rfl)) d_Sn_takeShown_51 ⟨Nat.zero_le _, Nat.zero_le _⟩) hP hD hS hA [0, 1, 2, 3] [] rfl rfl (by decide) (by decide) (fun H locs hP hD hS => ?_)
    have hP : va_P (dC, dI) vwCl [(h, .inr (2, [.ref a])), (a, .inl (cI, 11, .inl (nf (shB v 8 3 (n - (n + 1)) (n + 1) 0 (shB v 0 8 (n - 0) 0 0 (fiN b 32 11)))))), (hr, .inr (1, [.ref ar, .int (nI n)])), (ar, .inl (cI, 255, .inl (nf v)))] H := hP.sub [0, 1, 2, 3] rfl
    have hD : va_D A [(h, .inr (2, [.ref a])), (a, .inl (cI, 11, .inl (nf (shB v 8 3 (n - (n + 1)) (n + 1) 0 (shB v 0 8 (n - 0) 0 0 (fiN b 32 11)))))), (hr, .inr (1, [.ref ar, .int (nI n)])), (ar, .inl (cI, 255, .inl (nf v)))] := hD.sub [0, 1, 2, 3] (by decide) rfl
    have b_3 := shC_le v 3 (n - (n + 1)) (n + 1) 0 (Nat.zero_le _)
    refine lv_pop hx hb d_Sn_takeShown_54 rfl ?_
    have hw9 : ([(h, .inr (2, [.ref a])), (a, .inl (cI, 11, .inl (nf (shB v 8 3 (n - (n + 1)) (n + 1) 0 (shB v 0 8 (n - 0) 0 0 (fiN b 32 11)))))), (hr, .inr (1, [.ref ar, .int (nI n)])), (ar, .inl (cI, 255, .inl (nf v)))] : va_W) = [(h, .inr (2, [.ref a])), (a, .inl (cI, 11, .inl (nf (tsN v n b)))), (hr, .inr (1, [.ref ar, .int (nI n)])), (ar, .inl (cI, 255, .inl (nf v)))] := by simp only [tsN, h0, if_pos, Nat.sub_zero]
    rw [hw9] at hP hD
    exact hret _ _ _ _ d_Sn_takeShown_55 hP hD hS

set_option maxHeartbeats 4000000 in
set_option maxRecDepth 100000 in
theorem c_Sn_shownS (l : Launch) (dC : Nat → ClassId) (dI : Nat → Nat → Nat) (cI : ClassId) (h a : Nat) (b : Nat → Nat) (hr ar n : Nat) (v : Nat → Nat) (m9 : Nat) (hn : n ≤ 255) (hv : ∀ j, v j < 65536) (h0 : lpN v n = m9 + 1) : mM l y_Sn_takeShown w_Sn_takeShown ({ frames := 3, cells := 0, slots := 0, locals := 69 } : Room) [.ref h, .ref hr] (dC, dI) vwCl [(cI, .int)] [(h, .inr (2, [.ref a])), (a, .inl (cI, 11, .inl (nf b))), (hr, .inr (1, [.ref ar, .int (nI n)])), (ar, .inl (cI, 255, .inl (nf v)))] none [(h, .inr (2, [.ref a])), (a, .inl (cI, 11, .inl (nf (tsN v n b)))), (hr, .inr (1, [.ref ar, .int (nI n)])), (ar, .inl (cI, 255, .inl (nf v)))] := by
  have hm9 := lpN_le v n
  refine mk_Mv (cc := b_Sn_takeShown) (maxL := 4) (by decide) rfl (Nat.le_of_ble_eq_true rfl) ?_
  intro p e s m below meth c Q A ls S hP hK hT hS hl hD hA hret
  obtain ⟨hx, hb, hml, hown, hts⟩ := id S
  have hl : lv_has ls 4 [(0, .ref h), (1, .ref hr)] := hl
  refine lv_aload_n hx hb d_Sn_takeShown_0 rfl (lv_at hl 0 rfl) ?_
  refine va_get (D := (dC, dI)) (ci := 2) (v := .ref a) (C := "LongNames$ShortName") (T := F_Sn) (N := 1) hx hb hts (iw_Sn _) hown hK hP 0 rfl rfl 0 (by decide) (hts _ (List.mem_cons_of_mem _ k_67)) (fun _ h9 => h9) rfl d_Sn_takeShown_1 ?_
  refine lv_bipush (v := nI 32) hx hb d_Sn_takeShown_4 (by decide) ?_
  refine mk_w0 (wr := [(h, .inr (2, [.ref a])), (hr, .inr (1, [.ref ar, .int (nI n)])), (ar, .inl (cI, 255, .inl (nf v)))]) (W.runS (As := [.ref a, .int (nI 32)]) (rest := []) S ((c_Ar_fill11 l dC dI cI a b 32) _) (gS 2 hts k_376 k_377 k_36 k_378 (by decide +kernel) ⟨Nat.le_of_ble_eq_true rfl, Nat.le_of_ble_eq_true rfl⟩) (mk_sM hP hD hK hT hS hA [1] rfl rfl (by decide)) rfl rfl hl.1 rfl (lv_room (Nat.le_of_ble_eq_true rfl)) d_Sn_takeShown_6 ⟨Nat.zero_le _, Nat.zero_le _⟩) hP hD hS hA [1] [0, 2, 3] rfl rfl (by decide) (by decide) (fun H locs hP hD hS => ?_)
  have hP : va_P (dC, dI) vwCl [(h, .inr (2, [.ref a])), (a, .inl (cI, 11, .inl (nf (fiN b 32 11)))), (hr, .inr (1, [.ref ar, .int (nI n)])), (ar, .inl (cI, 255, .inl (nf v)))] H := hP.sub [0, 3, 1, 2] rfl
  have hD : va_D A [(h, .inr (2, [.ref a])), (a, .inl (cI, 11, .inl (nf (fiN b 32 11)))), (hr, .inr (1, [.ref ar, .int (nI n)])), (ar, .inl (cI, 255, .inl (nf v)))] := hD.sub [0, 3, 1, 2] (by decide) rfl
  refine lv_aload_n hx hb d_Sn_takeShown_9 rfl (lv_at hl 1 rfl) ?_
  refine mk_r1 (W.runV (As := []) (rest := []) S (c_Ro_lpS l dC dI cI hr ar n v m9 (by first | assumption | omega) (by first | assumption | omega) (by first | assumption | omega)) (gV 0 hts k_379 k_155 k_156 k_25 k_157 (by decide +kernel) ⟨Nat.le_of_ble_eq_true rfl, Nat.le_of_ble_eq_true rfl⟩) (mk_vR hP hK hT hS [2, 3] rfl (q0 := 2) (ci := 1) rfl rfl) rfl rfl hl.1 rfl (lv_room (Nat.le_of_ble_eq_true rfl)) d_Sn_takeShown_10 ⟨Nat.zero_le _, Nat.zero_le _⟩) ?_
  refine lv_istore_n (lv' := [(2, .int (nI m9)), (0, .ref h), (1, .ref hr)]) hx hb d_Sn_takeShown_13 rfl hl (by decide) rfl (fun ls hl => ?_)
  refine lv_iload_n hx hb d_Sn_takeShown_14 rfl (lv_at hl 0 rfl) ?_
  refine lv_iconst (v := (-1)) hx hb d_Sn_takeShown_15 (by decide) ?_
  refine lv_icmp_ne (tgt := 26) hx hb d_Sn_takeShown_16 (by decide) (fun c_1 => ?_) (fun c_1 => ?_)
  · skip
    refine lv_iload_n hx hb d_Sn_takeShown_26 rfl (lv_at hl 0 rfl) ?_
    refine lv_istore_n (lv' := [(3, .int (nI m9)), (2, .int (nI m9)), (0, .ref h), (1, .ref hr)]) hx hb d_Sn_takeShown_27 rfl hl (by decide) rfl (fun ls hl => ?_)
    refine lv_aload_n hx hb d_Sn_takeShown_28 rfl (lv_at hl 2 rfl) ?_
    refine lv_aload_n hx hb d_Sn_takeShown_29 rfl (lv_at hl 3 rfl) ?_
    refine lv_iconst (v := nI 0) hx hb d_Sn_takeShown_30 (by decide) ?_
    refine lv_iload_n hx hb d_Sn_takeShown_31 rfl (lv_at hl 0 rfl) ?_
    refine lv_iconst (v := nI 0) hx hb d_Sn_takeShown_32 (by decide) ?_
    refine lv_bipush (v := nI 8) hx hb d_Sn_takeShown_33 (by decide) ?_
    refine mk_w1 (wr := []) (W.runV (As := [.ref hr, .int (nI 0), .int (nI m9), .int (nI 0), .int (nI 8)]) (rest := []) S ((c_Sn_sho l dC dI cI h a (fiN b 32 11) hr ar n v 0 m9 0 8 (by first | assumption | omega) (by first | assumption | omega) (by first | assumption | omega) (by first | assumption | omega) (by first | assumption | omega)) _) (gV 5 hts k_381 k_383 k_2 k_26 k_384 (by decide +kernel) ⟨Nat.le_of_ble_eq_true rfl, Nat.le_of_ble_eq_true rfl⟩) (mk_vM hP hD hK hT hS hA [0, 1, 2, 3] rfl rfl (by decide) (q0 := 0) (ci := 2) rfl rfl) rfl rfl hl.1 rfl (lv_room (Nat.le_of_ble_eq_true rfl)) d_Sn_takeShown_35 ⟨Nat.zero_le _, Nat.zero_le _⟩) hP hD hS hA [0, 1, 2, 3] [] rfl rfl (by decide) (by decide) (fun H locs hP hD hS => ?_)
    have hP : va_P (dC, dI) vwCl [(h, .inr (2, [.ref a])), (a, .inl (cI, 11, .inl (nf (shB v 0 8 (m9 - 0) 0 0 (fiN b 32 11))))), (hr, .inr (1, [.ref ar, .int (nI n)])), (ar, .inl (cI, 255, .inl (nf v)))] H := hP.sub [0, 1, 2, 3] rfl
    have hD : va_D A [(h, .inr (2, [.ref a])), (a, .inl (cI, 11, .inl (nf (shB v 0 8 (m9 - 0) 0 0 (fiN b 32 11))))), (hr, .inr (1, [.ref ar, .int (nI n)])), (ar, .inl (cI, 255, .inl (nf v)))] := hD.sub [0, 1, 2, 3] (by decide) rfl
    have b_2 := shC_le v 8 (m9 - 0) 0 0 (Nat.zero_le _)
    refine lv_pop hx hb d_Sn_takeShown_38 rfl ?_
    refine lv_aload_n hx hb d_Sn_takeShown_39 rfl (lv_at hl 2 rfl) ?_
    refine lv_aload_n hx hb d_Sn_takeShown_40 rfl (lv_at hl 3 rfl) ?_
    refine lv_iload_n hx hb d_Sn_takeShown_41 rfl (lv_at hl 0 rfl) ?_
    refine lv_iconst (v := nI 1) hx hb d_Sn_takeShown_42 (by decide) ?_
    refine lv_iadd hx hb d_Sn_takeShown_43 ?_
    refine mk_ti (y := nI (m9 + 1)) (nI_add m9 1) ?_
    refine lv_aload_n hx hb d_Sn_takeShown_44 rfl (lv_at hl 3 rfl) ?_
    refine mk_r1 (W.runV (As := []) (rest := [.int (nI (m9 + 1)), .ref hr, .ref h]) S (c_Ro_size l dC dI cI hr ar n v) (gV 0 hts k_380 k_125 k_126 k_25 k_127 (by decide +kernel) ⟨Nat.le_of_ble_eq_true rfl, Nat.le_of_ble_eq_true rfl⟩) (mk_vR hP hK hT hS [2, 3] rfl (q0 := 2) (ci := 1) rfl rfl) rfl rfl hl.1 rfl (lv_room (Nat.le_of_ble_eq_true rfl)) d_Sn_takeShown_45 ⟨Nat.zero_le _, Nat.zero_le _⟩) ?_
    refine lv_bipush (v := nI 8) hx hb d_Sn_takeShown_48 (by decide) ?_
    refine lv_iconst (v := nI 3) hx hb d_Sn_takeShown_50 (by decide) ?_
    refine mk_w1 (wr := []) (W.runV (As := [.ref hr, .int (nI (m9 + 1)), .int (nI n), .int (nI 8), .int (nI 3)]) (rest := []) S ((c_Sn_sho l dC dI cI h a (shB v 0 8 (m9 - 0) 0 0 (fiN b 32 11)) hr ar n v (m9 + 1) n 8 3 (by first | assumption | omega) (by first | assumption | omega) (by first | assumption | omega) (by first | assumption | omega) (by first | assumption | omega)) _) (gV 5 hts k_381 k_383 k_2 k_26 k_384 (by decide +kernel) ⟨Nat.le_of_ble_eq_true rfl, Nat.le_of_ble_eq_true rfl⟩) (mk_vM hP hD hK hT hS hA [0, 1, 2, 3] rfl rfl (by decide) (q0 := 0) (ci := 2) rfl rfl) rfl rfl hl.1 rfl (lv_room (Nat.le_of_ble_eq_true rfl)) d_Sn_takeShown_51 ⟨Nat.zero_le _, Nat.zero_le _⟩) hP hD hS hA [0, 1, 2, 3] [] rfl rfl (by decide) (by decide) (fun H locs hP hD hS => ?_)
    have hP : va_P (dC, dI) vwCl [(h, .inr (2, [.ref a])), (a, .inl (cI, 11, .inl (nf (shB v 8 3 (n - (m9 + 1)) (m9 + 1) 0 (shB v 0 8 (m9 - 0) 0 0 (fiN b 32 11)))))), (hr, .inr (1, [.ref ar, .int (nI n)])), (ar, .inl (cI, 255, .inl (nf v)))] H := hP.sub [0, 1, 2, 3] rfl
    have hD : va_D A [(h, .inr (2, [.ref a])), (a, .inl (cI, 11, .inl (nf (shB v 8 3 (n - (m9 + 1)) (m9 + 1) 0 (shB v 0 8 (m9 - 0) 0 0 (fiN b 32 11)))))), (hr, .inr (1, [.ref ar, .int (nI n)])), (ar, .inl (cI, 255, .inl (nf v)))] := hD.sub [0, 1, 2, 3] (by decide) rfl
    have b_3 := shC_le v 3 (n - (m9 + 1)) (m9 + 1) 0 (Nat.zero_le _)
    refine lv_pop hx hb d_Sn_takeShown_54 rfl ?_
    have hw9 : ([(h, .inr (2, [.ref a])), (a, .inl (cI, 11, .inl (nf (shB v 8 3 (n - (m9 + 1)) (m9 + 1) 0 (shB v 0 8 (m9 - 0) 0 0 (fiN b 32 11)))))), (hr, .inr (1, [.ref ar, .int (nI n)])), (ar, .inl (cI, 255, .inl (nf v)))] : va_W) = [(h, .inr (2, [.ref a])), (a, .inl (cI, 11, .inl (nf (tsN v n b)))), (hr, .inr (1, [.ref ar, .int (nI n)])), (ar, .inl (cI, 255, .inl (nf v)))] := by simp only [tsN, h0, Nat.sub_zero]; rfl
    rw [hw9] at hP hD
    exact hret _ _ _ _ d_Sn_takeShown_55 hP hD hS
  · skip
    exact absurd c_1 (mk_nm1 (by omega))

theorem c_Sn_shown (l : Launch) (dC : Nat → ClassId) (dI : Nat → Nat → Nat) (cI : ClassId) (h a : Nat) (b : Nat → Nat) (hr ar n : Nat) (v : Nat → Nat) (hn : n ≤ 255) (hv : ∀ j, v j < 65536) : mM l y_Sn_takeShown w_Sn_takeShown ({ frames := 3, cells := 0, slots := 0, locals := 69 } : Room) [.ref h, .ref hr] (dC, dI) vwCl [(cI, .int)] [(h, .inr (2, [.ref a])), (a, .inl (cI, 11, .inl (nf b))), (hr, .inr (1, [.ref ar, .int (nI n)])), (ar, .inl (cI, 255, .inl (nf v)))] none [(h, .inr (2, [.ref a])), (a, .inl (cI, 11, .inl (nf (tsN v n b)))), (hr, .inr (1, [.ref ar, .int (nI n)])), (ar, .inl (cI, 255, .inl (nf v)))] := by
  cases h0 : lpN v n with
  | zero => exact c_Sn_shown0 l dC dI cI h a b hr ar n v hn hv h0
  | succ m => exact c_Sn_shownS l dC dI cI h a b hr ar n v m hn hv h0

set_option maxHeartbeats 4000000 in
set_option maxRecDepth 100000 in
theorem c_Sn_tail0 (l : Launch) (dC : Nat → ClassId) (dI : Nat → Nat → Nat) (cI : ClassId) (h a : Nat) (b : Nat → Nat) (hr ar n : Nat) (v : Nat → Nat) (t : Nat) (hn : n ≤ 255) (hv : ∀ j, v j < 65536) (ht : t < 10000) (h0 : lpN v n = 0) : mM l y_Sn_takeTailed w_Sn_takeTailed ({ frames := 3, cells := 0, slots := 0, locals := 69 } : Room) [.ref h, .ref hr, .int (nI t)] (dC, dI) vwCl [(cI, .int)] [(h, .inr (2, [.ref a])), (a, .inl (cI, 11, .inl (nf b))), (hr, .inr (1, [.ref ar, .int (nI n)])), (ar, .inl (cI, 255, .inl (nf v)))] none [(h, .inr (2, [.ref a])), (a, .inl (cI, 11, .inl (nf (ttN v n t b)))), (hr, .inr (1, [.ref ar, .int (nI n)])), (ar, .inl (cI, 255, .inl (nf v)))] := by
  refine mk_Mv (cc := b_Sn_takeTailed) (maxL := 7) (by decide) rfl (Nat.le_of_ble_eq_true rfl) ?_
  intro p e s m below meth c Q A ls S hP hK hT hS hl hD hA hret
  obtain ⟨hx, hb, hml, hown, hts⟩ := id S
  have hl : lv_has ls 7 [(0, .ref h), (1, .ref hr), (2, .int (nI t))] := hl
  refine lv_aload_n hx hb d_Sn_takeTailed_0 rfl (lv_at hl 0 rfl) ?_
  refine va_get (D := (dC, dI)) (ci := 2) (v := .ref a) (C := "LongNames$ShortName") (T := F_Sn) (N := 1) hx hb hts (iw_Sn _) hown hK hP 0 rfl rfl 0 (by decide) (hts _ (List.mem_cons_of_mem _ k_67)) (fun _ h9 => h9) rfl d_Sn_takeTailed_1 ?_
  refine lv_bipush (v := nI 32) hx hb d_Sn_takeTailed_4 (by decide) ?_
  refine mk_w0 (wr := [(h, .inr (2, [.ref a])), (hr, .inr (1, [.ref ar, .int (nI n)])), (ar, .inl (cI, 255, .inl (nf v)))]) (W.runS (As := [.ref a, .int (nI 32)]) (rest := []) S ((c_Ar_fill11 l dC dI cI a b 32) _) (gS 2 hts k_376 k_377 k_36 k_378 (by decide +kernel) ⟨Nat.le_of_ble_eq_true rfl, Nat.le_of_ble_eq_true rfl⟩) (mk_sM hP hD hK hT hS hA [1] rfl rfl (by decide)) rfl rfl hl.1 rfl (lv_room (Nat.le_of_ble_eq_true rfl)) d_Sn_takeTailed_6 ⟨Nat.zero_le _, Nat.zero_le _⟩) hP hD hS hA [1] [0, 2, 3] rfl rfl (by decide) (by decide) (fun H locs hP hD hS => ?_)
  have hP : va_P (dC, dI) vwCl [(h, .inr (2, [.ref a])), (a, .inl (cI, 11, .inl (nf (fiN b 32 11)))), (hr, .inr (1, [.ref ar, .int (nI n)])), (ar, .inl (cI, 255, .inl (nf v)))] H := hP.sub [0, 3, 1, 2] rfl
  have hD : va_D A [(h, .inr (2, [.ref a])), (a, .inl (cI, 11, .inl (nf (fiN b 32 11)))), (hr, .inr (1, [.ref ar, .int (nI n)])), (ar, .inl (cI, 255, .inl (nf v)))] := hD.sub [0, 3, 1, 2] (by decide) rfl
  refine lv_aload_n hx hb d_Sn_takeTailed_9 rfl (lv_at hl 1 rfl) ?_
  refine mk_r1 (W.runV (As := []) (rest := []) S (c_Ro_lp0 l dC dI cI hr ar n v (by first | assumption | omega) (by first | assumption | omega) (by first | assumption | omega)) (gV 0 hts k_379 k_155 k_156 k_25 k_157 (by decide +kernel) ⟨Nat.le_of_ble_eq_true rfl, Nat.le_of_ble_eq_true rfl⟩) (mk_vR hP hK hT hS [2, 3] rfl (q0 := 2) (ci := 1) rfl rfl) rfl rfl hl.1 rfl (lv_room (Nat.le_of_ble_eq_true rfl)) d_Sn_takeTailed_10 ⟨Nat.zero_le _, Nat.zero_le _⟩) ?_
  refine lv_istore_n (lv' := [(3, .int (-1)), (0, .ref h), (1, .ref hr), (2, .int (nI t))]) hx hb d_Sn_takeTailed_13 rfl hl (by decide) rfl (fun ls hl => ?_)
  refine lv_iload_n hx hb d_Sn_takeTailed_14 rfl (lv_at hl 0 rfl) ?_
  refine lv_if_le (tgt := 22) hx hb d_Sn_takeTailed_15 (by decide) (fun c_1 => ?_) (fun c_1 => ?_)
  · skip
    refine lv_aload_n hx hb d_Sn_takeTailed_22 rfl (lv_at hl 2 rfl) ?_
    refine mk_r1 (W.runV (As := []) (rest := []) S (c_Ro_size l dC dI cI hr ar n v) (gV 0 hts k_380 k_125 k_126 k_25 k_127 (by decide +kernel) ⟨Nat.le_of_ble_eq_true rfl, Nat.le_of_ble_eq_true rfl⟩) (mk_vR hP hK hT hS [2, 3] rfl (q0 := 2) (ci := 1) rfl rfl) rfl rfl hl.1 rfl (lv_room (Nat.le_of_ble_eq_true rfl)) d_Sn_takeTailed_23 ⟨Nat.zero_le _, Nat.zero_le _⟩) ?_
    refine lv_istore (lv' := [(4, .int (nI n)), (3, .int (-1)), (0, .ref h), (1, .ref hr), (2, .int (nI t))]) hx hb d_Sn_takeTailed_26 hl (by decide) rfl (fun ls hl => ?_)
    refine lv_iload_n hx hb d_Sn_takeTailed_28 rfl (lv_at hl 4 rfl) ?_
    refine mk_r1 (W.runS (As := [.int (nI t)]) (rest := []) S (c_Sn_dig l dC dI cI t (by first | assumption | omega)) (gS 1 hts k_399 k_400 k_26 k_401 (by decide +kernel) ⟨Nat.le_of_ble_eq_true rfl, Nat.le_of_ble_eq_true rfl⟩) (mk_sR hP hK hT hS [] rfl) rfl rfl hl.1 rfl (lv_room (Nat.le_of_ble_eq_true rfl)) d_Sn_takeTailed_29 ⟨Nat.zero_le _, Nat.zero_le _⟩) ?_
    have b_2 := dgN_in t
    refine lv_istore (lv' := [(5, .int (nI (dgN t))), (4, .int (nI n)), (3, .int (-1)), (0, .ref h), (1, .ref hr), (2, .int (nI t))]) hx hb d_Sn_takeTailed_32 hl (by decide) rfl (fun ls hl => ?_)
    refine lv_aload_n hx hb d_Sn_takeTailed_34 rfl (lv_at hl 3 rfl) ?_
    refine lv_aload_n hx hb d_Sn_takeTailed_35 rfl (lv_at hl 4 rfl) ?_
    refine lv_iconst (v := nI 0) hx hb d_Sn_takeTailed_36 (by decide) ?_
    refine lv_iload hx hb d_Sn_takeTailed_37 (lv_at hl 1 rfl) ?_
    refine lv_iconst (v := nI 0) hx hb d_Sn_takeTailed_39 (by decide) ?_
    refine lv_bipush (v := nI 7) hx hb d_Sn_takeTailed_40 (by decide) ?_
    refine lv_iload hx hb d_Sn_takeTailed_42 (lv_at hl 0 rfl) ?_
    refine lv_isub hx hb d_Sn_takeTailed_44 ?_
    refine mk_ti (y := nI (7 - (dgN t))) (pk_sub (by omega)) ?_
    refine mk_w1 (wr := []) (W.runV (As := [.ref hr, .int (nI 0), .int (nI n), .int (nI 0), .int (nI (7 - (dgN t)))]) (rest := []) S ((c_Sn_sho l dC dI cI h a (fiN b 32 11) hr ar n v 0 n 0 (7 - (dgN t)) (by first | assumption | omega) (by first | assumption | omega) (by first | assumption | omega) (by first | assumption | omega) (by first | assumption | omega)) _) (gV 5 hts k_381 k_383 k_2 k_26 k_384 (by decide +kernel) ⟨Nat.le_of_ble_eq_true rfl, Nat.le_of_ble_eq_true rfl⟩) (mk_vM hP hD hK hT hS hA [0, 1, 2, 3] rfl rfl (by decide) (q0 := 0) (ci := 2) rfl rfl) rfl rfl hl.1 rfl (lv_room (Nat.le_of_ble_eq_true rfl)) d_Sn_takeTailed_45 ⟨Nat.zero_le _, Nat.zero_le _⟩) hP hD hS hA [0, 1, 2, 3] [] rfl rfl (by decide) (by decide) (fun H locs hP hD hS => ?_)
    have hP : va_P (dC, dI) vwCl [(h, .inr (2, [.ref a])), (a, .inl (cI, 11, .inl (nf (shB v 0 (7 - (dgN t)) (n - 0) 0 0 (fiN b 32 11))))), (hr, .inr (1, [.ref ar, .int (nI n)])), (ar, .inl (cI, 255, .inl (nf v)))] H := hP.sub [0, 1, 2, 3] rfl
    have hD : va_D A [(h, .inr (2, [.ref a])), (a, .inl (cI, 11, .inl (nf (shB v 0 (7 - (dgN t)) (n - 0) 0 0 (fiN b 32 11))))), (hr, .inr (1, [.ref ar, .int (nI n)])), (ar, .inl (cI, 255, .inl (nf v)))] := hD.sub [0, 1, 2, 3] (by decide) rfl
    have b_3 := shC_le v (7 - (dgN t)) (n - 0) 0 0 (Nat.zero_le _)
    refine lv_istore (lv' := [(6, .int (nI (shC v (7 - (dgN t)) (n - 0) 0 0))), (5, .int (nI (dgN t))), (4, .int (nI n)), (3, .int (-1)), (0, .ref h), (1, .ref hr), (2, .int (nI t))]) hx hb d_Sn_takeTailed_48 hl (by decide) rfl (fun ls hl => ?_)
    refine lv_aload_n hx hb d_Sn_takeTailed_50 rfl (lv_at hl 4 rfl) ?_
    refine lv_iload hx hb d_Sn_takeTailed_51 (lv_at hl 0 rfl) ?_
    refine lv_bipush (v := nI 126) hx hb d_Sn_takeTailed_53 (by decide) ?_
    refine mk_w0 (wr := [(hr, .inr (1, [.ref ar, .int (nI n)])), (ar, .inl (cI, 255, .inl (nf v)))]) (W.runV (As := [.int (nI (shC v (7 - (dgN t)) (n - 0) 0 0)), .int (nI 126)]) (rest := []) S ((c_Sn_set l dC dI cI h a (shB v 0 (7 - (dgN t)) (n - 0) 0 0 (fiN b 32 11)) (shC v (7 - (dgN t)) (n - 0) 0 0) 126 (by first | assumption | omega)) _) (gV 2 hts k_391 k_393 k_3 k_26 k_394 (by decide +kernel) ⟨Nat.le_of_ble_eq_true rfl, Nat.le_of_ble_eq_true rfl⟩) (mk_vM hP hD hK hT hS hA [0, 1] rfl rfl (by decide) (q0 := 0) (ci := 2) rfl rfl) rfl rfl hl.1 rfl (lv_room (Nat.le_of_ble_eq_true rfl)) d_Sn_takeTailed_55 ⟨Nat.zero_le _, Nat.zero_le _⟩) hP hD hS hA [0, 1] [2, 3] rfl rfl (by decide) (by decide) (fun H locs hP hD hS => ?_)
    have hP : va_P (dC, dI) vwCl [(h, .inr (2, [.ref a])), (a, .inl (cI, 11, .inl (nf (uN (shB v 0 (7 - (dgN t)) (n - 0) 0 0 (fiN b 32 11)) (shC v (7 - (dgN t)) (n - 0) 0 0) 126)))), (hr, .inr (1, [.ref ar, .int (nI n)])), (ar, .inl (cI, 255, .inl (nf v)))] H := hP.sub [2, 3, 0, 1] rfl
    have hD : va_D A [(h, .inr (2, [.ref a])), (a, .inl (cI, 11, .inl (nf (uN (shB v 0 (7 - (dgN t)) (n - 0) 0 0 (fiN b 32 11)) (shC v (7 - (dgN t)) (n - 0) 0 0) 126)))), (hr, .inr (1, [.ref ar, .int (nI n)])), (ar, .inl (cI, 255, .inl (nf v)))] := hD.sub [2, 3, 0, 1] (by decide) rfl
    refine lv_aload_n hx hb d_Sn_takeTailed_58 rfl (lv_at hl 4 rfl) ?_
    refine lv_iload hx hb d_Sn_takeTailed_59 (lv_at hl 0 rfl) ?_
    refine lv_iconst (v := nI 1) hx hb d_Sn_takeTailed_61 (by decide) ?_
    refine lv_iadd hx hb d_Sn_takeTailed_62 ?_
    refine mk_ti (y := nI (shC v (7 - (dgN t)) (n - 0) 0 0 + 1)) (nI_add (shC v (7 - (dgN t)) (n - 0) 0 0) 1) ?_
    refine lv_iload hx hb d_Sn_takeTailed_63 (lv_at hl 1 rfl) ?_
    refine lv_iload_n hx hb d_Sn_takeTailed_65 rfl (lv_at hl 6 rfl) ?_
    refine mk_w0 (wr := [(hr, .inr (1, [.ref ar, .int (nI n)])), (ar, .inl (cI, 255, .inl (nf v)))]) (W.runV (As := [.int (nI (shC v (7 - (dgN t)) (n - 0) 0 0 + 1)), .int (nI (dgN t)), .int (nI t)]) (rest := []) S ((c_Sn_num l dC dI cI h a (uN (shB v 0 (7 - (dgN t)) (n - 0) 0 0 (fiN b 32 11)) (shC v (7 - (dgN t)) (n - 0) 0 0) 126) (shC v (7 - (dgN t)) (n - 0) 0 0 + 1) (dgN t) t (by first | assumption | omega) (by first | assumption | omega)) _) (gV 3 hts k_402 k_404 k_4 k_26 k_405 (by decide +kernel) ⟨Nat.le_of_ble_eq_true rfl, Nat.le_of_ble_eq_true rfl⟩) (mk_vM hP hD hK hT hS hA [0, 1] rfl rfl (by decide) (q0 := 0) (ci := 2) rfl rfl) rfl rfl hl.1 rfl (lv_room (Nat.le_of_ble_eq_true rfl)) d_Sn_takeTailed_66 ⟨Nat.zero_le _, Nat.zero_le _⟩) hP hD hS hA [0, 1] [2, 3] rfl rfl (by decide) (by decide) (fun H locs hP hD hS => ?_)
    have hP : va_P (dC, dI) vwCl [(h, .inr (2, [.ref a])), (a, .inl (cI, 11, .inl (nf (nuN (shC v (7 - (dgN t)) (n - 0) 0 0 + 1) (dgN t) t (uN (shB v 0 (7 - (dgN t)) (n - 0) 0 0 (fiN b 32 11)) (shC v (7 - (dgN t)) (n - 0) 0 0) 126))))), (hr, .inr (1, [.ref ar, .int (nI n)])), (ar, .inl (cI, 255, .inl (nf v)))] H := hP.sub [2, 3, 0, 1] rfl
    have hD : va_D A [(h, .inr (2, [.ref a])), (a, .inl (cI, 11, .inl (nf (nuN (shC v (7 - (dgN t)) (n - 0) 0 0 + 1) (dgN t) t (uN (shB v 0 (7 - (dgN t)) (n - 0) 0 0 (fiN b 32 11)) (shC v (7 - (dgN t)) (n - 0) 0 0) 126))))), (hr, .inr (1, [.ref ar, .int (nI n)])), (ar, .inl (cI, 255, .inl (nf v)))] := hD.sub [2, 3, 0, 1] (by decide) rfl
    refine lv_aload_n hx hb d_Sn_takeTailed_69 rfl (lv_at hl 4 rfl) ?_
    refine lv_aload_n hx hb d_Sn_takeTailed_70 rfl (lv_at hl 5 rfl) ?_
    refine lv_iload hx hb d_Sn_takeTailed_71 (lv_at hl 2 rfl) ?_
    refine lv_iconst (v := nI 1) hx hb d_Sn_takeTailed_73 (by decide) ?_
    refine lv_iadd hx hb d_Sn_takeTailed_74 ?_
    refine mk_ti (y := nI (n + 1)) (nI_add n 1) ?_
    refine lv_aload_n hx hb d_Sn_takeTailed_75 rfl (lv_at hl 5 rfl) ?_
    refine mk_r1 (W.runV (As := []) (rest := [.int (nI (n + 1)), .ref hr, .ref h]) S (c_Ro_size l dC dI cI hr ar n v) (gV 0 hts k_380 k_125 k_126 k_25 k_127 (by decide +kernel) ⟨Nat.le_of_ble_eq_true rfl, Nat.le_of_ble_eq_true rfl⟩) (mk_vR hP hK hT hS [2, 3] rfl (q0 := 2) (ci := 1) rfl rfl) rfl rfl hl.1 rfl (lv_room (Nat.le_of_ble_eq_true rfl)) d_Sn_takeTailed_76 ⟨Nat.zero_le _, Nat.zero_le _⟩) ?_
    refine lv_bipush (v := nI 8) hx hb d_Sn_takeTailed_79 (by decide) ?_
    refine lv_iconst (v := nI 3) hx hb d_Sn_takeTailed_81 (by decide) ?_
    refine mk_w1 (wr := []) (W.runV (As := [.ref hr, .int (nI (n + 1)), .int (nI n), .int (nI 8), .int (nI 3)]) (rest := []) S ((c_Sn_sho l dC dI cI h a (nuN (shC v (7 - (dgN t)) (n - 0) 0 0 + 1) (dgN t) t (uN (shB v 0 (7 - (dgN t)) (n - 0) 0 0 (fiN b 32 11)) (shC v (7 - (dgN t)) (n - 0) 0 0) 126)) hr ar n v (n + 1) n 8 3 (by first | assumption | omega) (by first | assumption | omega) (by first | assumption | omega) (by first | assumption | omega) (by first | assumption | omega)) _) (gV 5 hts k_381 k_383 k_2 k_26 k_384 (by decide +kernel) ⟨Nat.le_of_ble_eq_true rfl, Nat.le_of_ble_eq_true rfl⟩) (mk_vM hP hD hK hT hS hA [0, 1, 2, 3] rfl rfl (by decide) (q0 := 0) (ci := 2) rfl rfl) rfl rfl hl.1 rfl (lv_room (Nat.le_of_ble_eq_true rfl)) d_Sn_takeTailed_82 ⟨Nat.zero_le _, Nat.zero_le _⟩) hP hD hS hA [0, 1, 2, 3] [] rfl rfl (by decide) (by decide) (fun H locs hP hD hS => ?_)
    have hP : va_P (dC, dI) vwCl [(h, .inr (2, [.ref a])), (a, .inl (cI, 11, .inl (nf (shB v 8 3 (n - (n + 1)) (n + 1) 0 (nuN (shC v (7 - (dgN t)) (n - 0) 0 0 + 1) (dgN t) t (uN (shB v 0 (7 - (dgN t)) (n - 0) 0 0 (fiN b 32 11)) (shC v (7 - (dgN t)) (n - 0) 0 0) 126)))))), (hr, .inr (1, [.ref ar, .int (nI n)])), (ar, .inl (cI, 255, .inl (nf v)))] H := hP.sub [0, 1, 2, 3] rfl
    have hD : va_D A [(h, .inr (2, [.ref a])), (a, .inl (cI, 11, .inl (nf (shB v 8 3 (n - (n + 1)) (n + 1) 0 (nuN (shC v (7 - (dgN t)) (n - 0) 0 0 + 1) (dgN t) t (uN (shB v 0 (7 - (dgN t)) (n - 0) 0 0 (fiN b 32 11)) (shC v (7 - (dgN t)) (n - 0) 0 0) 126)))))), (hr, .inr (1, [.ref ar, .int (nI n)])), (ar, .inl (cI, 255, .inl (nf v)))] := hD.sub [0, 1, 2, 3] (by decide) rfl
    have b_4 := shC_le v 3 (n - (n + 1)) (n + 1) 0 (Nat.zero_le _)
    refine lv_pop hx hb d_Sn_takeTailed_85 rfl ?_
    have hw9 : ([(h, .inr (2, [.ref a])), (a, .inl (cI, 11, .inl (nf (shB v 8 3 (n - (n + 1)) (n + 1) 0 (nuN (shC v (7 - (dgN t)) (n - 0) 0 0 + 1) (dgN t) t (uN (shB v 0 (7 - (dgN t)) (n - 0) 0 0 (fiN b 32 11)) (shC v (7 - (dgN t)) (n - 0) 0 0) 126)))))), (hr, .inr (1, [.ref ar, .int (nI n)])), (ar, .inl (cI, 255, .inl (nf v)))] : va_W) = [(h, .inr (2, [.ref a])), (a, .inl (cI, 11, .inl (nf (ttN v n t b)))), (hr, .inr (1, [.ref ar, .int (nI n)])), (ar, .inl (cI, 255, .inl (nf v)))] := by simp only [ttN, show (if lpN v n ≤ 1 then n else lpN v n - 1) = n from (by rw [h0]; split <;> omega), Nat.sub_zero]
    rw [hw9] at hP hD
    exact hret _ _ _ _ d_Sn_takeTailed_86 hP hD hS
  · skip
    exact absurd (by decide) c_1

set_option maxHeartbeats 4000000 in
set_option maxRecDepth 100000 in
theorem c_Sn_tailS (l : Launch) (dC : Nat → ClassId) (dI : Nat → Nat → Nat) (cI : ClassId) (h a : Nat) (b : Nat → Nat) (hr ar n : Nat) (v : Nat → Nat) (t m9 : Nat) (hn : n ≤ 255) (hv : ∀ j, v j < 65536) (ht : t < 10000) (h0 : lpN v n = m9 + 1) : mM l y_Sn_takeTailed w_Sn_takeTailed ({ frames := 3, cells := 0, slots := 0, locals := 69 } : Room) [.ref h, .ref hr, .int (nI t)] (dC, dI) vwCl [(cI, .int)] [(h, .inr (2, [.ref a])), (a, .inl (cI, 11, .inl (nf b))), (hr, .inr (1, [.ref ar, .int (nI n)])), (ar, .inl (cI, 255, .inl (nf v)))] none [(h, .inr (2, [.ref a])), (a, .inl (cI, 11, .inl (nf (ttN v n t b)))), (hr, .inr (1, [.ref ar, .int (nI n)])), (ar, .inl (cI, 255, .inl (nf v)))] := by
  have hm9 := lpN_le v n
  refine mk_Mv (cc := b_Sn_takeTailed) (maxL := 7) (by decide) rfl (Nat.le_of_ble_eq_true rfl) ?_
  intro p e s m below meth c Q A ls S hP hK hT hS hl hD hA hret
  obtain ⟨hx, hb, hml, hown, hts⟩ := id S
  have hl : lv_has ls 7 [(0, .ref h), (1, .ref hr), (2, .int (nI t))] := hl
  refine lv_aload_n hx hb d_Sn_takeTailed_0 rfl (lv_at hl 0 rfl) ?_
  refine va_get (D := (dC, dI)) (ci := 2) (v := .ref a) (C := "LongNames$ShortName") (T := F_Sn) (N := 1) hx hb hts (iw_Sn _) hown hK hP 0 rfl rfl 0 (by decide) (hts _ (List.mem_cons_of_mem _ k_67)) (fun _ h9 => h9) rfl d_Sn_takeTailed_1 ?_
  refine lv_bipush (v := nI 32) hx hb d_Sn_takeTailed_4 (by decide) ?_
  refine mk_w0 (wr := [(h, .inr (2, [.ref a])), (hr, .inr (1, [.ref ar, .int (nI n)])), (ar, .inl (cI, 255, .inl (nf v)))]) (W.runS (As := [.ref a, .int (nI 32)]) (rest := []) S ((c_Ar_fill11 l dC dI cI a b 32) _) (gS 2 hts k_376 k_377 k_36 k_378 (by decide +kernel) ⟨Nat.le_of_ble_eq_true rfl, Nat.le_of_ble_eq_true rfl⟩) (mk_sM hP hD hK hT hS hA [1] rfl rfl (by decide)) rfl rfl hl.1 rfl (lv_room (Nat.le_of_ble_eq_true rfl)) d_Sn_takeTailed_6 ⟨Nat.zero_le _, Nat.zero_le _⟩) hP hD hS hA [1] [0, 2, 3] rfl rfl (by decide) (by decide) (fun H locs hP hD hS => ?_)
  have hP : va_P (dC, dI) vwCl [(h, .inr (2, [.ref a])), (a, .inl (cI, 11, .inl (nf (fiN b 32 11)))), (hr, .inr (1, [.ref ar, .int (nI n)])), (ar, .inl (cI, 255, .inl (nf v)))] H := hP.sub [0, 3, 1, 2] rfl
  have hD : va_D A [(h, .inr (2, [.ref a])), (a, .inl (cI, 11, .inl (nf (fiN b 32 11)))), (hr, .inr (1, [.ref ar, .int (nI n)])), (ar, .inl (cI, 255, .inl (nf v)))] := hD.sub [0, 3, 1, 2] (by decide) rfl
  refine lv_aload_n hx hb d_Sn_takeTailed_9 rfl (lv_at hl 1 rfl) ?_
  refine mk_r1 (W.runV (As := []) (rest := []) S (c_Ro_lpS l dC dI cI hr ar n v m9 (by first | assumption | omega) (by first | assumption | omega) (by first | assumption | omega)) (gV 0 hts k_379 k_155 k_156 k_25 k_157 (by decide +kernel) ⟨Nat.le_of_ble_eq_true rfl, Nat.le_of_ble_eq_true rfl⟩) (mk_vR hP hK hT hS [2, 3] rfl (q0 := 2) (ci := 1) rfl rfl) rfl rfl hl.1 rfl (lv_room (Nat.le_of_ble_eq_true rfl)) d_Sn_takeTailed_10 ⟨Nat.zero_le _, Nat.zero_le _⟩) ?_
  refine lv_istore_n (lv' := [(3, .int (nI m9)), (0, .ref h), (1, .ref hr), (2, .int (nI t))]) hx hb d_Sn_takeTailed_13 rfl hl (by decide) rfl (fun ls hl => ?_)
  refine lv_iload_n hx hb d_Sn_takeTailed_14 rfl (lv_at hl 0 rfl) ?_
  refine lv_if_le (tgt := 22) hx hb d_Sn_takeTailed_15 (by decide) (fun c_1 => ?_) (fun c_1 => ?_)
  · skip
    rw [mk_cle (by omega)] at c_1
    refine lv_aload_n hx hb d_Sn_takeTailed_22 rfl (lv_at hl 2 rfl) ?_
    refine mk_r1 (W.runV (As := []) (rest := []) S (c_Ro_size l dC dI cI hr ar n v) (gV 0 hts k_380 k_125 k_126 k_25 k_127 (by decide +kernel) ⟨Nat.le_of_ble_eq_true rfl, Nat.le_of_ble_eq_true rfl⟩) (mk_vR hP hK hT hS [2, 3] rfl (q0 := 2) (ci := 1) rfl rfl) rfl rfl hl.1 rfl (lv_room (Nat.le_of_ble_eq_true rfl)) d_Sn_takeTailed_23 ⟨Nat.zero_le _, Nat.zero_le _⟩) ?_
    refine lv_istore (lv' := [(4, .int (nI n)), (3, .int (nI m9)), (0, .ref h), (1, .ref hr), (2, .int (nI t))]) hx hb d_Sn_takeTailed_26 hl (by decide) rfl (fun ls hl => ?_)
    refine lv_iload_n hx hb d_Sn_takeTailed_28 rfl (lv_at hl 4 rfl) ?_
    refine mk_r1 (W.runS (As := [.int (nI t)]) (rest := []) S (c_Sn_dig l dC dI cI t (by first | assumption | omega)) (gS 1 hts k_399 k_400 k_26 k_401 (by decide +kernel) ⟨Nat.le_of_ble_eq_true rfl, Nat.le_of_ble_eq_true rfl⟩) (mk_sR hP hK hT hS [] rfl) rfl rfl hl.1 rfl (lv_room (Nat.le_of_ble_eq_true rfl)) d_Sn_takeTailed_29 ⟨Nat.zero_le _, Nat.zero_le _⟩) ?_
    have b_2 := dgN_in t
    refine lv_istore (lv' := [(5, .int (nI (dgN t))), (4, .int (nI n)), (3, .int (nI m9)), (0, .ref h), (1, .ref hr), (2, .int (nI t))]) hx hb d_Sn_takeTailed_32 hl (by decide) rfl (fun ls hl => ?_)
    refine lv_aload_n hx hb d_Sn_takeTailed_34 rfl (lv_at hl 3 rfl) ?_
    refine lv_aload_n hx hb d_Sn_takeTailed_35 rfl (lv_at hl 4 rfl) ?_
    refine lv_iconst (v := nI 0) hx hb d_Sn_takeTailed_36 (by decide) ?_
    refine lv_iload hx hb d_Sn_takeTailed_37 (lv_at hl 1 rfl) ?_
    refine lv_iconst (v := nI 0) hx hb d_Sn_takeTailed_39 (by decide) ?_
    refine lv_bipush (v := nI 7) hx hb d_Sn_takeTailed_40 (by decide) ?_
    refine lv_iload hx hb d_Sn_takeTailed_42 (lv_at hl 0 rfl) ?_
    refine lv_isub hx hb d_Sn_takeTailed_44 ?_
    refine mk_ti (y := nI (7 - (dgN t))) (pk_sub (by omega)) ?_
    refine mk_w1 (wr := []) (W.runV (As := [.ref hr, .int (nI 0), .int (nI n), .int (nI 0), .int (nI (7 - (dgN t)))]) (rest := []) S ((c_Sn_sho l dC dI cI h a (fiN b 32 11) hr ar n v 0 n 0 (7 - (dgN t)) (by first | assumption | omega) (by first | assumption | omega) (by first | assumption | omega) (by first | assumption | omega) (by first | assumption | omega)) _) (gV 5 hts k_381 k_383 k_2 k_26 k_384 (by decide +kernel) ⟨Nat.le_of_ble_eq_true rfl, Nat.le_of_ble_eq_true rfl⟩) (mk_vM hP hD hK hT hS hA [0, 1, 2, 3] rfl rfl (by decide) (q0 := 0) (ci := 2) rfl rfl) rfl rfl hl.1 rfl (lv_room (Nat.le_of_ble_eq_true rfl)) d_Sn_takeTailed_45 ⟨Nat.zero_le _, Nat.zero_le _⟩) hP hD hS hA [0, 1, 2, 3] [] rfl rfl (by decide) (by decide) (fun H locs hP hD hS => ?_)
    have hP : va_P (dC, dI) vwCl [(h, .inr (2, [.ref a])), (a, .inl (cI, 11, .inl (nf (shB v 0 (7 - (dgN t)) (n - 0) 0 0 (fiN b 32 11))))), (hr, .inr (1, [.ref ar, .int (nI n)])), (ar, .inl (cI, 255, .inl (nf v)))] H := hP.sub [0, 1, 2, 3] rfl
    have hD : va_D A [(h, .inr (2, [.ref a])), (a, .inl (cI, 11, .inl (nf (shB v 0 (7 - (dgN t)) (n - 0) 0 0 (fiN b 32 11))))), (hr, .inr (1, [.ref ar, .int (nI n)])), (ar, .inl (cI, 255, .inl (nf v)))] := hD.sub [0, 1, 2, 3] (by decide) rfl
    have b_3 := shC_le v (7 - (dgN t)) (n - 0) 0 0 (Nat.zero_le _)
    refine lv_istore (lv' := [(6, .int (nI (shC v (7 - (dgN t)) (n - 0) 0 0))), (5, .int (nI (dgN t))), (4, .int (nI n)), (3, .int (nI m9)), (0, .ref h), (1, .ref hr), (2, .int (nI t))]) hx hb d_Sn_takeTailed_48 hl (by decide) rfl (fun ls hl => ?_)
    refine lv_aload_n hx hb d_Sn_takeTailed_50 rfl (lv_at hl 4 rfl) ?_
    refine lv_iload hx hb d_Sn_takeTailed_51 (lv_at hl 0 rfl) ?_
    refine lv_bipush (v := nI 126) hx hb d_Sn_takeTailed_53 (by decide) ?_
    refine mk_w0 (wr := [(hr, .inr (1, [.ref ar, .int (nI n)])), (ar, .inl (cI, 255, .inl (nf v)))]) (W.runV (As := [.int (nI (shC v (7 - (dgN t)) (n - 0) 0 0)), .int (nI 126)]) (rest := []) S ((c_Sn_set l dC dI cI h a (shB v 0 (7 - (dgN t)) (n - 0) 0 0 (fiN b 32 11)) (shC v (7 - (dgN t)) (n - 0) 0 0) 126 (by first | assumption | omega)) _) (gV 2 hts k_391 k_393 k_3 k_26 k_394 (by decide +kernel) ⟨Nat.le_of_ble_eq_true rfl, Nat.le_of_ble_eq_true rfl⟩) (mk_vM hP hD hK hT hS hA [0, 1] rfl rfl (by decide) (q0 := 0) (ci := 2) rfl rfl) rfl rfl hl.1 rfl (lv_room (Nat.le_of_ble_eq_true rfl)) d_Sn_takeTailed_55 ⟨Nat.zero_le _, Nat.zero_le _⟩) hP hD hS hA [0, 1] [2, 3] rfl rfl (by decide) (by decide) (fun H locs hP hD hS => ?_)
    have hP : va_P (dC, dI) vwCl [(h, .inr (2, [.ref a])), (a, .inl (cI, 11, .inl (nf (uN (shB v 0 (7 - (dgN t)) (n - 0) 0 0 (fiN b 32 11)) (shC v (7 - (dgN t)) (n - 0) 0 0) 126)))), (hr, .inr (1, [.ref ar, .int (nI n)])), (ar, .inl (cI, 255, .inl (nf v)))] H := hP.sub [2, 3, 0, 1] rfl
    have hD : va_D A [(h, .inr (2, [.ref a])), (a, .inl (cI, 11, .inl (nf (uN (shB v 0 (7 - (dgN t)) (n - 0) 0 0 (fiN b 32 11)) (shC v (7 - (dgN t)) (n - 0) 0 0) 126)))), (hr, .inr (1, [.ref ar, .int (nI n)])), (ar, .inl (cI, 255, .inl (nf v)))] := hD.sub [2, 3, 0, 1] (by decide) rfl
    refine lv_aload_n hx hb d_Sn_takeTailed_58 rfl (lv_at hl 4 rfl) ?_
    refine lv_iload hx hb d_Sn_takeTailed_59 (lv_at hl 0 rfl) ?_
    refine lv_iconst (v := nI 1) hx hb d_Sn_takeTailed_61 (by decide) ?_
    refine lv_iadd hx hb d_Sn_takeTailed_62 ?_
    refine mk_ti (y := nI (shC v (7 - (dgN t)) (n - 0) 0 0 + 1)) (nI_add (shC v (7 - (dgN t)) (n - 0) 0 0) 1) ?_
    refine lv_iload hx hb d_Sn_takeTailed_63 (lv_at hl 1 rfl) ?_
    refine lv_iload_n hx hb d_Sn_takeTailed_65 rfl (lv_at hl 6 rfl) ?_
    refine mk_w0 (wr := [(hr, .inr (1, [.ref ar, .int (nI n)])), (ar, .inl (cI, 255, .inl (nf v)))]) (W.runV (As := [.int (nI (shC v (7 - (dgN t)) (n - 0) 0 0 + 1)), .int (nI (dgN t)), .int (nI t)]) (rest := []) S ((c_Sn_num l dC dI cI h a (uN (shB v 0 (7 - (dgN t)) (n - 0) 0 0 (fiN b 32 11)) (shC v (7 - (dgN t)) (n - 0) 0 0) 126) (shC v (7 - (dgN t)) (n - 0) 0 0 + 1) (dgN t) t (by first | assumption | omega) (by first | assumption | omega)) _) (gV 3 hts k_402 k_404 k_4 k_26 k_405 (by decide +kernel) ⟨Nat.le_of_ble_eq_true rfl, Nat.le_of_ble_eq_true rfl⟩) (mk_vM hP hD hK hT hS hA [0, 1] rfl rfl (by decide) (q0 := 0) (ci := 2) rfl rfl) rfl rfl hl.1 rfl (lv_room (Nat.le_of_ble_eq_true rfl)) d_Sn_takeTailed_66 ⟨Nat.zero_le _, Nat.zero_le _⟩) hP hD hS hA [0, 1] [2, 3] rfl rfl (by decide) (by decide) (fun H locs hP hD hS => ?_)
    have hP : va_P (dC, dI) vwCl [(h, .inr (2, [.ref a])), (a, .inl (cI, 11, .inl (nf (nuN (shC v (7 - (dgN t)) (n - 0) 0 0 + 1) (dgN t) t (uN (shB v 0 (7 - (dgN t)) (n - 0) 0 0 (fiN b 32 11)) (shC v (7 - (dgN t)) (n - 0) 0 0) 126))))), (hr, .inr (1, [.ref ar, .int (nI n)])), (ar, .inl (cI, 255, .inl (nf v)))] H := hP.sub [2, 3, 0, 1] rfl
    have hD : va_D A [(h, .inr (2, [.ref a])), (a, .inl (cI, 11, .inl (nf (nuN (shC v (7 - (dgN t)) (n - 0) 0 0 + 1) (dgN t) t (uN (shB v 0 (7 - (dgN t)) (n - 0) 0 0 (fiN b 32 11)) (shC v (7 - (dgN t)) (n - 0) 0 0) 126))))), (hr, .inr (1, [.ref ar, .int (nI n)])), (ar, .inl (cI, 255, .inl (nf v)))] := hD.sub [2, 3, 0, 1] (by decide) rfl
    refine lv_aload_n hx hb d_Sn_takeTailed_69 rfl (lv_at hl 4 rfl) ?_
    refine lv_aload_n hx hb d_Sn_takeTailed_70 rfl (lv_at hl 5 rfl) ?_
    refine lv_iload hx hb d_Sn_takeTailed_71 (lv_at hl 2 rfl) ?_
    refine lv_iconst (v := nI 1) hx hb d_Sn_takeTailed_73 (by decide) ?_
    refine lv_iadd hx hb d_Sn_takeTailed_74 ?_
    refine mk_ti (y := nI (n + 1)) (nI_add n 1) ?_
    refine lv_aload_n hx hb d_Sn_takeTailed_75 rfl (lv_at hl 5 rfl) ?_
    refine mk_r1 (W.runV (As := []) (rest := [.int (nI (n + 1)), .ref hr, .ref h]) S (c_Ro_size l dC dI cI hr ar n v) (gV 0 hts k_380 k_125 k_126 k_25 k_127 (by decide +kernel) ⟨Nat.le_of_ble_eq_true rfl, Nat.le_of_ble_eq_true rfl⟩) (mk_vR hP hK hT hS [2, 3] rfl (q0 := 2) (ci := 1) rfl rfl) rfl rfl hl.1 rfl (lv_room (Nat.le_of_ble_eq_true rfl)) d_Sn_takeTailed_76 ⟨Nat.zero_le _, Nat.zero_le _⟩) ?_
    refine lv_bipush (v := nI 8) hx hb d_Sn_takeTailed_79 (by decide) ?_
    refine lv_iconst (v := nI 3) hx hb d_Sn_takeTailed_81 (by decide) ?_
    refine mk_w1 (wr := []) (W.runV (As := [.ref hr, .int (nI (n + 1)), .int (nI n), .int (nI 8), .int (nI 3)]) (rest := []) S ((c_Sn_sho l dC dI cI h a (nuN (shC v (7 - (dgN t)) (n - 0) 0 0 + 1) (dgN t) t (uN (shB v 0 (7 - (dgN t)) (n - 0) 0 0 (fiN b 32 11)) (shC v (7 - (dgN t)) (n - 0) 0 0) 126)) hr ar n v (n + 1) n 8 3 (by first | assumption | omega) (by first | assumption | omega) (by first | assumption | omega) (by first | assumption | omega) (by first | assumption | omega)) _) (gV 5 hts k_381 k_383 k_2 k_26 k_384 (by decide +kernel) ⟨Nat.le_of_ble_eq_true rfl, Nat.le_of_ble_eq_true rfl⟩) (mk_vM hP hD hK hT hS hA [0, 1, 2, 3] rfl rfl (by decide) (q0 := 0) (ci := 2) rfl rfl) rfl rfl hl.1 rfl (lv_room (Nat.le_of_ble_eq_true rfl)) d_Sn_takeTailed_82 ⟨Nat.zero_le _, Nat.zero_le _⟩) hP hD hS hA [0, 1, 2, 3] [] rfl rfl (by decide) (by decide) (fun H locs hP hD hS => ?_)
    have hP : va_P (dC, dI) vwCl [(h, .inr (2, [.ref a])), (a, .inl (cI, 11, .inl (nf (shB v 8 3 (n - (n + 1)) (n + 1) 0 (nuN (shC v (7 - (dgN t)) (n - 0) 0 0 + 1) (dgN t) t (uN (shB v 0 (7 - (dgN t)) (n - 0) 0 0 (fiN b 32 11)) (shC v (7 - (dgN t)) (n - 0) 0 0) 126)))))), (hr, .inr (1, [.ref ar, .int (nI n)])), (ar, .inl (cI, 255, .inl (nf v)))] H := hP.sub [0, 1, 2, 3] rfl
    have hD : va_D A [(h, .inr (2, [.ref a])), (a, .inl (cI, 11, .inl (nf (shB v 8 3 (n - (n + 1)) (n + 1) 0 (nuN (shC v (7 - (dgN t)) (n - 0) 0 0 + 1) (dgN t) t (uN (shB v 0 (7 - (dgN t)) (n - 0) 0 0 (fiN b 32 11)) (shC v (7 - (dgN t)) (n - 0) 0 0) 126)))))), (hr, .inr (1, [.ref ar, .int (nI n)])), (ar, .inl (cI, 255, .inl (nf v)))] := hD.sub [0, 1, 2, 3] (by decide) rfl
    have b_4 := shC_le v 3 (n - (n + 1)) (n + 1) 0 (Nat.zero_le _)
    refine lv_pop hx hb d_Sn_takeTailed_85 rfl ?_
    have hw9 : ([(h, .inr (2, [.ref a])), (a, .inl (cI, 11, .inl (nf (shB v 8 3 (n - (n + 1)) (n + 1) 0 (nuN (shC v (7 - (dgN t)) (n - 0) 0 0 + 1) (dgN t) t (uN (shB v 0 (7 - (dgN t)) (n - 0) 0 0 (fiN b 32 11)) (shC v (7 - (dgN t)) (n - 0) 0 0) 126)))))), (hr, .inr (1, [.ref ar, .int (nI n)])), (ar, .inl (cI, 255, .inl (nf v)))] : va_W) = [(h, .inr (2, [.ref a])), (a, .inl (cI, 11, .inl (nf (ttN v n t b)))), (hr, .inr (1, [.ref ar, .int (nI n)])), (ar, .inl (cI, 255, .inl (nf v)))] := by simp only [ttN, show (if lpN v n ≤ 1 then n else lpN v n - 1) = n from (by rw [h0]; split <;> omega), Nat.sub_zero]
    rw [hw9] at hP hD
    exact hret _ _ _ _ d_Sn_takeTailed_86 hP hD hS
  · skip
    rw [mk_cle (by omega)] at c_1
    refine lv_iload_n hx hb d_Sn_takeTailed_18 rfl (lv_at hl 0 rfl) ?_
    refine lv_goto (tgt := 26) hx hb d_Sn_takeTailed_19 (by decide) ?_
    refine lv_istore (lv' := [(4, .int (nI m9)), (3, .int (nI m9)), (0, .ref h), (1, .ref hr), (2, .int (nI t))]) hx hb d_Sn_takeTailed_26 hl (by decide) rfl (fun ls hl => ?_)
    refine lv_iload_n hx hb d_Sn_takeTailed_28 rfl (lv_at hl 4 rfl) ?_
    refine mk_r1 (W.runS (As := [.int (nI t)]) (rest := []) S (c_Sn_dig l dC dI cI t (by first | assumption | omega)) (gS 1 hts k_399 k_400 k_26 k_401 (by decide +kernel) ⟨Nat.le_of_ble_eq_true rfl, Nat.le_of_ble_eq_true rfl⟩) (mk_sR hP hK hT hS [] rfl) rfl rfl hl.1 rfl (lv_room (Nat.le_of_ble_eq_true rfl)) d_Sn_takeTailed_29 ⟨Nat.zero_le _, Nat.zero_le _⟩) ?_
    have b_5 := dgN_in t
    refine lv_istore (lv' := [(5, .int (nI (dgN t))), (4, .int (nI m9)), (3, .int (nI m9)), (0, .ref h), (1, .ref hr), (2, .int (nI t))]) hx hb d_Sn_takeTailed_32 hl (by decide) rfl (fun ls hl => ?_)
    refine lv_aload_n hx hb d_Sn_takeTailed_34 rfl (lv_at hl 3 rfl) ?_
    refine lv_aload_n hx hb d_Sn_takeTailed_35 rfl (lv_at hl 4 rfl) ?_
    refine lv_iconst (v := nI 0) hx hb d_Sn_takeTailed_36 (by decide) ?_
    refine lv_iload hx hb d_Sn_takeTailed_37 (lv_at hl 1 rfl) ?_
    refine lv_iconst (v := nI 0) hx hb d_Sn_takeTailed_39 (by decide) ?_
    refine lv_bipush (v := nI 7) hx hb d_Sn_takeTailed_40 (by decide) ?_
    refine lv_iload hx hb d_Sn_takeTailed_42 (lv_at hl 0 rfl) ?_
    refine lv_isub hx hb d_Sn_takeTailed_44 ?_
    refine mk_ti (y := nI (7 - (dgN t))) (pk_sub (by omega)) ?_
    refine mk_w1 (wr := []) (W.runV (As := [.ref hr, .int (nI 0), .int (nI m9), .int (nI 0), .int (nI (7 - (dgN t)))]) (rest := []) S ((c_Sn_sho l dC dI cI h a (fiN b 32 11) hr ar n v 0 m9 0 (7 - (dgN t)) (by first | assumption | omega) (by first | assumption | omega) (by first | assumption | omega) (by first | assumption | omega) (by first | assumption | omega)) _) (gV 5 hts k_381 k_383 k_2 k_26 k_384 (by decide +kernel) ⟨Nat.le_of_ble_eq_true rfl, Nat.le_of_ble_eq_true rfl⟩) (mk_vM hP hD hK hT hS hA [0, 1, 2, 3] rfl rfl (by decide) (q0 := 0) (ci := 2) rfl rfl) rfl rfl hl.1 rfl (lv_room (Nat.le_of_ble_eq_true rfl)) d_Sn_takeTailed_45 ⟨Nat.zero_le _, Nat.zero_le _⟩) hP hD hS hA [0, 1, 2, 3] [] rfl rfl (by decide) (by decide) (fun H locs hP hD hS => ?_)
    have hP : va_P (dC, dI) vwCl [(h, .inr (2, [.ref a])), (a, .inl (cI, 11, .inl (nf (shB v 0 (7 - (dgN t)) (m9 - 0) 0 0 (fiN b 32 11))))), (hr, .inr (1, [.ref ar, .int (nI n)])), (ar, .inl (cI, 255, .inl (nf v)))] H := hP.sub [0, 1, 2, 3] rfl
    have hD : va_D A [(h, .inr (2, [.ref a])), (a, .inl (cI, 11, .inl (nf (shB v 0 (7 - (dgN t)) (m9 - 0) 0 0 (fiN b 32 11))))), (hr, .inr (1, [.ref ar, .int (nI n)])), (ar, .inl (cI, 255, .inl (nf v)))] := hD.sub [0, 1, 2, 3] (by decide) rfl
    have b_6 := shC_le v (7 - (dgN t)) (m9 - 0) 0 0 (Nat.zero_le _)
    refine lv_istore (lv' := [(6, .int (nI (shC v (7 - (dgN t)) (m9 - 0) 0 0))), (5, .int (nI (dgN t))), (4, .int (nI m9)), (3, .int (nI m9)), (0, .ref h), (1, .ref hr), (2, .int (nI t))]) hx hb d_Sn_takeTailed_48 hl (by decide) rfl (fun ls hl => ?_)
    refine lv_aload_n hx hb d_Sn_takeTailed_50 rfl (lv_at hl 4 rfl) ?_
    refine lv_iload hx hb d_Sn_takeTailed_51 (lv_at hl 0 rfl) ?_
    refine lv_bipush (v := nI 126) hx hb d_Sn_takeTailed_53 (by decide) ?_
    refine mk_w0 (wr := [(hr, .inr (1, [.ref ar, .int (nI n)])), (ar, .inl (cI, 255, .inl (nf v)))]) (W.runV (As := [.int (nI (shC v (7 - (dgN t)) (m9 - 0) 0 0)), .int (nI 126)]) (rest := []) S ((c_Sn_set l dC dI cI h a (shB v 0 (7 - (dgN t)) (m9 - 0) 0 0 (fiN b 32 11)) (shC v (7 - (dgN t)) (m9 - 0) 0 0) 126 (by first | assumption | omega)) _) (gV 2 hts k_391 k_393 k_3 k_26 k_394 (by decide +kernel) ⟨Nat.le_of_ble_eq_true rfl, Nat.le_of_ble_eq_true rfl⟩) (mk_vM hP hD hK hT hS hA [0, 1] rfl rfl (by decide) (q0 := 0) (ci := 2) rfl rfl) rfl rfl hl.1 rfl (lv_room (Nat.le_of_ble_eq_true rfl)) d_Sn_takeTailed_55 ⟨Nat.zero_le _, Nat.zero_le _⟩) hP hD hS hA [0, 1] [2, 3] rfl rfl (by decide) (by decide) (fun H locs hP hD hS => ?_)
    have hP : va_P (dC, dI) vwCl [(h, .inr (2, [.ref a])), (a, .inl (cI, 11, .inl (nf (uN (shB v 0 (7 - (dgN t)) (m9 - 0) 0 0 (fiN b 32 11)) (shC v (7 - (dgN t)) (m9 - 0) 0 0) 126)))), (hr, .inr (1, [.ref ar, .int (nI n)])), (ar, .inl (cI, 255, .inl (nf v)))] H := hP.sub [2, 3, 0, 1] rfl
    have hD : va_D A [(h, .inr (2, [.ref a])), (a, .inl (cI, 11, .inl (nf (uN (shB v 0 (7 - (dgN t)) (m9 - 0) 0 0 (fiN b 32 11)) (shC v (7 - (dgN t)) (m9 - 0) 0 0) 126)))), (hr, .inr (1, [.ref ar, .int (nI n)])), (ar, .inl (cI, 255, .inl (nf v)))] := hD.sub [2, 3, 0, 1] (by decide) rfl
    refine lv_aload_n hx hb d_Sn_takeTailed_58 rfl (lv_at hl 4 rfl) ?_
    refine lv_iload hx hb d_Sn_takeTailed_59 (lv_at hl 0 rfl) ?_
    refine lv_iconst (v := nI 1) hx hb d_Sn_takeTailed_61 (by decide) ?_
    refine lv_iadd hx hb d_Sn_takeTailed_62 ?_
    refine mk_ti (y := nI (shC v (7 - (dgN t)) (m9 - 0) 0 0 + 1)) (nI_add (shC v (7 - (dgN t)) (m9 - 0) 0 0) 1) ?_
    refine lv_iload hx hb d_Sn_takeTailed_63 (lv_at hl 1 rfl) ?_
    refine lv_iload_n hx hb d_Sn_takeTailed_65 rfl (lv_at hl 6 rfl) ?_
    refine mk_w0 (wr := [(hr, .inr (1, [.ref ar, .int (nI n)])), (ar, .inl (cI, 255, .inl (nf v)))]) (W.runV (As := [.int (nI (shC v (7 - (dgN t)) (m9 - 0) 0 0 + 1)), .int (nI (dgN t)), .int (nI t)]) (rest := []) S ((c_Sn_num l dC dI cI h a (uN (shB v 0 (7 - (dgN t)) (m9 - 0) 0 0 (fiN b 32 11)) (shC v (7 - (dgN t)) (m9 - 0) 0 0) 126) (shC v (7 - (dgN t)) (m9 - 0) 0 0 + 1) (dgN t) t (by first | assumption | omega) (by first | assumption | omega)) _) (gV 3 hts k_402 k_404 k_4 k_26 k_405 (by decide +kernel) ⟨Nat.le_of_ble_eq_true rfl, Nat.le_of_ble_eq_true rfl⟩) (mk_vM hP hD hK hT hS hA [0, 1] rfl rfl (by decide) (q0 := 0) (ci := 2) rfl rfl) rfl rfl hl.1 rfl (lv_room (Nat.le_of_ble_eq_true rfl)) d_Sn_takeTailed_66 ⟨Nat.zero_le _, Nat.zero_le _⟩) hP hD hS hA [0, 1] [2, 3] rfl rfl (by decide) (by decide) (fun H locs hP hD hS => ?_)
    have hP : va_P (dC, dI) vwCl [(h, .inr (2, [.ref a])), (a, .inl (cI, 11, .inl (nf (nuN (shC v (7 - (dgN t)) (m9 - 0) 0 0 + 1) (dgN t) t (uN (shB v 0 (7 - (dgN t)) (m9 - 0) 0 0 (fiN b 32 11)) (shC v (7 - (dgN t)) (m9 - 0) 0 0) 126))))), (hr, .inr (1, [.ref ar, .int (nI n)])), (ar, .inl (cI, 255, .inl (nf v)))] H := hP.sub [2, 3, 0, 1] rfl
    have hD : va_D A [(h, .inr (2, [.ref a])), (a, .inl (cI, 11, .inl (nf (nuN (shC v (7 - (dgN t)) (m9 - 0) 0 0 + 1) (dgN t) t (uN (shB v 0 (7 - (dgN t)) (m9 - 0) 0 0 (fiN b 32 11)) (shC v (7 - (dgN t)) (m9 - 0) 0 0) 126))))), (hr, .inr (1, [.ref ar, .int (nI n)])), (ar, .inl (cI, 255, .inl (nf v)))] := hD.sub [2, 3, 0, 1] (by decide) rfl
    refine lv_aload_n hx hb d_Sn_takeTailed_69 rfl (lv_at hl 4 rfl) ?_
    refine lv_aload_n hx hb d_Sn_takeTailed_70 rfl (lv_at hl 5 rfl) ?_
    refine lv_iload hx hb d_Sn_takeTailed_71 (lv_at hl 2 rfl) ?_
    refine lv_iconst (v := nI 1) hx hb d_Sn_takeTailed_73 (by decide) ?_
    refine lv_iadd hx hb d_Sn_takeTailed_74 ?_
    refine mk_ti (y := nI (m9 + 1)) (nI_add m9 1) ?_
    refine lv_aload_n hx hb d_Sn_takeTailed_75 rfl (lv_at hl 5 rfl) ?_
    refine mk_r1 (W.runV (As := []) (rest := [.int (nI (m9 + 1)), .ref hr, .ref h]) S (c_Ro_size l dC dI cI hr ar n v) (gV 0 hts k_380 k_125 k_126 k_25 k_127 (by decide +kernel) ⟨Nat.le_of_ble_eq_true rfl, Nat.le_of_ble_eq_true rfl⟩) (mk_vR hP hK hT hS [2, 3] rfl (q0 := 2) (ci := 1) rfl rfl) rfl rfl hl.1 rfl (lv_room (Nat.le_of_ble_eq_true rfl)) d_Sn_takeTailed_76 ⟨Nat.zero_le _, Nat.zero_le _⟩) ?_
    refine lv_bipush (v := nI 8) hx hb d_Sn_takeTailed_79 (by decide) ?_
    refine lv_iconst (v := nI 3) hx hb d_Sn_takeTailed_81 (by decide) ?_
    refine mk_w1 (wr := []) (W.runV (As := [.ref hr, .int (nI (m9 + 1)), .int (nI n), .int (nI 8), .int (nI 3)]) (rest := []) S ((c_Sn_sho l dC dI cI h a (nuN (shC v (7 - (dgN t)) (m9 - 0) 0 0 + 1) (dgN t) t (uN (shB v 0 (7 - (dgN t)) (m9 - 0) 0 0 (fiN b 32 11)) (shC v (7 - (dgN t)) (m9 - 0) 0 0) 126)) hr ar n v (m9 + 1) n 8 3 (by first | assumption | omega) (by first | assumption | omega) (by first | assumption | omega) (by first | assumption | omega) (by first | assumption | omega)) _) (gV 5 hts k_381 k_383 k_2 k_26 k_384 (by decide +kernel) ⟨Nat.le_of_ble_eq_true rfl, Nat.le_of_ble_eq_true rfl⟩) (mk_vM hP hD hK hT hS hA [0, 1, 2, 3] rfl rfl (by decide) (q0 := 0) (ci := 2) rfl rfl) rfl rfl hl.1 rfl (lv_room (Nat.le_of_ble_eq_true rfl)) d_Sn_takeTailed_82 ⟨Nat.zero_le _, Nat.zero_le _⟩) hP hD hS hA [0, 1, 2, 3] [] rfl rfl (by decide) (by decide) (fun H locs hP hD hS => ?_)
    have hP : va_P (dC, dI) vwCl [(h, .inr (2, [.ref a])), (a, .inl (cI, 11, .inl (nf (shB v 8 3 (n - (m9 + 1)) (m9 + 1) 0 (nuN (shC v (7 - (dgN t)) (m9 - 0) 0 0 + 1) (dgN t) t (uN (shB v 0 (7 - (dgN t)) (m9 - 0) 0 0 (fiN b 32 11)) (shC v (7 - (dgN t)) (m9 - 0) 0 0) 126)))))), (hr, .inr (1, [.ref ar, .int (nI n)])), (ar, .inl (cI, 255, .inl (nf v)))] H := hP.sub [0, 1, 2, 3] rfl
    have hD : va_D A [(h, .inr (2, [.ref a])), (a, .inl (cI, 11, .inl (nf (shB v 8 3 (n - (m9 + 1)) (m9 + 1) 0 (nuN (shC v (7 - (dgN t)) (m9 - 0) 0 0 + 1) (dgN t) t (uN (shB v 0 (7 - (dgN t)) (m9 - 0) 0 0 (fiN b 32 11)) (shC v (7 - (dgN t)) (m9 - 0) 0 0) 126)))))), (hr, .inr (1, [.ref ar, .int (nI n)])), (ar, .inl (cI, 255, .inl (nf v)))] := hD.sub [0, 1, 2, 3] (by decide) rfl
    have b_7 := shC_le v 3 (n - (m9 + 1)) (m9 + 1) 0 (Nat.zero_le _)
    refine lv_pop hx hb d_Sn_takeTailed_85 rfl ?_
    have hw9 : ([(h, .inr (2, [.ref a])), (a, .inl (cI, 11, .inl (nf (shB v 8 3 (n - (m9 + 1)) (m9 + 1) 0 (nuN (shC v (7 - (dgN t)) (m9 - 0) 0 0 + 1) (dgN t) t (uN (shB v 0 (7 - (dgN t)) (m9 - 0) 0 0 (fiN b 32 11)) (shC v (7 - (dgN t)) (m9 - 0) 0 0) 126)))))), (hr, .inr (1, [.ref ar, .int (nI n)])), (ar, .inl (cI, 255, .inl (nf v)))] : va_W) = [(h, .inr (2, [.ref a])), (a, .inl (cI, 11, .inl (nf (ttN v n t b)))), (hr, .inr (1, [.ref ar, .int (nI n)])), (ar, .inl (cI, 255, .inl (nf v)))] := by simp only [ttN, show (if lpN v n ≤ 1 then n else lpN v n - 1) = m9 from (by rw [h0]; split <;> omega), Nat.sub_zero]
    rw [hw9] at hP hD
    exact hret _ _ _ _ d_Sn_takeTailed_86 hP hD hS

theorem c_Sn_tail (l : Launch) (dC : Nat → ClassId) (dI : Nat → Nat → Nat) (cI : ClassId) (h a : Nat) (b : Nat → Nat) (hr ar n : Nat) (v : Nat → Nat) (t : Nat) (hn : n ≤ 255) (hv : ∀ j, v j < 65536) (ht : t < 10000) : mM l y_Sn_takeTailed w_Sn_takeTailed ({ frames := 3, cells := 0, slots := 0, locals := 69 } : Room) [.ref h, .ref hr, .int (nI t)] (dC, dI) vwCl [(cI, .int)] [(h, .inr (2, [.ref a])), (a, .inl (cI, 11, .inl (nf b))), (hr, .inr (1, [.ref ar, .int (nI n)])), (ar, .inl (cI, 255, .inl (nf v)))] none [(h, .inr (2, [.ref a])), (a, .inl (cI, 11, .inl (nf (ttN v n t b)))), (hr, .inr (1, [.ref ar, .int (nI n)])), (ar, .inl (cI, 255, .inl (nf v)))] := by
  cases h0 : lpN v n with
  | zero => exact c_Sn_tail0 l dC dI cI h a b hr ar n v t hn hv ht h0
  | succ m => exact c_Sn_tailS l dC dI cI h a b hr ar n v t m hn hv ht h0

set_option maxHeartbeats 4000000 in
set_option maxRecDepth 100000 in
theorem c_Sn_take (l : Launch) (dC : Nat → ClassId) (dI : Nat → Nat → Nat) (cI : ClassId) (h a : Nat) (b : Nat → Nat) (hs as : Nat) (B : Nat → Nat) (q : Nat) (hB : ∀ j, B j < 256) (hq : q < 32) : mM l y_Sn_takeEntry w_Sn_takeEntry ({ frames := 3, cells := 0, slots := 0, locals := 63 } : Room) [.ref h, .ref hs, .int (nI q)] (dC, dI) vwCl [(cI, .int)] [(h, .inr (2, [.ref a])), (a, .inl (cI, 11, .inl (nf b))), (hs, .inr (4, [.ref as])), (as, .inl (cI, 1024, .inl (nf B)))] none [(h, .inr (2, [.ref a])), (a, .inl (cI, 11, .inl (nf (cpN b B (q * 32) 11)))), (hs, .inr (4, [.ref as])), (as, .inl (cI, 1024, .inl (nf B)))] := by
  refine mk_Mv (cc := b_Sn_takeEntry) (maxL := 4) (by decide) rfl (Nat.le_of_ble_eq_true rfl) ?_
  intro p e s m below meth c Q A ls S hP hK hT hS hl hD hA hret
  obtain ⟨hx, hb, hml, hown, hts⟩ := id S
  have hl : lv_has ls 4 [(0, .ref h), (1, .ref hs), (2, .int (nI q))] := hl
  refine lv_iconst (v := nI 0) hx hb d_Sn_takeEntry_0 (by decide) ?_
  refine lv_istore_n (lv' := [(3, .int (nI 0)), (0, .ref h), (1, .ref hs), (2, .int (nI q))]) hx hb d_Sn_takeEntry_1 rfl hl (by decide) rfl (fun ls hl => ?_)
  have lp2 : ∀ (k : Nat) (i : Nat) (H : Heap) (locs : List Loc) (ls : Array Slot), (i + k = 11) → va_P (dC, dI) vwCl [(h, .inr (2, [.ref a])), (a, .inl (cI, 11, .inl (nf (cpN b B (q * 32) i)))), (hs, .inr (4, [.ref as])), (as, .inl (cI, 1024, .inl (nf B)))] H → va_D A [(h, .inr (2, [.ref a])), (a, .inl (cI, 11, .inl (nf (cpN b B (q * 32) i)))), (hs, .inr (4, [.ref as])), (as, .inl (cI, 1024, .inl (nf B)))] → va_S A s.heap H locs → lv_has ls 4 [(0, .ref h), (1, .ref hs), (2, .int (nI q)), (3, .int (nI i))] → W p l e ({ frames := 3, cells := 0, slots := 0, locals := 63 } : Room) s m ([.ref h, .ref hs, .int (nI q)] : List Value).toArray below meth c H locs 0 0 Q (F0 m 2 ls []) := by
    intro k
    induction k with
    | zero =>
      intro i H locs ls hi hP hD hS hl
      refine lv_iload_n hx hb d_Sn_takeEntry_2 rfl (lv_at hl 3 rfl) ?_
      refine lv_bipush (v := nI 11) hx hb d_Sn_takeEntry_3 (by decide) ?_
      refine lv_icmp_ge (tgt := 25) hx hb d_Sn_takeEntry_5 (by decide) (fun c_1 => ?_) (fun c_1 => ?_)
      · skip
        rw [nI_leI (by omega) (by omega)] at c_1
        have hw9 : ([(h, .inr (2, [.ref a])), (a, .inl (cI, 11, .inl (nf (cpN b B (q * 32) i)))), (hs, .inr (4, [.ref as])), (as, .inl (cI, 1024, .inl (nf B)))] : va_W) = [(h, .inr (2, [.ref a])), (a, .inl (cI, 11, .inl (nf (cpN b B (q * 32) 11)))), (hs, .inr (4, [.ref as])), (as, .inl (cI, 1024, .inl (nf B)))] := by rw [show i = 11 by omega]
        rw [hw9] at hP hD
        exact hret _ _ _ _ d_Sn_takeEntry_25 hP hD hS
      · skip
        rw [nI_leI (by omega) (by omega)] at c_1
        first | omega | contradiction
    | succ k ih2 =>
      intro i H locs ls hi hP hD hS hl
      refine lv_iload_n hx hb d_Sn_takeEntry_2 rfl (lv_at hl 3 rfl) ?_
      refine lv_bipush (v := nI 11) hx hb d_Sn_takeEntry_3 (by decide) ?_
      refine lv_icmp_ge (tgt := 25) hx hb d_Sn_takeEntry_5 (by decide) (fun c_2 => ?_) (fun c_2 => ?_)
      · skip
        rw [nI_leI (by omega) (by omega)] at c_2
        first | omega | contradiction
      · skip
        rw [nI_leI (by omega) (by omega)] at c_2
        refine lv_aload_n hx hb d_Sn_takeEntry_8 rfl (lv_at hl 0 rfl) ?_
        refine lv_iload_n hx hb d_Sn_takeEntry_9 rfl (lv_at hl 3 rfl) ?_
        refine lv_aload_n hx hb d_Sn_takeEntry_10 rfl (lv_at hl 1 rfl) ?_
        refine lv_iload_n hx hb d_Sn_takeEntry_11 rfl (lv_at hl 2 rfl) ?_
        refine lv_iload_n hx hb d_Sn_takeEntry_12 rfl (lv_at hl 3 rfl) ?_
        refine mk_r1 (W.runV (As := [.int (nI q), .int (nI i)]) (rest := [.int (nI i), .ref h]) S (c_Sl_getN l dC dI cI hs as B q i (by first | assumption | omega) (by first | assumption | omega) (by first | assumption | omega)) (gV 2 hts k_464 k_214 k_215 k_28 k_216 (by decide +kernel) ⟨Nat.le_of_ble_eq_true rfl, Nat.le_of_ble_eq_true rfl⟩) (mk_vR hP hK hT hS [2, 3] rfl (q0 := 2) (ci := 4) rfl rfl) rfl rfl hl.1 rfl (lv_room (Nat.le_of_ble_eq_true rfl)) d_Sn_takeEntry_13 ⟨Nat.zero_le _, Nat.zero_le _⟩) ?_
        have b_3 := (show ∀ j9, B j9 < 256 by assumption) (q * 32 + i)
        refine mk_w0 (wr := [(hs, .inr (4, [.ref as])), (as, .inl (cI, 1024, .inl (nf B)))]) (W.runV (As := [.int (nI i), .int (nI (B (q * 32 + i)))]) (rest := []) S ((c_Sn_set l dC dI cI h a (cpN b B (q * 32) i) i (B (q * 32 + i)) (by first | assumption | omega)) _) (gV 2 hts k_391 k_393 k_3 k_26 k_394 (by decide +kernel) ⟨Nat.le_of_ble_eq_true rfl, Nat.le_of_ble_eq_true rfl⟩) (mk_vM hP hD hK hT hS hA [0, 1] rfl rfl (by decide) (q0 := 0) (ci := 2) rfl rfl) rfl rfl hl.1 rfl (lv_room (Nat.le_of_ble_eq_true rfl)) d_Sn_takeEntry_16 ⟨Nat.zero_le _, Nat.zero_le _⟩) hP hD hS hA [0, 1] [2, 3] rfl rfl (by decide) (by decide) (fun H locs hP hD hS => ?_)
        have hP : va_P (dC, dI) vwCl [(h, .inr (2, [.ref a])), (a, .inl (cI, 11, .inl (nf (uN (cpN b B (q * 32) i) i (B (q * 32 + i)))))), (hs, .inr (4, [.ref as])), (as, .inl (cI, 1024, .inl (nf B)))] H := hP.sub [2, 3, 0, 1] rfl
        have hD : va_D A [(h, .inr (2, [.ref a])), (a, .inl (cI, 11, .inl (nf (uN (cpN b B (q * 32) i) i (B (q * 32 + i)))))), (hs, .inr (4, [.ref as])), (as, .inl (cI, 1024, .inl (nf B)))] := hD.sub [2, 3, 0, 1] (by decide) rfl
        refine lv_iinc (v := nI (i + 1)) (lv' := [(3, .int (nI (i + 1))), (0, .ref h), (1, .ref hs), (2, .int (nI q))]) hx hb d_Sn_takeEntry_19 hl (k := 3) rfl (mk_i1 i) (by decide) rfl (fun ls hl => ?_)
        refine lv_goto (tgt := 2) hx hb d_Sn_takeEntry_22 (by decide) ?_
        have hl : lv_has ls 4 [(0, .ref h), (1, .ref hs), (2, .int (nI q)), (3, .int (nI (i + 1)))] := lv_sub hl [1, 2, 3, 0] rfl
        have hw9 : ([(h, .inr (2, [.ref a])), (a, .inl (cI, 11, .inl (nf (uN (cpN b B (q * 32) i) i (B (q * 32 + i)))))), (hs, .inr (4, [.ref as])), (as, .inl (cI, 1024, .inl (nf B)))] : va_W) = [(h, .inr (2, [.ref a])), (a, .inl (cI, 11, .inl (nf (cpN b B (q * 32) (i + 1))))), (hs, .inr (4, [.ref as])), (as, .inl (cI, 1024, .inl (nf B)))] := by rw [cpN_s]
        rw [hw9] at hP hD
        exact ih2 (i + 1) _ _ _ (by omega) hP hD hS hl
  have hl : lv_has ls 4 [(0, .ref h), (1, .ref hs), (2, .int (nI q)), (3, .int (nI 0))] := lv_sub hl [1, 2, 3, 0] rfl
  have hw9 : ([(h, .inr (2, [.ref a])), (a, .inl (cI, 11, .inl (nf b))), (hs, .inr (4, [.ref as])), (as, .inl (cI, 1024, .inl (nf B)))] : va_W) = [(h, .inr (2, [.ref a])), (a, .inl (cI, 11, .inl (nf (cpN b B (q * 32) 0)))), (hs, .inr (4, [.ref as])), (as, .inl (cI, 1024, .inl (nf B)))] := by rw [cpN_0]
  rw [hw9] at hP hD
  exact lp2 11 0 _ _ _ rfl hP hD hS hl

set_option maxHeartbeats 4000000 in
set_option maxRecDepth 100000 in
theorem c_Sn_store (l : Launch) (dC : Nat → ClassId) (dI : Nat → Nat → Nat) (cI : ClassId) (h a : Nat) (b : Nat → Nat) (hs as : Nat) (B : Nat → Nat) (q : Nat) (hb9 : ∀ j, b j < 65536) (hq : q < 32) : mM l y_Sn_storeEntry w_Sn_storeEntry ({ frames := 3, cells := 0, slots := 0, locals := 64 } : Room) [.ref h, .ref hs, .int (nI q)] (dC, dI) vwCl [(cI, .int)] [(h, .inr (2, [.ref a])), (a, .inl (cI, 11, .inl (nf b))), (hs, .inr (4, [.ref as])), (as, .inl (cI, 1024, .inl (nf B)))] none [(h, .inr (2, [.ref a])), (a, .inl (cI, 11, .inl (nf b))), (hs, .inr (4, [.ref as])), (as, .inl (cI, 1024, .inl (nf (stN B (enN b) (q * 32) 32))))] := by
  refine mk_Mv (cc := b_Sn_storeEntry) (maxL := 4) (by decide) rfl (Nat.le_of_ble_eq_true rfl) ?_
  intro p e s m below meth c Q A ls S hP hK hT hS hl hD hA hret
  obtain ⟨hx, hb, hml, hown, hts⟩ := id S
  have hl : lv_has ls 4 [(0, .ref h), (1, .ref hs), (2, .int (nI q))] := hl
  refine lv_iconst (v := nI 0) hx hb d_Sn_storeEntry_0 (by decide) ?_
  refine lv_istore_n (lv' := [(3, .int (nI 0)), (0, .ref h), (1, .ref hs), (2, .int (nI q))]) hx hb d_Sn_storeEntry_1 rfl hl (by decide) rfl (fun ls hl => ?_)
  have lp2 : ∀ (k : Nat) (i : Nat) (H : Heap) (locs : List Loc) (ls : Array Slot), (i + k = 32) → va_P (dC, dI) vwCl [(h, .inr (2, [.ref a])), (a, .inl (cI, 11, .inl (nf b))), (hs, .inr (4, [.ref as])), (as, .inl (cI, 1024, .inl (nf (stN B (enN b) (q * 32) i))))] H → va_D A [(h, .inr (2, [.ref a])), (a, .inl (cI, 11, .inl (nf b))), (hs, .inr (4, [.ref as])), (as, .inl (cI, 1024, .inl (nf (stN B (enN b) (q * 32) i))))] → va_S A s.heap H locs → lv_has ls 4 [(0, .ref h), (1, .ref hs), (2, .int (nI q)), (3, .int (nI i))] → W p l e ({ frames := 3, cells := 0, slots := 0, locals := 64 } : Room) s m ([.ref h, .ref hs, .int (nI q)] : List Value).toArray below meth c H locs 0 0 Q (F0 m 2 ls []) := by
    intro k
    induction k with
    | zero =>
      intro i H locs ls hi hP hD hS hl
      refine lv_iload_n hx hb d_Sn_storeEntry_2 rfl (lv_at hl 3 rfl) ?_
      refine lv_bipush (v := nI 32) hx hb d_Sn_storeEntry_3 (by decide) ?_
      refine lv_icmp_ge (tgt := 36) hx hb d_Sn_storeEntry_5 (by decide) (fun c_1 => ?_) (fun c_1 => ?_)
      · skip
        rw [nI_leI (by omega) (by omega)] at c_1
        have hw9 : ([(h, .inr (2, [.ref a])), (a, .inl (cI, 11, .inl (nf b))), (hs, .inr (4, [.ref as])), (as, .inl (cI, 1024, .inl (nf (stN B (enN b) (q * 32) i))))] : va_W) = [(h, .inr (2, [.ref a])), (a, .inl (cI, 11, .inl (nf b))), (hs, .inr (4, [.ref as])), (as, .inl (cI, 1024, .inl (nf (stN B (enN b) (q * 32) 32))))] := by rw [show i = 32 by omega]
        rw [hw9] at hP hD
        exact hret _ _ _ _ d_Sn_storeEntry_36 hP hD hS
      · skip
        rw [nI_leI (by omega) (by omega)] at c_1
        first | omega | contradiction
    | succ k ih2 =>
      intro i H locs ls hi hP hD hS hl
      refine lv_iload_n hx hb d_Sn_storeEntry_2 rfl (lv_at hl 3 rfl) ?_
      refine lv_bipush (v := nI 32) hx hb d_Sn_storeEntry_3 (by decide) ?_
      refine lv_icmp_ge (tgt := 36) hx hb d_Sn_storeEntry_5 (by decide) (fun c_2 => ?_) (fun c_2 => ?_)
      · skip
        rw [nI_leI (by omega) (by omega)] at c_2
        first | omega | contradiction
      · skip
        rw [nI_leI (by omega) (by omega)] at c_2
        refine lv_aload_n hx hb d_Sn_storeEntry_8 rfl (lv_at hl 1 rfl) ?_
        refine lv_iload_n hx hb d_Sn_storeEntry_9 rfl (lv_at hl 2 rfl) ?_
        refine lv_iload_n hx hb d_Sn_storeEntry_10 rfl (lv_at hl 3 rfl) ?_
        refine lv_iload_n hx hb d_Sn_storeEntry_11 rfl (lv_at hl 3 rfl) ?_
        refine lv_bipush (v := nI 11) hx hb d_Sn_storeEntry_12 (by decide) ?_
        refine lv_icmp_ge (tgt := 25) hx hb d_Sn_storeEntry_14 (by decide) (fun c_3 => ?_) (fun c_3 => ?_)
        · skip
          rw [nI_leI (by omega) (by omega)] at c_3
          refine lv_iconst (v := nI 0) hx hb d_Sn_storeEntry_25 (by decide) ?_
          refine mk_w1 (wr := [(h, .inr (2, [.ref a])), (a, .inl (cI, 11, .inl (nf b)))]) (W.runV (As := [.int (nI q), .int (nI i), .int (nI 0)]) (rest := []) S ((c_Sl_putN l dC dI cI hs as (stN B (enN b) (q * 32) i) q i 0 (by first | assumption | omega) (by first | assumption | omega) (by first | assumption | omega)) _) (gV 3 hts k_418 k_200 k_201 k_28 k_202 (by decide +kernel) ⟨Nat.le_of_ble_eq_true rfl, Nat.le_of_ble_eq_true rfl⟩) (mk_vM hP hD hK hT hS hA [2, 3] rfl rfl (by decide) (q0 := 2) (ci := 4) rfl rfl) rfl rfl hl.1 rfl (lv_room (Nat.le_of_ble_eq_true rfl)) d_Sn_storeEntry_26 ⟨Nat.zero_le _, Nat.zero_le _⟩) hP hD hS hA [2, 3] [0, 1] rfl rfl (by decide) (by decide) (fun H locs hP hD hS => ?_)
          have hP : va_P (dC, dI) vwCl [(h, .inr (2, [.ref a])), (a, .inl (cI, 11, .inl (nf b))), (hs, .inr (4, [.ref as])), (as, .inl (cI, 1024, .inl (nf (uN (stN B (enN b) (q * 32) i) (q * 32 + i) (0 % 2 ^ 8)))))] H := hP.sub [0, 1, 2, 3] rfl
          have hD : va_D A [(h, .inr (2, [.ref a])), (a, .inl (cI, 11, .inl (nf b))), (hs, .inr (4, [.ref as])), (as, .inl (cI, 1024, .inl (nf (uN (stN B (enN b) (q * 32) i) (q * 32 + i) (0 % 2 ^ 8)))))] := hD.sub [0, 1, 2, 3] (by decide) rfl
          refine lv_pop hx hb d_Sn_storeEntry_29 rfl ?_
          refine lv_iinc (v := nI (i + 1)) (lv' := [(3, .int (nI (i + 1))), (0, .ref h), (1, .ref hs), (2, .int (nI q))]) hx hb d_Sn_storeEntry_30 hl (k := 3) rfl (mk_i1 i) (by decide) rfl (fun ls hl => ?_)
          refine lv_goto (tgt := 2) hx hb d_Sn_storeEntry_33 (by decide) ?_
          have hl : lv_has ls 4 [(0, .ref h), (1, .ref hs), (2, .int (nI q)), (3, .int (nI (i + 1)))] := lv_sub hl [1, 2, 3, 0] rfl
          have hw9 : ([(h, .inr (2, [.ref a])), (a, .inl (cI, 11, .inl (nf b))), (hs, .inr (4, [.ref as])), (as, .inl (cI, 1024, .inl (nf (uN (stN B (enN b) (q * 32) i) (q * 32 + i) (0 % 2 ^ 8)))))] : va_W) = [(h, .inr (2, [.ref a])), (a, .inl (cI, 11, .inl (nf b))), (hs, .inr (4, [.ref as])), (as, .inl (cI, 1024, .inl (nf (stN B (enN b) (q * 32) (i + 1)))))] := by rw [stN_s (by unfold enN; first | rw [if_pos (by omega)] | rw [if_neg (by omega)])]
          rw [hw9] at hP hD
          exact ih2 (i + 1) _ _ _ (by omega) hP hD hS hl
        · skip
          rw [nI_leI (by omega) (by omega)] at c_3
          refine lv_aload_n hx hb d_Sn_storeEntry_17 rfl (lv_at hl 0 rfl) ?_
          refine lv_iload_n hx hb d_Sn_storeEntry_18 rfl (lv_at hl 3 rfl) ?_
          refine mk_r1 (W.runV (As := [.int (nI i)]) (rest := [.int (nI i), .int (nI q), .ref hs]) S (c_Sn_get l dC dI cI h a b i (by first | assumption | omega) (by first | assumption | omega)) (gV 1 hts k_414 k_416 k_6 k_26 k_417 (by decide +kernel) ⟨Nat.le_of_ble_eq_true rfl, Nat.le_of_ble_eq_true rfl⟩) (mk_vR hP hK hT hS [0, 1] rfl (q0 := 0) (ci := 2) rfl rfl) rfl rfl hl.1 rfl (lv_room (Nat.le_of_ble_eq_true rfl)) d_Sn_storeEntry_19 ⟨Nat.zero_le _, Nat.zero_le _⟩) ?_
          have b_4 := (show ∀ j9, b j9 < 65536 by assumption) i
          refine lv_goto (tgt := 26) hx hb d_Sn_storeEntry_22 (by decide) ?_
          refine mk_w1 (wr := [(h, .inr (2, [.ref a])), (a, .inl (cI, 11, .inl (nf b)))]) (W.runV (As := [.int (nI q), .int (nI i), .int (nI (b i))]) (rest := []) S ((c_Sl_putN l dC dI cI hs as (stN B (enN b) (q * 32) i) q i (b i) (by first | assumption | omega) (by first | assumption | omega) (by first | assumption | omega)) _) (gV 3 hts k_418 k_200 k_201 k_28 k_202 (by decide +kernel) ⟨Nat.le_of_ble_eq_true rfl, Nat.le_of_ble_eq_true rfl⟩) (mk_vM hP hD hK hT hS hA [2, 3] rfl rfl (by decide) (q0 := 2) (ci := 4) rfl rfl) rfl rfl hl.1 rfl (lv_room (Nat.le_of_ble_eq_true rfl)) d_Sn_storeEntry_26 ⟨Nat.zero_le _, Nat.zero_le _⟩) hP hD hS hA [2, 3] [0, 1] rfl rfl (by decide) (by decide) (fun H locs hP hD hS => ?_)
          have hP : va_P (dC, dI) vwCl [(h, .inr (2, [.ref a])), (a, .inl (cI, 11, .inl (nf b))), (hs, .inr (4, [.ref as])), (as, .inl (cI, 1024, .inl (nf (uN (stN B (enN b) (q * 32) i) (q * 32 + i) ((b i) % 2 ^ 8)))))] H := hP.sub [0, 1, 2, 3] rfl
          have hD : va_D A [(h, .inr (2, [.ref a])), (a, .inl (cI, 11, .inl (nf b))), (hs, .inr (4, [.ref as])), (as, .inl (cI, 1024, .inl (nf (uN (stN B (enN b) (q * 32) i) (q * 32 + i) ((b i) % 2 ^ 8)))))] := hD.sub [0, 1, 2, 3] (by decide) rfl
          refine lv_pop hx hb d_Sn_storeEntry_29 rfl ?_
          refine lv_iinc (v := nI (i + 1)) (lv' := [(3, .int (nI (i + 1))), (0, .ref h), (1, .ref hs), (2, .int (nI q))]) hx hb d_Sn_storeEntry_30 hl (k := 3) rfl (mk_i1 i) (by decide) rfl (fun ls hl => ?_)
          refine lv_goto (tgt := 2) hx hb d_Sn_storeEntry_33 (by decide) ?_
          have hl : lv_has ls 4 [(0, .ref h), (1, .ref hs), (2, .int (nI q)), (3, .int (nI (i + 1)))] := lv_sub hl [1, 2, 3, 0] rfl
          have hw9 : ([(h, .inr (2, [.ref a])), (a, .inl (cI, 11, .inl (nf b))), (hs, .inr (4, [.ref as])), (as, .inl (cI, 1024, .inl (nf (uN (stN B (enN b) (q * 32) i) (q * 32 + i) ((b i) % 2 ^ 8)))))] : va_W) = [(h, .inr (2, [.ref a])), (a, .inl (cI, 11, .inl (nf b))), (hs, .inr (4, [.ref as])), (as, .inl (cI, 1024, .inl (nf (stN B (enN b) (q * 32) (i + 1)))))] := by rw [stN_s (by unfold enN; first | rw [if_pos (by omega)] | rw [if_neg (by omega)])]
          rw [hw9] at hP hD
          exact ih2 (i + 1) _ _ _ (by omega) hP hD hS hl
  have hl : lv_has ls 4 [(0, .ref h), (1, .ref hs), (2, .int (nI q)), (3, .int (nI 0))] := lv_sub hl [1, 2, 3, 0] rfl
  have hw9 : ([(h, .inr (2, [.ref a])), (a, .inl (cI, 11, .inl (nf b))), (hs, .inr (4, [.ref as])), (as, .inl (cI, 1024, .inl (nf B)))] : va_W) = [(h, .inr (2, [.ref a])), (a, .inl (cI, 11, .inl (nf b))), (hs, .inr (4, [.ref as])), (as, .inl (cI, 1024, .inl (nf (stN B (enN b) (q * 32) 0))))] := by rw [stN_0]
  rw [hw9] at hP hD
  exact lp2 32 0 _ _ _ rfl hP hD hS hl

set_option maxHeartbeats 4000000 in
set_option maxRecDepth 100000 in
theorem c_Sn_bo (l : Launch) (dC : Nat → ClassId) (dI : Nat → Nat → Nat) (cI : ClassId) (h a : Nat) (b : Nat → Nat) (f t : Nat) (hb9 : ∀ j, b j < 65536) (hf : f ≤ t) (ht : t ≤ 11) : mR l y_Sn_blanksOnlyEnd w_Sn_blanksOnlyEnd ({ frames := 1, cells := 0, slots := 0, locals := 21 } : Room) [.ref h, .int (nI f), .int (nI t)] (dC, dI) vwCl [(cI, .int)] [(h, .inr (2, [.ref a])), (a, .inl (cI, 11, .inl (nf b)))] (some (.int (bI (boN b (t - f) f 0)))) := by
  refine mk_Ri (cc := b_Sn_blanksOnlyEnd) (maxL := 5) (by decide) rfl (Nat.le_of_ble_eq_true rfl) (mk_nz _) ?_
  intro p e s m below meth c Q A ls S hP hK hT hS hl hret
  obtain ⟨hx, hb, hml, hown, hts⟩ := id S
  have hl : lv_has ls 5 [(0, .ref h), (1, .int (nI f)), (2, .int (nI t))] := hl
  refine lv_iconst (v := nI 0) hx hb d_Sn_blanksOnlyEnd_0 (by decide) ?_
  refine lv_istore_n (lv' := [(3, .int (nI 0)), (0, .ref h), (1, .int (nI f)), (2, .int (nI t))]) hx hb d_Sn_blanksOnlyEnd_1 rfl hl (by decide) rfl (fun ls hl => ?_)
  refine lv_iload_n hx hb d_Sn_blanksOnlyEnd_2 rfl (lv_at hl 2 rfl) ?_
  refine lv_istore (lv' := [(4, .int (nI f)), (3, .int (nI 0)), (0, .ref h), (1, .int (nI f)), (2, .int (nI t))]) hx hb d_Sn_blanksOnlyEnd_3 hl (by decide) rfl (fun ls hl => ?_)
  have lp5 : ∀ (k : Nat) (i d : Nat) (ls : Array Slot), (i + k = t) → (d ≤ 1) → (boN b (t - f) f 0 = boN b k i d) → lv_has ls 5 [(0, .ref h), (2, .int (nI t)), (3, .int (nI d)), (4, .int (nI i))] → W p l e ({ frames := 1, cells := 0, slots := 0, locals := 21 } : Room) s m ([.ref h, .int (nI f), .int (nI t)] : List Value).toArray below meth c s.heap [] 0 0 Q (F0 m 5 ls []) := by
    intro k
    induction k with
    | zero =>
      intro i d ls hi hd hE hl
      refine lv_iload hx hb d_Sn_blanksOnlyEnd_5 (lv_at hl 3 rfl) ?_
      refine lv_iload_n hx hb d_Sn_blanksOnlyEnd_7 rfl (lv_at hl 1 rfl) ?_
      refine lv_icmp_ge (tgt := 51) hx hb d_Sn_blanksOnlyEnd_8 (by decide) (fun c_1 => ?_) (fun c_1 => ?_)
      · skip
        rw [nI_leI (by omega) (by omega)] at c_1
        refine lv_iconst (v := nI 1) hx hb d_Sn_blanksOnlyEnd_51 (by decide) ?_
        exact mk_ti (by exact mk_bt (by rw [hE]; rfl)) (hret _ _ d_Sn_blanksOnlyEnd_52)
      · skip
        rw [nI_leI (by omega) (by omega)] at c_1
        first | omega | contradiction
    | succ k ih5 =>
      intro i d ls hi hd hE hl
      refine lv_iload hx hb d_Sn_blanksOnlyEnd_5 (lv_at hl 3 rfl) ?_
      refine lv_iload_n hx hb d_Sn_blanksOnlyEnd_7 rfl (lv_at hl 1 rfl) ?_
      refine lv_icmp_ge (tgt := 51) hx hb d_Sn_blanksOnlyEnd_8 (by decide) (fun c_2 => ?_) (fun c_2 => ?_)
      · skip
        rw [nI_leI (by omega) (by omega)] at c_2
        first | omega | contradiction
      · skip
        rw [nI_leI (by omega) (by omega)] at c_2
        refine lv_aload_n hx hb d_Sn_blanksOnlyEnd_11 rfl (lv_at hl 0 rfl) ?_
        refine lv_iload hx hb d_Sn_blanksOnlyEnd_12 (lv_at hl 3 rfl) ?_
        refine mk_r1 (W.runV (As := [.int (nI i)]) (rest := []) S (c_Sn_get l dC dI cI h a b i (by first | assumption | omega) (by first | assumption | omega)) (gV 1 hts k_414 k_416 k_6 k_26 k_417 (by decide +kernel) ⟨Nat.le_of_ble_eq_true rfl, Nat.le_of_ble_eq_true rfl⟩) (mk_vR hP hK hT hS [0, 1] rfl (q0 := 0) (ci := 2) rfl rfl) rfl rfl hl.1 rfl (lv_room (Nat.le_of_ble_eq_true rfl)) d_Sn_blanksOnlyEnd_14 ⟨Nat.zero_le _, Nat.zero_le _⟩) ?_
        have b_3 := (show ∀ j9, b j9 < 65536 by assumption) i
        refine lv_bipush (v := nI 32) hx hb d_Sn_blanksOnlyEnd_17 (by decide) ?_
        refine lv_icmp_ne (tgt := 27) hx hb d_Sn_blanksOnlyEnd_19 (by decide) (fun c_4 => ?_) (fun c_4 => ?_)
        · skip
          rw [nI_eq (by omega) (by omega)] at c_4
          refine lv_iload_n hx hb d_Sn_blanksOnlyEnd_27 rfl (lv_at hl 2 rfl) ?_
          refine lv_if_ne (tgt := 43) hx hb d_Sn_blanksOnlyEnd_28 (by decide) (fun c_5 => ?_) (fun c_5 => ?_)
          · skip
            rw [mk_ceq (by omega)] at c_5
            refine lv_iconst (v := nI 0) hx hb d_Sn_blanksOnlyEnd_43 (by decide) ?_
            exact mk_ti (by exact mk_bf (by rw [hE, boN, if_neg (by omega), if_neg (by first | (intro h9; omega) | (intro h9; rw [c_5] at h9; exact absurd h9.2 (by decide)))])) (hret _ _ d_Sn_blanksOnlyEnd_44)
          · skip
            rw [mk_ceq (by omega)] at c_5
            refine lv_aload_n hx hb d_Sn_blanksOnlyEnd_31 rfl (lv_at hl 0 rfl) ?_
            refine lv_iload hx hb d_Sn_blanksOnlyEnd_32 (lv_at hl 3 rfl) ?_
            refine mk_r1 (W.runV (As := [.int (nI i)]) (rest := []) S (c_Sn_get l dC dI cI h a b i (by first | assumption | omega) (by first | assumption | omega)) (gV 1 hts k_414 k_416 k_6 k_26 k_417 (by decide +kernel) ⟨Nat.le_of_ble_eq_true rfl, Nat.le_of_ble_eq_true rfl⟩) (mk_vR hP hK hT hS [0, 1] rfl (q0 := 0) (ci := 2) rfl rfl) rfl rfl hl.1 rfl (lv_room (Nat.le_of_ble_eq_true rfl)) d_Sn_blanksOnlyEnd_34 ⟨Nat.zero_le _, Nat.zero_le _⟩) ?_
            have b_6 := (show ∀ j9, b j9 < 65536 by assumption) i
            refine mk_r1 (W.runS (As := [.int (nI (b i))]) (rest := []) S (c_Un_short l dC dI cI (b i) (by first | assumption | omega)) (gS 1 hts k_473 k_159 k_30 k_160 (by decide +kernel) ⟨Nat.le_of_ble_eq_true rfl, Nat.le_of_ble_eq_true rfl⟩) (mk_sR hP hK hT hS [] rfl) rfl rfl hl.1 rfl (lv_room (Nat.le_of_ble_eq_true rfl)) d_Sn_blanksOnlyEnd_37 ⟨Nat.zero_le _, Nat.zero_le _⟩) ?_
            refine lv_if_ne (tgt := 45) hx hb d_Sn_blanksOnlyEnd_40 (by decide) (fun c_7 => ?_) (fun c_7 => ?_)
            · skip
              have c_7 := bI_1 c_7
              refine lv_iinc (v := nI (i + 1)) (lv' := [(4, .int (nI (i + 1))), (0, .ref h), (2, .int (nI t)), (3, .int (nI d))]) hx hb d_Sn_blanksOnlyEnd_45 hl (k := 3) rfl (mk_i1 i) (by decide) rfl (fun ls hl => ?_)
              refine lv_goto (tgt := 5) hx hb d_Sn_blanksOnlyEnd_48 (by decide) ?_
              have hl : lv_has ls 5 [(0, .ref h), (2, .int (nI t)), (3, .int (nI d)), (4, .int (nI (i + 1)))] := lv_sub hl [1, 2, 3, 0] rfl
              exact ih5 (i + 1) d _ (by omega) (by omega) (by rw [hE, boN]; first | rw [if_pos (by omega)] | rw [if_neg (by omega), if_pos ⟨by omega, by assumption⟩]) hl
            · skip
              have c_7 := bI_0 c_7
              refine lv_iconst (v := nI 0) hx hb d_Sn_blanksOnlyEnd_43 (by decide) ?_
              exact mk_ti (by exact mk_bf (by rw [hE, boN, if_neg (by omega), if_neg (by first | (intro h9; omega) | (intro h9; rw [c_7] at h9; exact absurd h9.2 (by decide)))])) (hret _ _ d_Sn_blanksOnlyEnd_44)
        · skip
          rw [nI_eq (by omega) (by omega)] at c_4
          refine lv_iconst (v := nI 1) hx hb d_Sn_blanksOnlyEnd_22 (by decide) ?_
          refine lv_istore_n (lv' := [(3, .int (nI 1)), (0, .ref h), (2, .int (nI t)), (4, .int (nI i))]) hx hb d_Sn_blanksOnlyEnd_23 rfl hl (by decide) rfl (fun ls hl => ?_)
          refine lv_goto (tgt := 45) hx hb d_Sn_blanksOnlyEnd_24 (by decide) ?_
          refine lv_iinc (v := nI (i + 1)) (lv' := [(4, .int (nI (i + 1))), (3, .int (nI 1)), (0, .ref h), (2, .int (nI t))]) hx hb d_Sn_blanksOnlyEnd_45 hl (k := 3) rfl (mk_i1 i) (by decide) rfl (fun ls hl => ?_)
          refine lv_goto (tgt := 5) hx hb d_Sn_blanksOnlyEnd_48 (by decide) ?_
          have hl : lv_has ls 5 [(0, .ref h), (2, .int (nI t)), (3, .int (nI 1)), (4, .int (nI (i + 1)))] := lv_sub hl [2, 3, 1, 0] rfl
          exact ih5 (i + 1) 1 _ (by omega) (by omega) (by rw [hE, boN]; first | rw [if_pos (by omega)] | rw [if_neg (by omega), if_pos ⟨by omega, by assumption⟩]) hl
  have hl : lv_has ls 5 [(0, .ref h), (2, .int (nI t)), (3, .int (nI 0)), (4, .int (nI f))] := lv_sub hl [2, 4, 1, 0] rfl
  exact lp5 (t - f) f 0 _ (by omega) (by omega) rfl hl

set_option maxHeartbeats 4000000 in
set_option maxRecDepth 100000 in
theorem c_Sn_valid (l : Launch) (dC : Nat → ClassId) (dI : Nat → Nat → Nat) (cI : ClassId) (h a : Nat) (b : Nat → Nat) (hb9 : ∀ j, b j < 65536) : mR l y_Sn_isValid w_Sn_isValid ({ frames := 2, cells := 0, slots := 0, locals := 45 } : Room) [.ref h] (dC, dI) vwCl [(cI, .int)] [(h, .inr (2, [.ref a])), (a, .inl (cI, 11, .inl (nf b)))] (some (.int (bI (valN b)))) := by
  refine mk_Ri (cc := b_Sn_isValid) (maxL := 1) (by decide) rfl (Nat.le_of_ble_eq_true rfl) (mk_nz _) ?_
  intro p e s m below meth c Q A ls S hP hK hT hS hl hret
  obtain ⟨hx, hb, hml, hown, hts⟩ := id S
  have hl : lv_has ls 1 [(0, .ref h)] := hl
  refine lv_aload_n hx hb d_Sn_isValid_0 rfl (lv_at hl 0 rfl) ?_
  refine lv_iconst (v := nI 0) hx hb d_Sn_isValid_1 (by decide) ?_
  refine mk_r1 (W.runV (As := [.int (nI 0)]) (rest := []) S (c_Sn_get l dC dI cI h a b 0 (by first | assumption | omega) (by first | assumption | omega)) (gV 1 hts k_414 k_416 k_6 k_26 k_417 (by decide +kernel) ⟨Nat.le_of_ble_eq_true rfl, Nat.le_of_ble_eq_true rfl⟩) (mk_vR hP hK hT hS [0, 1] rfl (q0 := 0) (ci := 2) rfl rfl) rfl rfl hl.1 rfl (lv_room (Nat.le_of_ble_eq_true rfl)) d_Sn_isValid_2 ⟨Nat.zero_le _, Nat.zero_le _⟩) ?_
  have b_1 := (show ∀ j9, b j9 < 65536 by assumption) 0
  refine lv_bipush (v := nI 32) hx hb d_Sn_isValid_5 (by decide) ?_
  refine lv_icmp_eq (tgt := 35) hx hb d_Sn_isValid_7 (by decide) (fun c_2 => ?_) (fun c_2 => ?_)
  · skip
    rw [nI_eq (by omega) (by omega)] at c_2
    refine lv_iconst (v := nI 0) hx hb d_Sn_isValid_35 (by decide) ?_
    exact mk_ti (by exact mk_bf (by simp only [valN, decide_eq_false_iff_not]; intro h9; first | omega | (have h8 := h9.2.1; rw [c_2] at h8; exact absurd h8 (by decide)) | (have h8 := h9.2.2; rw [c_2] at h8; exact absurd h8 (by decide)))) (hret _ _ d_Sn_isValid_36)
  · skip
    rw [nI_eq (by omega) (by omega)] at c_2
    refine lv_aload_n hx hb d_Sn_isValid_10 rfl (lv_at hl 0 rfl) ?_
    refine lv_iconst (v := nI 0) hx hb d_Sn_isValid_11 (by decide) ?_
    refine lv_bipush (v := nI 8) hx hb d_Sn_isValid_12 (by decide) ?_
    refine mk_r1 (W.runV (As := [.int (nI 0), .int (nI 8)]) (rest := []) S (c_Sn_bo l dC dI cI h a b 0 8 (by first | assumption | omega) (by first | assumption | omega) (by first | assumption | omega)) (gV 2 hts k_469 k_471 k_9 k_26 k_472 (by decide +kernel) ⟨Nat.le_of_ble_eq_true rfl, Nat.le_of_ble_eq_true rfl⟩) (mk_vR hP hK hT hS [0, 1] rfl (q0 := 0) (ci := 2) rfl rfl) rfl rfl hl.1 rfl (lv_room (Nat.le_of_ble_eq_true rfl)) d_Sn_isValid_14 ⟨Nat.zero_le _, Nat.zero_le _⟩) ?_
    refine mk_ti (y := bI (boN b 8 0 0)) rfl ?_
    refine lv_if_eq (tgt := 35) hx hb d_Sn_isValid_17 (by decide) (fun c_3 => ?_) (fun c_3 => ?_)
    · skip
      have c_3 := bI_0 c_3
      refine lv_iconst (v := nI 0) hx hb d_Sn_isValid_35 (by decide) ?_
      exact mk_ti (by exact mk_bf (by simp only [valN, decide_eq_false_iff_not]; intro h9; first | omega | (have h8 := h9.2.1; rw [c_3] at h8; exact absurd h8 (by decide)) | (have h8 := h9.2.2; rw [c_3] at h8; exact absurd h8 (by decide)))) (hret _ _ d_Sn_isValid_36)
    · skip
      have c_3 := bI_1 c_3
      refine lv_aload_n hx hb d_Sn_isValid_20 rfl (lv_at hl 0 rfl) ?_
      refine lv_bipush (v := nI 8) hx hb d_Sn_isValid_21 (by decide) ?_
      refine lv_bipush (v := nI 11) hx hb d_Sn_isValid_23 (by decide) ?_
      refine mk_r1 (W.runV (As := [.int (nI 8), .int (nI 11)]) (rest := []) S (c_Sn_bo l dC dI cI h a b 8 11 (by first | assumption | omega) (by first | assumption | omega) (by first | assumption | omega)) (gV 2 hts k_469 k_471 k_9 k_26 k_472 (by decide +kernel) ⟨Nat.le_of_ble_eq_true rfl, Nat.le_of_ble_eq_true rfl⟩) (mk_vR hP hK hT hS [0, 1] rfl (q0 := 0) (ci := 2) rfl rfl) rfl rfl hl.1 rfl (lv_room (Nat.le_of_ble_eq_true rfl)) d_Sn_isValid_25 ⟨Nat.zero_le _, Nat.zero_le _⟩) ?_
      refine mk_ti (y := bI (boN b 3 8 0)) rfl ?_
      refine lv_if_eq (tgt := 35) hx hb d_Sn_isValid_28 (by decide) (fun c_4 => ?_) (fun c_4 => ?_)
      · skip
        have c_4 := bI_0 c_4
        refine lv_iconst (v := nI 0) hx hb d_Sn_isValid_35 (by decide) ?_
        exact mk_ti (by exact mk_bf (by simp only [valN, decide_eq_false_iff_not]; intro h9; first | omega | (have h8 := h9.2.1; rw [c_4] at h8; exact absurd h8 (by decide)) | (have h8 := h9.2.2; rw [c_4] at h8; exact absurd h8 (by decide)))) (hret _ _ d_Sn_isValid_36)
      · skip
        have c_4 := bI_1 c_4
        refine lv_iconst (v := nI 1) hx hb d_Sn_isValid_31 (by decide) ?_
        refine lv_goto (tgt := 36) hx hb d_Sn_isValid_32 (by decide) ?_
        exact mk_ti (by exact mk_bt (by simp only [valN, decide_eq_true_eq]; exact ⟨by omega, by assumption, by assumption⟩)) (hret _ _ d_Sn_isValid_36)

set_option maxHeartbeats 4000000 in
set_option maxRecDepth 100000 in
theorem c_Sn_showB (l : Launch) (dC : Nat → ClassId) (dI : Nat → Nat → Nat) (cI : ClassId) (h a : Nat) (b : Nat → Nat) (hr ar n : Nat) (v : Nat → Nat) (f t : Nat) (hb9 : ∀ j, b j < 65536) (hn : n ≤ 20) (hf : f ≤ t) (ht : t ≤ 11) : mM l y_Sn_showBytes w_Sn_showBytes ({ frames := 1, cells := 0, slots := 0, locals := 21 } : Room) [.ref h, .ref hr, .int (nI f), .int (nI t)] (dC, dI) vwCl [(cI, .int)] [(h, .inr (2, [.ref a])), (a, .inl (cI, 11, .inl (nf b))), (hr, .inr (1, [.ref ar, .int (nI n)])), (ar, .inl (cI, 255, .inl (nf v)))] none [(h, .inr (2, [.ref a])), (a, .inl (cI, 11, .inl (nf b))), (hr, .inr (1, [.ref ar, .int (nI (n + cnN b (t - f) f))])), (ar, .inl (cI, 255, .inl (nf (apN v b n f (cnN b (t - f) f)))))] := by
  have hcn := cnN_le b (t - f) f
  refine mk_Mv (cc := b_Sn_showBytes) (maxL := 5) (by decide) rfl (Nat.le_of_ble_eq_true rfl) ?_
  intro p e s m below meth c Q A ls S hP hK hT hS hl hD hA hret
  obtain ⟨hx, hb, hml, hown, hts⟩ := id S
  have hl : lv_has ls 5 [(0, .ref h), (1, .ref hr), (2, .int (nI f)), (3, .int (nI t))] := hl
  refine lv_iload_n hx hb d_Sn_showBytes_0 rfl (lv_at hl 2 rfl) ?_
  refine lv_istore (lv' := [(4, .int (nI f)), (0, .ref h), (1, .ref hr), (2, .int (nI f)), (3, .int (nI t))]) hx hb d_Sn_showBytes_1 hl (by decide) rfl (fun ls hl => ?_)
  have lp3 : ∀ (k : Nat) (i c9 : Nat) (H : Heap) (locs : List Loc) (ls : Array Slot), (i + k = t) → (i = f + c9) → (cnN b (t - f) f = c9 + cnN b k i) → va_P (dC, dI) vwCl [(h, .inr (2, [.ref a])), (a, .inl (cI, 11, .inl (nf b))), (hr, .inr (1, [.ref ar, .int (nI (n + c9))])), (ar, .inl (cI, 255, .inl (nf (apN v b n f c9))))] H → va_D A [(h, .inr (2, [.ref a])), (a, .inl (cI, 11, .inl (nf b))), (hr, .inr (1, [.ref ar, .int (nI (n + c9))])), (ar, .inl (cI, 255, .inl (nf (apN v b n f c9))))] → va_S A s.heap H locs → lv_has ls 5 [(0, .ref h), (1, .ref hr), (3, .int (nI t)), (4, .int (nI i))] → W p l e ({ frames := 1, cells := 0, slots := 0, locals := 21 } : Room) s m ([.ref h, .ref hr, .int (nI f), .int (nI t)] : List Value).toArray below meth c H locs 0 0 Q (F0 m 3 ls []) := by
    intro k
    induction k with
    | zero =>
      intro i c9 H locs ls hi hc hE hP hD hS hl
      refine lv_iload hx hb d_Sn_showBytes_3 (lv_at hl 3 rfl) ?_
      refine lv_iload_n hx hb d_Sn_showBytes_5 rfl (lv_at hl 2 rfl) ?_
      refine lv_icmp_ge (tgt := 37) hx hb d_Sn_showBytes_6 (by decide) (fun c_1 => ?_) (fun c_1 => ?_)
      · skip
        rw [nI_leI (by omega) (by omega)] at c_1
        have hw9 : ([(h, .inr (2, [.ref a])), (a, .inl (cI, 11, .inl (nf b))), (hr, .inr (1, [.ref ar, .int (nI (n + c9))])), (ar, .inl (cI, 255, .inl (nf (apN v b n f c9))))] : va_W) = [(h, .inr (2, [.ref a])), (a, .inl (cI, 11, .inl (nf b))), (hr, .inr (1, [.ref ar, .int (nI (n + cnN b (t - f) f))])), (ar, .inl (cI, 255, .inl (nf (apN v b n f (cnN b (t - f) f)))))] := by rw [show cnN b (t - f) f = c9 from (by rw [hE]; first | rfl | (rw [cnN, if_pos (by omega)]; rfl))]
        rw [hw9] at hP hD
        exact hret _ _ _ _ d_Sn_showBytes_37 hP hD hS
      · skip
        rw [nI_leI (by omega) (by omega)] at c_1
        first | omega | contradiction
    | succ k ih3 =>
      intro i c9 H locs ls hi hc hE hP hD hS hl
      refine lv_iload hx hb d_Sn_showBytes_3 (lv_at hl 3 rfl) ?_
      refine lv_iload_n hx hb d_Sn_showBytes_5 rfl (lv_at hl 2 rfl) ?_
      refine lv_icmp_ge (tgt := 37) hx hb d_Sn_showBytes_6 (by decide) (fun c_2 => ?_) (fun c_2 => ?_)
      · skip
        rw [nI_leI (by omega) (by omega)] at c_2
        first | omega | contradiction
      · skip
        rw [nI_leI (by omega) (by omega)] at c_2
        refine lv_aload_n hx hb d_Sn_showBytes_9 rfl (lv_at hl 0 rfl) ?_
        refine lv_iload hx hb d_Sn_showBytes_10 (lv_at hl 3 rfl) ?_
        refine mk_r1 (W.runV (As := [.int (nI i)]) (rest := []) S (c_Sn_get l dC dI cI h a b i (by first | assumption | omega) (by first | assumption | omega)) (gV 1 hts k_414 k_416 k_6 k_26 k_417 (by decide +kernel) ⟨Nat.le_of_ble_eq_true rfl, Nat.le_of_ble_eq_true rfl⟩) (mk_vR hP hK hT hS [0, 1] rfl (q0 := 0) (ci := 2) rfl rfl) rfl rfl hl.1 rfl (lv_room (Nat.le_of_ble_eq_true rfl)) d_Sn_showBytes_12 ⟨Nat.zero_le _, Nat.zero_le _⟩) ?_
        have b_3 := (show ∀ j9, b j9 < 65536 by assumption) i
        refine lv_bipush (v := nI 32) hx hb d_Sn_showBytes_15 (by decide) ?_
        refine lv_icmp_eq (tgt := 37) hx hb d_Sn_showBytes_17 (by decide) (fun c_4 => ?_) (fun c_4 => ?_)
        · skip
          rw [nI_eq (by omega) (by omega)] at c_4
          have hw9 : ([(h, .inr (2, [.ref a])), (a, .inl (cI, 11, .inl (nf b))), (hr, .inr (1, [.ref ar, .int (nI (n + c9))])), (ar, .inl (cI, 255, .inl (nf (apN v b n f c9))))] : va_W) = [(h, .inr (2, [.ref a])), (a, .inl (cI, 11, .inl (nf b))), (hr, .inr (1, [.ref ar, .int (nI (n + cnN b (t - f) f))])), (ar, .inl (cI, 255, .inl (nf (apN v b n f (cnN b (t - f) f)))))] := by rw [show cnN b (t - f) f = c9 from (by rw [hE]; first | rfl | (rw [cnN, if_pos (by omega)]; rfl))]
          rw [hw9] at hP hD
          exact hret _ _ _ _ d_Sn_showBytes_37 hP hD hS
        · skip
          rw [nI_eq (by omega) (by omega)] at c_4
          refine lv_aload_n hx hb d_Sn_showBytes_20 rfl (lv_at hl 1 rfl) ?_
          refine lv_aload_n hx hb d_Sn_showBytes_21 rfl (lv_at hl 0 rfl) ?_
          refine lv_iload hx hb d_Sn_showBytes_22 (lv_at hl 3 rfl) ?_
          refine mk_r1 (W.runV (As := [.int (nI i)]) (rest := [.ref hr]) S (c_Sn_get l dC dI cI h a b i (by first | assumption | omega) (by first | assumption | omega)) (gV 1 hts k_414 k_416 k_6 k_26 k_417 (by decide +kernel) ⟨Nat.le_of_ble_eq_true rfl, Nat.le_of_ble_eq_true rfl⟩) (mk_vR hP hK hT hS [0, 1] rfl (q0 := 0) (ci := 2) rfl rfl) rfl rfl hl.1 rfl (lv_room (Nat.le_of_ble_eq_true rfl)) d_Sn_showBytes_24 ⟨Nat.zero_le _, Nat.zero_le _⟩) ?_
          have b_5 := (show ∀ j9, b j9 < 65536 by assumption) i
          refine mk_w1 (wr := [(h, .inr (2, [.ref a])), (a, .inl (cI, 11, .inl (nf b)))]) (W.runV (As := [.int (nI (b i))]) (rest := []) S ((c_Ro_app l dC dI cI hr ar (n + c9) (apN v b n f c9) (b i) (by first | assumption | omega)) _) (gV 1 hts k_498 k_117 k_118 k_25 k_119 (by decide +kernel) ⟨Nat.le_of_ble_eq_true rfl, Nat.le_of_ble_eq_true rfl⟩) (mk_vM hP hD hK hT hS hA [2, 3] rfl rfl (by decide) (q0 := 2) (ci := 1) rfl rfl) rfl rfl hl.1 rfl (lv_room (Nat.le_of_ble_eq_true rfl)) d_Sn_showBytes_27 ⟨Nat.zero_le _, Nat.zero_le _⟩) hP hD hS hA [2, 3] [0, 1] rfl rfl (by decide) (by decide) (fun H locs hP hD hS => ?_)
          have hP : va_P (dC, dI) vwCl [(h, .inr (2, [.ref a])), (a, .inl (cI, 11, .inl (nf b))), (hr, .inr (1, [.ref ar, .int (nI ((n + c9) + 1))])), (ar, .inl (cI, 255, .inl (nf (uN (apN v b n f c9) (n + c9) (b i)))))] H := hP.sub [0, 1, 2, 3] rfl
          have hD : va_D A [(h, .inr (2, [.ref a])), (a, .inl (cI, 11, .inl (nf b))), (hr, .inr (1, [.ref ar, .int (nI ((n + c9) + 1))])), (ar, .inl (cI, 255, .inl (nf (uN (apN v b n f c9) (n + c9) (b i)))))] := hD.sub [0, 1, 2, 3] (by decide) rfl
          refine lv_pop hx hb d_Sn_showBytes_30 rfl ?_
          refine lv_iinc (v := nI (i + 1)) (lv' := [(4, .int (nI (i + 1))), (0, .ref h), (1, .ref hr), (3, .int (nI t))]) hx hb d_Sn_showBytes_31 hl (k := 3) rfl (mk_i1 i) (by decide) rfl (fun ls hl => ?_)
          refine lv_goto (tgt := 3) hx hb d_Sn_showBytes_34 (by decide) ?_
          have hl : lv_has ls 5 [(0, .ref h), (1, .ref hr), (3, .int (nI t)), (4, .int (nI (i + 1)))] := lv_sub hl [1, 2, 3, 0] rfl
          have hw9 : ([(h, .inr (2, [.ref a])), (a, .inl (cI, 11, .inl (nf b))), (hr, .inr (1, [.ref ar, .int (nI ((n + c9) + 1))])), (ar, .inl (cI, 255, .inl (nf (uN (apN v b n f c9) (n + c9) (b i)))))] : va_W) = [(h, .inr (2, [.ref a])), (a, .inl (cI, 11, .inl (nf b))), (hr, .inr (1, [.ref ar, .int (nI (n + (c9 + 1)))])), (ar, .inl (cI, 255, .inl (nf (apN v b n f (c9 + 1)))))] := by rw [hc, apN_s]; rfl
          rw [hw9] at hP hD
          exact ih3 (i + 1) (c9 + 1) _ _ _ (by omega) (by omega) (by rw [hE, cnN, if_neg (by omega)]; omega) hP hD hS hl
  have hl : lv_has ls 5 [(0, .ref h), (1, .ref hr), (3, .int (nI t)), (4, .int (nI f))] := lv_sub hl [1, 2, 4, 0] rfl
  have hw9 : ([(h, .inr (2, [.ref a])), (a, .inl (cI, 11, .inl (nf b))), (hr, .inr (1, [.ref ar, .int (nI n)])), (ar, .inl (cI, 255, .inl (nf v)))] : va_W) = [(h, .inr (2, [.ref a])), (a, .inl (cI, 11, .inl (nf b))), (hr, .inr (1, [.ref ar, .int (nI (n + 0))])), (ar, .inl (cI, 255, .inl (nf (apN v b n f 0))))] := by rw [apN_0]; rfl
  rw [hw9] at hP hD
  exact lp3 (t - f) f 0 _ _ _ (by omega) rfl (Nat.zero_add _).symm hP hD hS hl
end
section
set_option maxHeartbeats 4000000 in
set_option maxRecDepth 100000 in
theorem c_Sn_show (l : Launch) (dC : Nat → ClassId) (dI : Nat → Nat → Nat) (cI : ClassId) (h a : Nat) (b : Nat → Nat) (hr ar : Nat) (v : Nat → Nat) (hb9 : ∀ j, b j < 65536) : mM l y_Sn_showIn w_Sn_showIn ({ frames := 2, cells := 0, slots := 0, locals := 45 } : Room) [.ref h, .ref hr] (dC, dI) vwCl [(cI, .int)] [(h, .inr (2, [.ref a])), (a, .inl (cI, 11, .inl (nf b))), (hr, .inr (1, [.ref ar, .int (nI 0)])), (ar, .inl (cI, 255, .inl (nf v)))] none [(h, .inr (2, [.ref a])), (a, .inl (cI, 11, .inl (nf b))), (hr, .inr (1, [.ref ar, .int (nI (siC b))])), (ar, .inl (cI, 255, .inl (nf (siV v b))))] := by
  refine mk_Mv (cc := b_Sn_showIn) (maxL := 2) (by decide) rfl (Nat.le_of_ble_eq_true rfl) ?_
  intro p e s m below meth c Q A ls S hP hK hT hS hl hD hA hret
  obtain ⟨hx, hb, hml, hown, hts⟩ := id S
  have hl : lv_has ls 2 [(0, .ref h), (1, .ref hr)] := hl
  refine lv_aload_n hx hb d_Sn_showIn_0 rfl (lv_at hl 0 rfl) ?_
  refine lv_aload_n hx hb d_Sn_showIn_1 rfl (lv_at hl 1 rfl) ?_
  refine lv_iconst (v := nI 0) hx hb d_Sn_showIn_2 (by decide) ?_
  refine lv_bipush (v := nI 8) hx hb d_Sn_showIn_3 (by decide) ?_
  refine mk_w0 (wr := []) (W.runV (As := [.ref hr, .int (nI 0), .int (nI 8)]) (rest := []) S ((c_Sn_showB l dC dI cI h a b hr ar 0 v 0 8 (by first | assumption | omega) (by first | assumption | omega) (by first | assumption | omega) (by first | assumption | omega)) _) (gV 3 hts k_494 k_496 k_10 k_26 k_497 (by decide +kernel) ⟨Nat.le_of_ble_eq_true rfl, Nat.le_of_ble_eq_true rfl⟩) (mk_vM hP hD hK hT hS hA [0, 1, 2, 3] rfl rfl (by decide) (q0 := 0) (ci := 2) rfl rfl) rfl rfl hl.1 rfl (lv_room (Nat.le_of_ble_eq_true rfl)) d_Sn_showIn_5 ⟨Nat.zero_le _, Nat.zero_le _⟩) hP hD hS hA [0, 1, 2, 3] [] rfl rfl (by decide) (by decide) (fun H locs hP hD hS => ?_)
  have hP : va_P (dC, dI) vwCl [(h, .inr (2, [.ref a])), (a, .inl (cI, 11, .inl (nf b))), (hr, .inr (1, [.ref ar, .int (nI (0 + cnN b (8 - 0) 0))])), (ar, .inl (cI, 255, .inl (nf (apN v b 0 0 (cnN b (8 - 0) 0)))))] H := hP.sub [0, 1, 2, 3] rfl
  have hD : va_D A [(h, .inr (2, [.ref a])), (a, .inl (cI, 11, .inl (nf b))), (hr, .inr (1, [.ref ar, .int (nI (0 + cnN b (8 - 0) 0))])), (ar, .inl (cI, 255, .inl (nf (apN v b 0 0 (cnN b (8 - 0) 0)))))] := hD.sub [0, 1, 2, 3] (by decide) rfl
  have b_1 := cnN_le b (8 - 0) 0
  refine lv_aload_n hx hb d_Sn_showIn_8 rfl (lv_at hl 0 rfl) ?_
  refine lv_bipush (v := nI 8) hx hb d_Sn_showIn_9 (by decide) ?_
  refine mk_r1 (W.runV (As := [.int (nI 8)]) (rest := []) S (c_Sn_get l dC dI cI h a b 8 (by first | assumption | omega) (by first | assumption | omega)) (gV 1 hts k_414 k_416 k_6 k_26 k_417 (by decide +kernel) ⟨Nat.le_of_ble_eq_true rfl, Nat.le_of_ble_eq_true rfl⟩) (mk_vR hP hK hT hS [0, 1] rfl (q0 := 0) (ci := 2) rfl rfl) rfl rfl hl.1 rfl (lv_room (Nat.le_of_ble_eq_true rfl)) d_Sn_showIn_11 ⟨Nat.zero_le _, Nat.zero_le _⟩) ?_
  have b_2 := (show ∀ j9, b j9 < 65536 by assumption) 8
  refine lv_bipush (v := nI 32) hx hb d_Sn_showIn_14 (by decide) ?_
  refine lv_icmp_eq (tgt := 35) hx hb d_Sn_showIn_16 (by decide) (fun c_3 => ?_) (fun c_3 => ?_)
  · skip
    rw [nI_eq (by omega) (by omega)] at c_3
    have hw9 : ([(h, .inr (2, [.ref a])), (a, .inl (cI, 11, .inl (nf b))), (hr, .inr (1, [.ref ar, .int (nI (0 + cnN b (8 - 0) 0))])), (ar, .inl (cI, 255, .inl (nf (apN v b 0 0 (cnN b (8 - 0) 0)))))] : va_W) = [(h, .inr (2, [.ref a])), (a, .inl (cI, 11, .inl (nf b))), (hr, .inr (1, [.ref ar, .int (nI (siC b))])), (ar, .inl (cI, 255, .inl (nf (siV v b))))] := by simp only [siC, siV, c_3, if_true, if_false, Nat.zero_add, Nat.sub_zero, Nat.reduceSub]
    rw [hw9] at hP hD
    exact hret _ _ _ _ d_Sn_showIn_35 hP hD hS
  · skip
    rw [nI_eq (by omega) (by omega)] at c_3
    refine lv_aload_n hx hb d_Sn_showIn_19 rfl (lv_at hl 1 rfl) ?_
    refine lv_bipush (v := nI 46) hx hb d_Sn_showIn_20 (by decide) ?_
    refine mk_w1 (wr := [(h, .inr (2, [.ref a])), (a, .inl (cI, 11, .inl (nf b)))]) (W.runV (As := [.int (nI 46)]) (rest := []) S ((c_Ro_app l dC dI cI hr ar (0 + cnN b (8 - 0) 0) (apN v b 0 0 (cnN b (8 - 0) 0)) 46 (by first | assumption | omega)) _) (gV 1 hts k_498 k_117 k_118 k_25 k_119 (by decide +kernel) ⟨Nat.le_of_ble_eq_true rfl, Nat.le_of_ble_eq_true rfl⟩) (mk_vM hP hD hK hT hS hA [2, 3] rfl rfl (by decide) (q0 := 2) (ci := 1) rfl rfl) rfl rfl hl.1 rfl (lv_room (Nat.le_of_ble_eq_true rfl)) d_Sn_showIn_22 ⟨Nat.zero_le _, Nat.zero_le _⟩) hP hD hS hA [2, 3] [0, 1] rfl rfl (by decide) (by decide) (fun H locs hP hD hS => ?_)
    have hP : va_P (dC, dI) vwCl [(h, .inr (2, [.ref a])), (a, .inl (cI, 11, .inl (nf b))), (hr, .inr (1, [.ref ar, .int (nI ((0 + cnN b (8 - 0) 0) + 1))])), (ar, .inl (cI, 255, .inl (nf (uN (apN v b 0 0 (cnN b (8 - 0) 0)) (0 + cnN b (8 - 0) 0) 46))))] H := hP.sub [0, 1, 2, 3] rfl
    have hD : va_D A [(h, .inr (2, [.ref a])), (a, .inl (cI, 11, .inl (nf b))), (hr, .inr (1, [.ref ar, .int (nI ((0 + cnN b (8 - 0) 0) + 1))])), (ar, .inl (cI, 255, .inl (nf (uN (apN v b 0 0 (cnN b (8 - 0) 0)) (0 + cnN b (8 - 0) 0) 46))))] := hD.sub [0, 1, 2, 3] (by decide) rfl
    refine lv_pop hx hb d_Sn_showIn_25 rfl ?_
    refine lv_aload_n hx hb d_Sn_showIn_26 rfl (lv_at hl 0 rfl) ?_
    refine lv_aload_n hx hb d_Sn_showIn_27 rfl (lv_at hl 1 rfl) ?_
    refine lv_bipush (v := nI 8) hx hb d_Sn_showIn_28 (by decide) ?_
    refine lv_bipush (v := nI 11) hx hb d_Sn_showIn_30 (by decide) ?_
    refine mk_w0 (wr := []) (W.runV (As := [.ref hr, .int (nI 8), .int (nI 11)]) (rest := []) S ((c_Sn_showB l dC dI cI h a b hr ar ((0 + cnN b (8 - 0) 0) + 1) (uN (apN v b 0 0 (cnN b (8 - 0) 0)) (0 + cnN b (8 - 0) 0) 46) 8 11 (by first | assumption | omega) (by first | assumption | omega) (by first | assumption | omega) (by first | assumption | omega)) _) (gV 3 hts k_494 k_496 k_10 k_26 k_497 (by decide +kernel) ⟨Nat.le_of_ble_eq_true rfl, Nat.le_of_ble_eq_true rfl⟩) (mk_vM hP hD hK hT hS hA [0, 1, 2, 3] rfl rfl (by decide) (q0 := 0) (ci := 2) rfl rfl) rfl rfl hl.1 rfl (lv_room (Nat.le_of_ble_eq_true rfl)) d_Sn_showIn_32 ⟨Nat.zero_le _, Nat.zero_le _⟩) hP hD hS hA [0, 1, 2, 3] [] rfl rfl (by decide) (by decide) (fun H locs hP hD hS => ?_)
    have hP : va_P (dC, dI) vwCl [(h, .inr (2, [.ref a])), (a, .inl (cI, 11, .inl (nf b))), (hr, .inr (1, [.ref ar, .int (nI (((0 + cnN b (8 - 0) 0) + 1) + cnN b (11 - 8) 8))])), (ar, .inl (cI, 255, .inl (nf (apN (uN (apN v b 0 0 (cnN b (8 - 0) 0)) (0 + cnN b (8 - 0) 0) 46) b ((0 + cnN b (8 - 0) 0) + 1) 8 (cnN b (11 - 8) 8)))))] H := hP.sub [0, 1, 2, 3] rfl
    have hD : va_D A [(h, .inr (2, [.ref a])), (a, .inl (cI, 11, .inl (nf b))), (hr, .inr (1, [.ref ar, .int (nI (((0 + cnN b (8 - 0) 0) + 1) + cnN b (11 - 8) 8))])), (ar, .inl (cI, 255, .inl (nf (apN (uN (apN v b 0 0 (cnN b (8 - 0) 0)) (0 + cnN b (8 - 0) 0) 46) b ((0 + cnN b (8 - 0) 0) + 1) 8 (cnN b (11 - 8) 8)))))] := hD.sub [0, 1, 2, 3] (by decide) rfl
    have b_4 := cnN_le b (11 - 8) 8
    have hw9 : ([(h, .inr (2, [.ref a])), (a, .inl (cI, 11, .inl (nf b))), (hr, .inr (1, [.ref ar, .int (nI (((0 + cnN b (8 - 0) 0) + 1) + cnN b (11 - 8) 8))])), (ar, .inl (cI, 255, .inl (nf (apN (uN (apN v b 0 0 (cnN b (8 - 0) 0)) (0 + cnN b (8 - 0) 0) 46) b ((0 + cnN b (8 - 0) 0) + 1) 8 (cnN b (11 - 8) 8)))))] : va_W) = [(h, .inr (2, [.ref a])), (a, .inl (cI, 11, .inl (nf b))), (hr, .inr (1, [.ref ar, .int (nI (siC b))])), (ar, .inl (cI, 255, .inl (nf (siV v b))))] := by simp only [siC, siV, c_3, if_true, if_false, Nat.zero_add, Nat.sub_zero, Nat.reduceSub]
    rw [hw9] at hP hD
    exact hret _ _ _ _ d_Sn_showIn_35 hP hD hS
end
section
set_option maxHeartbeats 4000000 in
set_option maxRecDepth 100000 in
theorem c_Pt_set (l : Launch) (dC : Nat → ClassId) (dI : Nat → Nat → Nat) (cI : ClassId) (h a : Nat) (b : Nat → Nat) (j x : Nat) (hj : j < 32) : mM l y_Pt_set w_Pt_set ({ frames := 0, cells := 0, slots := 0, locals := 0 } : Room) [.ref h, .int (nI j), .int (nI x)] (dC, dI) vwCl [(cI, .int)] [(h, .inr (3, [.ref a])), (a, .inl (cI, 32, .inl (nf b)))] none [(h, .inr (3, [.ref a])), (a, .inl (cI, 32, .inl (nf (uN b j x))))] := by
  refine mk_Mv (cc := b_Pt_set) (maxL := 3) (by decide) rfl (Nat.le_of_ble_eq_true rfl) ?_
  intro p e s m below meth c Q A ls S hP hK hT hS hl hD hA hret
  obtain ⟨hx, hb, hml, hown, hts⟩ := id S
  have hl : lv_has ls 3 [(0, .ref h), (1, .int (nI j)), (2, .int (nI x))] := hl
  refine lv_iload_n hx hb d_Pt_set_0 rfl (lv_at hl 1 rfl) ?_
  refine lv_if_lt (tgt := 17) hx hb d_Pt_set_1 (by decide) (fun c_1 => ?_) (fun c_1 => ?_)
  · skip
    rw [mk_clt (by omega)] at c_1
    first | omega | contradiction
  · skip
    rw [mk_clt (by omega)] at c_1
    refine lv_iload_n hx hb d_Pt_set_4 rfl (lv_at hl 1 rfl) ?_
    refine lv_bipush (v := nI 32) hx hb d_Pt_set_5 (by decide) ?_
    refine lv_icmp_ge (tgt := 17) hx hb d_Pt_set_7 (by decide) (fun c_2 => ?_) (fun c_2 => ?_)
    · skip
      rw [nI_leI (by omega) (by omega)] at c_2
      first | omega | contradiction
    · skip
      rw [nI_leI (by omega) (by omega)] at c_2
      refine lv_aload_n hx hb d_Pt_set_10 rfl (lv_at hl 0 rfl) ?_
      refine va_get (D := (dC, dI)) (ci := 3) (v := .ref a) (C := "LongNames$Part") (T := F_Pt) (N := 1) hx hb hts (iw_Pt _) hown hK hP 0 rfl rfl 0 (by decide) (hts _ (List.mem_cons_of_mem _ k_77)) (fun _ h9 => h9) rfl d_Pt_set_11 ?_
      refine lv_iload_n hx hb d_Pt_set_14 rfl (lv_at hl 1 rfl) ?_
      refine lv_iload_n hx hb d_Pt_set_15 rfl (lv_at hl 2 rfl) ?_
      refine va_iast hx hb hK hP hD hS 1 0 rfl rfl (vp_in_nI (N := 32) (show j < 32 by omega) (by decide)) d_Pt_set_16 (fun H locs hP hD hS => ?_)
      rw [nI_clamp (by omega), nf_up] at hP hD
      have hP : va_P (dC, dI) vwCl [(h, .inr (3, [.ref a])), (a, .inl (cI, 32, .inl (nf (uN b j x))))] H := hP
      have hD : va_D A [(h, .inr (3, [.ref a])), (a, .inl (cI, 32, .inl (nf (uN b j x))))] := hD
      exact hret _ _ _ _ d_Pt_set_17 hP hD hS

set_option maxHeartbeats 4000000 in
set_option maxRecDepth 100000 in
theorem c_Pt_get (l : Launch) (dC : Nat → ClassId) (dI : Nat → Nat → Nat) (cI : ClassId) (h a : Nat) (b : Nat → Nat) (j : Nat) (hb9 : ∀ j, b j < 65536) (hj : j < 32) : mR l y_Pt_get w_Pt_get ({ frames := 0, cells := 0, slots := 0, locals := 0 } : Room) [.ref h, .int (nI j)] (dC, dI) vwCl [(cI, .int)] [(h, .inr (3, [.ref a])), (a, .inl (cI, 32, .inl (nf b)))] (some (.int (nI (b j)))) := by
  refine mk_Ri (cc := b_Pt_get) (maxL := 2) (by decide) rfl (Nat.le_of_ble_eq_true rfl) rfl ?_
  intro p e s m below meth c Q A ls S hP hK hT hS hl hret
  obtain ⟨hx, hb, hml, hown, hts⟩ := id S
  have hl : lv_has ls 2 [(0, .ref h), (1, .int (nI j))] := hl
  refine lv_iload_n hx hb d_Pt_get_0 rfl (lv_at hl 1 rfl) ?_
  refine lv_if_lt (tgt := 19) hx hb d_Pt_get_1 (by decide) (fun c_1 => ?_) (fun c_1 => ?_)
  · skip
    rw [mk_clt (by omega)] at c_1
    first | omega | contradiction
  · skip
    rw [mk_clt (by omega)] at c_1
    refine lv_iload_n hx hb d_Pt_get_4 rfl (lv_at hl 1 rfl) ?_
    refine lv_bipush (v := nI 32) hx hb d_Pt_get_5 (by decide) ?_
    refine lv_icmp_ge (tgt := 19) hx hb d_Pt_get_7 (by decide) (fun c_2 => ?_) (fun c_2 => ?_)
    · skip
      rw [nI_leI (by omega) (by omega)] at c_2
      first | omega | contradiction
    · skip
      rw [nI_leI (by omega) (by omega)] at c_2
      refine lv_aload_n hx hb d_Pt_get_10 rfl (lv_at hl 0 rfl) ?_
      refine va_get (D := (dC, dI)) (ci := 3) (v := .ref a) (C := "LongNames$Part") (T := F_Pt) (N := 1) hx hb hts (iw_Pt _) hown hK hP 0 rfl rfl 0 (by decide) (hts _ (List.mem_cons_of_mem _ k_77)) (fun _ h9 => h9) rfl d_Pt_get_11 ?_
      refine lv_iload_n hx hb d_Pt_get_14 rfl (lv_at hl 1 rfl) ?_
      refine va_iald hx hb hK hP 1 0 rfl rfl (vp_in_nI (N := 32) (show j < 32 by omega) (by decide)) d_Pt_get_15 ?_
      refine mk_ti (y := nI (b j)) (by rw [nI_clamp (by omega)]; rfl) ?_
      have b_3 := hb9 j
      refine lv_goto (tgt := 20) hx hb d_Pt_get_16 (by decide) ?_
      exact hret _ _ d_Pt_get_20

set_option maxHeartbeats 4000000 in
set_option maxRecDepth 100000 in
theorem c_Pt_place (l : Launch) (dC : Nat → ClassId) (dI : Nat → Nat → Nat) (cI : ClassId) (j : Nat) (hj : j < 13) : mR l y_Pt_placeOf w_Pt_placeOf ({ frames := 0, cells := 0, slots := 0, locals := 0 } : Room) [.int (nI j)] (dC, dI) vwCl [(cI, .int)] [] (some (.int (nI (plN j)))) := by
  refine mk_Ri (cc := b_Pt_placeOf) (maxL := 1) (by decide) rfl (Nat.le_of_ble_eq_true rfl) rfl ?_
  intro p e s m below meth c Q A ls S hP hK hT hS hl hret
  obtain ⟨hx, hb, hml, hown, hts⟩ := id S
  have hl : lv_has ls 1 [(0, .int (nI j))] := hl
  refine lv_iload_n hx hb d_Pt_placeOf_0 rfl (lv_at hl 0 rfl) ?_
  refine lv_if_lt (tgt := 20) hx hb d_Pt_placeOf_1 (by decide) (fun c_1 => ?_) (fun c_1 => ?_)
  · skip
    rw [mk_clt (by omega)] at c_1
    first | omega | contradiction
  · skip
    rw [mk_clt (by omega)] at c_1
    refine lv_iload_n hx hb d_Pt_placeOf_4 rfl (lv_at hl 0 rfl) ?_
    obtain ⟨tP, tM, hZP, hTP, hZM, hTM⟩ := hT.tabs
    refine va_gets (v := .ref tP) hx hb hZP hS hown (hts _ (List.mem_cons_of_mem _ k_438)) (fun _ h9 => h9) d_Pt_placeOf_5 ?_
    refine va_tlen hx hb hTP hS (v := nI 13) rfl d_Pt_placeOf_8 ?_
    refine lv_icmp_ge (tgt := 20) hx hb d_Pt_placeOf_9 (by decide) (fun c_2 => ?_) (fun c_2 => ?_)
    · skip
      rw [nI_leI (by omega) (by omega)] at c_2
      first | omega | contradiction
    · skip
      rw [nI_leI (by omega) (by omega)] at c_2
      refine va_gets (v := .ref tP) hx hb hZP hS hown (hts _ (List.mem_cons_of_mem _ k_438)) (fun _ h9 => h9) d_Pt_placeOf_12 ?_
      refine lv_iload_n hx hb d_Pt_placeOf_15 rfl (lv_at hl 0 rfl) ?_
      refine va_ti hx hb hTP hS (vp_in_nI (N := 13) (show j < 13 by omega) (by decide)) (v := .int (nI (plN j))) (by simp only [nI_clamp (show j < 2 ^ 31 by omega)]) d_Pt_placeOf_16 ?_
      refine lv_goto (tgt := 21) hx hb d_Pt_placeOf_17 (by decide) ?_
      exact hret _ _ d_Pt_placeOf_21

set_option maxHeartbeats 4000000 in
set_option maxRecDepth 100000 in
theorem c_Pt_uf (l : Launch) (dC : Nat → ClassId) (dI : Nat → Nat → Nat) (cI : ClassId) (hr ar n : Nat) (v : Nat → Nat) (j : Nat) (hn : n ≤ 255) (hv : ∀ j, v j < 65536) (hj : j < 2 ^ 31) : mR l y_Pt_unitOrFill w_Pt_unitOrFill ({ frames := 1, cells := 0, slots := 0, locals := 21 } : Room) [.ref hr, .int (nI j)] (dC, dI) vwCl [(cI, .int)] [(hr, .inr (1, [.ref ar, .int (nI n)])), (ar, .inl (cI, 255, .inl (nf v)))] (some (.int (nI (ufN v n j)))) := by
  refine mk_Ri (cc := b_Pt_unitOrFill) (maxL := 2) (by decide) rfl (Nat.le_of_ble_eq_true rfl) rfl ?_
  intro p e s m below meth c Q A ls S hP hK hT hS hl hret
  obtain ⟨hx, hb, hml, hown, hts⟩ := id S
  have hl : lv_has ls 2 [(0, .ref hr), (1, .int (nI j))] := hl
  refine lv_iload_n hx hb d_Pt_unitOrFill_0 rfl (lv_at hl 1 rfl) ?_
  refine lv_aload_n hx hb d_Pt_unitOrFill_1 rfl (lv_at hl 0 rfl) ?_
  refine mk_r1 (W.runV (As := []) (rest := [.int (nI j)]) S (c_Ro_size l dC dI cI hr ar n v) (gV 0 hts k_432 k_125 k_126 k_25 k_127 (by decide +kernel) ⟨Nat.le_of_ble_eq_true rfl, Nat.le_of_ble_eq_true rfl⟩) (mk_vR hP hK hT hS [0, 1] rfl (q0 := 0) (ci := 1) rfl rfl) rfl rfl hl.1 rfl (lv_room (Nat.le_of_ble_eq_true rfl)) d_Pt_unitOrFill_2 ⟨Nat.zero_le _, Nat.zero_le _⟩) ?_
  refine lv_icmp_ge (tgt := 14) hx hb d_Pt_unitOrFill_5 (by decide) (fun c_1 => ?_) (fun c_1 => ?_)
  · skip
    rw [nI_leI (by omega) (by omega)] at c_1
    refine lv_iload_n hx hb d_Pt_unitOrFill_14 rfl (lv_at hl 1 rfl) ?_
    refine lv_aload_n hx hb d_Pt_unitOrFill_15 rfl (lv_at hl 0 rfl) ?_
    refine mk_r1 (W.runV (As := []) (rest := [.int (nI j)]) S (c_Ro_size l dC dI cI hr ar n v) (gV 0 hts k_432 k_125 k_126 k_25 k_127 (by decide +kernel) ⟨Nat.le_of_ble_eq_true rfl, Nat.le_of_ble_eq_true rfl⟩) (mk_vR hP hK hT hS [0, 1] rfl (q0 := 0) (ci := 1) rfl rfl) rfl rfl hl.1 rfl (lv_room (Nat.le_of_ble_eq_true rfl)) d_Pt_unitOrFill_16 ⟨Nat.zero_le _, Nat.zero_le _⟩) ?_
    refine lv_icmp_ne (tgt := 26) hx hb d_Pt_unitOrFill_19 (by decide) (fun c_2 => ?_) (fun c_2 => ?_)
    · skip
      rw [nI_eq (by omega) (by omega)] at c_2
      refine lv_ldc (v := nI 65535) hx hb hown (hts _ (List.mem_cons_of_mem _ k_434)) d_Pt_unitOrFill_26 ?_
      exact mk_ti (by congr 1; unfold ufN; (repeat' split) <;> first | rfl | omega) (hret _ _ d_Pt_unitOrFill_28)
    · skip
      rw [nI_eq (by omega) (by omega)] at c_2
      refine lv_iconst (v := nI 0) hx hb d_Pt_unitOrFill_22 (by decide) ?_
      refine lv_goto (tgt := 28) hx hb d_Pt_unitOrFill_23 (by decide) ?_
      exact mk_ti (by congr 1; unfold ufN; (repeat' split) <;> first | rfl | omega) (hret _ _ d_Pt_unitOrFill_28)
  · skip
    rw [nI_leI (by omega) (by omega)] at c_1
    refine lv_aload_n hx hb d_Pt_unitOrFill_8 rfl (lv_at hl 0 rfl) ?_
    refine lv_iload_n hx hb d_Pt_unitOrFill_9 rfl (lv_at hl 1 rfl) ?_
    refine mk_r1 (W.runV (As := [.int (nI j)]) (rest := []) S (c_Ro_get l dC dI cI hr ar n v j (by first | assumption | omega) (by first | assumption | omega) (by first | assumption | omega)) (gV 1 hts k_433 k_141 k_142 k_25 k_143 (by decide +kernel) ⟨Nat.le_of_ble_eq_true rfl, Nat.le_of_ble_eq_true rfl⟩) (mk_vR hP hK hT hS [0, 1] rfl (q0 := 0) (ci := 1) rfl rfl) rfl rfl hl.1 rfl (lv_room (Nat.le_of_ble_eq_true rfl)) d_Pt_unitOrFill_10 ⟨Nat.zero_le _, Nat.zero_le _⟩) ?_
    have b_3 := (show ∀ j9, v j9 < 65536 by assumption) j
    exact mk_ti (by congr 1; unfold ufN; (repeat' split) <;> first | rfl | omega) (hret _ _ d_Pt_unitOrFill_13)

set_option maxHeartbeats 4000000 in
set_option maxRecDepth 100000 in
theorem c_Pt_build (l : Launch) (dC : Nat → ClassId) (dI : Nat → Nat → Nat) (cI : ClassId) (h a : Nat) (b : Nat → Nat) (hr ar n : Nat) (v : Nat → Nat) (q su : Nat) (hn : n ≤ 255) (hv : ∀ j, v j < 65536) (hq : 1 ≤ q ∧ q < 100) (hs : su < 256) : mM l y_Pt_build w_Pt_build ({ frames := 2, cells := 0, slots := 0, locals := 42 } : Room) [.ref h, .ref hr, .int (nI q), .int (nI su)] (dC, dI) vwCl [(cI, .int)] [(h, .inr (3, [.ref a])), (a, .inl (cI, 32, .inl (nf b))), (hr, .inr (1, [.ref ar, .int (nI n)])), (ar, .inl (cI, 255, .inl (nf v)))] none [(h, .inr (3, [.ref a])), (a, .inl (cI, 32, .inl (nf (bdN v n q su b)))), (hr, .inr (1, [.ref ar, .int (nI n)])), (ar, .inl (cI, 255, .inl (nf v)))] := by
  refine mk_Mv (cc := b_Pt_build) (maxL := 6) (by decide) rfl (Nat.le_of_ble_eq_true rfl) ?_
  intro p e s m below meth c Q A ls S hP hK hT hS hl hD hA hret
  obtain ⟨hx, hb, hml, hown, hts⟩ := id S
  have hl : lv_has ls 6 [(0, .ref h), (1, .ref hr), (2, .int (nI q)), (3, .int (nI su))] := hl
  refine lv_aload_n hx hb d_Pt_build_0 rfl (lv_at hl 0 rfl) ?_
  refine va_get (D := (dC, dI)) (ci := 3) (v := .ref a) (C := "LongNames$Part") (T := F_Pt) (N := 1) hx hb hts (iw_Pt _) hown hK hP 0 rfl rfl 0 (by decide) (hts _ (List.mem_cons_of_mem _ k_77)) (fun _ h9 => h9) rfl d_Pt_build_1 ?_
  refine lv_iconst (v := nI 0) hx hb d_Pt_build_4 (by decide) ?_
  refine mk_w0 (wr := [(h, .inr (3, [.ref a])), (hr, .inr (1, [.ref ar, .int (nI n)])), (ar, .inl (cI, 255, .inl (nf v)))]) (W.runS (As := [.ref a, .int (nI 0)]) (rest := []) S ((c_Ar_fill32 l dC dI cI a b 0) _) (gS 2 hts k_423 k_377 k_36 k_378 (by decide +kernel) ⟨Nat.le_of_ble_eq_true rfl, Nat.le_of_ble_eq_true rfl⟩) (mk_sM hP hD hK hT hS hA [1] rfl rfl (by decide)) rfl rfl hl.1 rfl (lv_room (Nat.le_of_ble_eq_true rfl)) d_Pt_build_5 ⟨Nat.zero_le _, Nat.zero_le _⟩) hP hD hS hA [1] [0, 2, 3] rfl rfl (by decide) (by decide) (fun H locs hP hD hS => ?_)
  have hP : va_P (dC, dI) vwCl [(h, .inr (3, [.ref a])), (a, .inl (cI, 32, .inl (nf (fiN b 0 32)))), (hr, .inr (1, [.ref ar, .int (nI n)])), (ar, .inl (cI, 255, .inl (nf v)))] H := hP.sub [0, 3, 1, 2] rfl
  have hD : va_D A [(h, .inr (3, [.ref a])), (a, .inl (cI, 32, .inl (nf (fiN b 0 32)))), (hr, .inr (1, [.ref ar, .int (nI n)])), (ar, .inl (cI, 255, .inl (nf v)))] := hD.sub [0, 3, 1, 2] (by decide) rfl
  refine lv_aload_n hx hb d_Pt_build_8 rfl (lv_at hl 0 rfl) ?_
  refine lv_iconst (v := nI 0) hx hb d_Pt_build_9 (by decide) ?_
  refine lv_iload_n hx hb d_Pt_build_10 rfl (lv_at hl 2 rfl) ?_
  refine lv_aload_n hx hb d_Pt_build_11 rfl (lv_at hl 1 rfl) ?_
  refine mk_r1 (W.runV (As := []) (rest := [.int (nI q), .int (nI 0), .ref h]) S (c_Ro_parts l dC dI cI hr ar n v (by first | assumption | omega)) (gV 0 hts k_424 k_162 k_163 k_25 k_164 (by decide +kernel) ⟨Nat.le_of_ble_eq_true rfl, Nat.le_of_ble_eq_true rfl⟩) (mk_vR hP hK hT hS [2, 3] rfl (q0 := 2) (ci := 1) rfl rfl) rfl rfl hl.1 rfl (lv_room (Nat.le_of_ble_eq_true rfl)) d_Pt_build_12 ⟨Nat.zero_le _, Nat.zero_le _⟩) ?_
  have b_1 := pnN_le (show n ≤ 255 by omega)
  refine lv_icmp_ne (tgt := 25) hx hb d_Pt_build_15 (by decide) (fun c_2 => ?_) (fun c_2 => ?_)
  · skip
    rw [nI_eq (by omega) (by omega)] at c_2
    refine lv_iload_n hx hb d_Pt_build_25 rfl (lv_at hl 2 rfl) ?_
    refine mk_w0 (wr := [(hr, .inr (1, [.ref ar, .int (nI n)])), (ar, .inl (cI, 255, .inl (nf v)))]) (W.runV (As := [.int (nI 0), .int (nI q)]) (rest := []) S ((c_Pt_set l dC dI cI h a (fiN b 0 32) 0 q (by first | assumption | omega)) _) (gV 2 hts k_425 k_427 k_7 k_27 k_428 (by decide +kernel) ⟨Nat.le_of_ble_eq_true rfl, Nat.le_of_ble_eq_true rfl⟩) (mk_vM hP hD hK hT hS hA [0, 1] rfl rfl (by decide) (q0 := 0) (ci := 3) rfl rfl) rfl rfl hl.1 rfl (lv_room (Nat.le_of_ble_eq_true rfl)) d_Pt_build_26 ⟨Nat.zero_le _, Nat.zero_le _⟩) hP hD hS hA [0, 1] [2, 3] rfl rfl (by decide) (by decide) (fun H locs hP hD hS => ?_)
    have hP : va_P (dC, dI) vwCl [(h, .inr (3, [.ref a])), (a, .inl (cI, 32, .inl (nf (uN (fiN b 0 32) 0 q)))), (hr, .inr (1, [.ref ar, .int (nI n)])), (ar, .inl (cI, 255, .inl (nf v)))] H := hP.sub [2, 3, 0, 1] rfl
    have hD : va_D A [(h, .inr (3, [.ref a])), (a, .inl (cI, 32, .inl (nf (uN (fiN b 0 32) 0 q)))), (hr, .inr (1, [.ref ar, .int (nI n)])), (ar, .inl (cI, 255, .inl (nf v)))] := hD.sub [2, 3, 0, 1] (by decide) rfl
    refine lv_aload_n hx hb d_Pt_build_29 rfl (lv_at hl 0 rfl) ?_
    refine lv_bipush (v := nI 11) hx hb d_Pt_build_30 (by decide) ?_
    refine lv_bipush (v := nI 15) hx hb d_Pt_build_32 (by decide) ?_
    refine mk_w0 (wr := [(hr, .inr (1, [.ref ar, .int (nI n)])), (ar, .inl (cI, 255, .inl (nf v)))]) (W.runV (As := [.int (nI 11), .int (nI 15)]) (rest := []) S ((c_Pt_set l dC dI cI h a (uN (fiN b 0 32) 0 q) 11 15 (by first | assumption | omega)) _) (gV 2 hts k_425 k_427 k_7 k_27 k_428 (by decide +kernel) ⟨Nat.le_of_ble_eq_true rfl, Nat.le_of_ble_eq_true rfl⟩) (mk_vM hP hD hK hT hS hA [0, 1] rfl rfl (by decide) (q0 := 0) (ci := 3) rfl rfl) rfl rfl hl.1 rfl (lv_room (Nat.le_of_ble_eq_true rfl)) d_Pt_build_34 ⟨Nat.zero_le _, Nat.zero_le _⟩) hP hD hS hA [0, 1] [2, 3] rfl rfl (by decide) (by decide) (fun H locs hP hD hS => ?_)
    have hP : va_P (dC, dI) vwCl [(h, .inr (3, [.ref a])), (a, .inl (cI, 32, .inl (nf (uN (uN (fiN b 0 32) 0 q) 11 15)))), (hr, .inr (1, [.ref ar, .int (nI n)])), (ar, .inl (cI, 255, .inl (nf v)))] H := hP.sub [2, 3, 0, 1] rfl
    have hD : va_D A [(h, .inr (3, [.ref a])), (a, .inl (cI, 32, .inl (nf (uN (uN (fiN b 0 32) 0 q) 11 15)))), (hr, .inr (1, [.ref ar, .int (nI n)])), (ar, .inl (cI, 255, .inl (nf v)))] := hD.sub [2, 3, 0, 1] (by decide) rfl
    refine lv_aload_n hx hb d_Pt_build_37 rfl (lv_at hl 0 rfl) ?_
    refine lv_bipush (v := nI 13) hx hb d_Pt_build_38 (by decide) ?_
    refine lv_iload_n hx hb d_Pt_build_40 rfl (lv_at hl 3 rfl) ?_
    refine mk_w0 (wr := [(hr, .inr (1, [.ref ar, .int (nI n)])), (ar, .inl (cI, 255, .inl (nf v)))]) (W.runV (As := [.int (nI 13), .int (nI su)]) (rest := []) S ((c_Pt_set l dC dI cI h a (uN (uN (fiN b 0 32) 0 q) 11 15) 13 su (by first | assumption | omega)) _) (gV 2 hts k_425 k_427 k_7 k_27 k_428 (by decide +kernel) ⟨Nat.le_of_ble_eq_true rfl, Nat.le_of_ble_eq_true rfl⟩) (mk_vM hP hD hK hT hS hA [0, 1] rfl rfl (by decide) (q0 := 0) (ci := 3) rfl rfl) rfl rfl hl.1 rfl (lv_room (Nat.le_of_ble_eq_true rfl)) d_Pt_build_41 ⟨Nat.zero_le _, Nat.zero_le _⟩) hP hD hS hA [0, 1] [2, 3] rfl rfl (by decide) (by decide) (fun H locs hP hD hS => ?_)
    have hP : va_P (dC, dI) vwCl [(h, .inr (3, [.ref a])), (a, .inl (cI, 32, .inl (nf (uN (uN (uN (fiN b 0 32) 0 q) 11 15) 13 su)))), (hr, .inr (1, [.ref ar, .int (nI n)])), (ar, .inl (cI, 255, .inl (nf v)))] H := hP.sub [2, 3, 0, 1] rfl
    have hD : va_D A [(h, .inr (3, [.ref a])), (a, .inl (cI, 32, .inl (nf (uN (uN (uN (fiN b 0 32) 0 q) 11 15) 13 su)))), (hr, .inr (1, [.ref ar, .int (nI n)])), (ar, .inl (cI, 255, .inl (nf v)))] := hD.sub [2, 3, 0, 1] (by decide) rfl
    refine lv_iconst (v := nI 0) hx hb d_Pt_build_44 (by decide) ?_
    refine lv_istore (lv' := [(4, .int (nI 0)), (0, .ref h), (1, .ref hr), (2, .int (nI q)), (3, .int (nI su))]) hx hb d_Pt_build_45 hl (by decide) rfl (fun ls hl => ?_)
    have lp47 : ∀ (k : Nat) (i : Nat) (H : Heap) (locs : List Loc) (ls : Array Slot), (i + k = 13) → va_P (dC, dI) vwCl [(h, .inr (3, [.ref a])), (a, .inl (cI, 32, .inl (nf (bdL v n q (uN (uN (uN (fiN b 0 32) 0 (if q = pnN n then q + 64 else q)) 11 15) 13 su) i)))), (hr, .inr (1, [.ref ar, .int (nI n)])), (ar, .inl (cI, 255, .inl (nf v)))] H → va_D A [(h, .inr (3, [.ref a])), (a, .inl (cI, 32, .inl (nf (bdL v n q (uN (uN (uN (fiN b 0 32) 0 (if q = pnN n then q + 64 else q)) 11 15) 13 su) i)))), (hr, .inr (1, [.ref ar, .int (nI n)])), (ar, .inl (cI, 255, .inl (nf v)))] → va_S A s.heap H locs → lv_has ls 6 [(0, .ref h), (1, .ref hr), (2, .int (nI q)), (4, .int (nI i))] → W p l e ({ frames := 2, cells := 0, slots := 0, locals := 42 } : Room) s m ([.ref h, .ref hr, .int (nI q), .int (nI su)] : List Value).toArray below meth c H locs 0 0 Q (F0 m 47 ls []) := by
      intro k
      induction k with
      | zero =>
        intro i H locs ls hi hP hD hS hl
        refine lv_iload hx hb d_Pt_build_47 (lv_at hl 3 rfl) ?_
        refine lv_bipush (v := nI 13) hx hb d_Pt_build_49 (by decide) ?_
        refine lv_icmp_ge (tgt := 106) hx hb d_Pt_build_51 (by decide) (fun c_3 => ?_) (fun c_3 => ?_)
        · skip
          rw [nI_leI (by omega) (by omega)] at c_3
          have hw9 : ([(h, .inr (3, [.ref a])), (a, .inl (cI, 32, .inl (nf (bdL v n q (uN (uN (uN (fiN b 0 32) 0 (if q = pnN n then q + 64 else q)) 11 15) 13 su) i)))), (hr, .inr (1, [.ref ar, .int (nI n)])), (ar, .inl (cI, 255, .inl (nf v)))] : va_W) = [(h, .inr (3, [.ref a])), (a, .inl (cI, 32, .inl (nf (bdN v n q su b)))), (hr, .inr (1, [.ref ar, .int (nI n)])), (ar, .inl (cI, 255, .inl (nf v)))] := by rw [show i = 13 by omega]; rfl
          rw [hw9] at hP hD
          exact hret _ _ _ _ d_Pt_build_106 hP hD hS
        · skip
          rw [nI_leI (by omega) (by omega)] at c_3
          first | omega | contradiction
      | succ k ih47 =>
        intro i H locs ls hi hP hD hS hl
        refine lv_iload hx hb d_Pt_build_47 (lv_at hl 3 rfl) ?_
        refine lv_bipush (v := nI 13) hx hb d_Pt_build_49 (by decide) ?_
        refine lv_icmp_ge (tgt := 106) hx hb d_Pt_build_51 (by decide) (fun c_4 => ?_) (fun c_4 => ?_)
        · skip
          rw [nI_leI (by omega) (by omega)] at c_4
          first | omega | contradiction
        · skip
          rw [nI_leI (by omega) (by omega)] at c_4
          refine lv_aload_n hx hb d_Pt_build_54 rfl (lv_at hl 1 rfl) ?_
          refine lv_bipush (v := nI 13) hx hb d_Pt_build_55 (by decide) ?_
          refine lv_iload_n hx hb d_Pt_build_57 rfl (lv_at hl 2 rfl) ?_
          refine lv_iconst (v := nI 1) hx hb d_Pt_build_58 (by decide) ?_
          refine lv_isub hx hb d_Pt_build_59 ?_
          refine mk_ti (y := nI (q - 1)) (pk_sub (by omega)) ?_
          refine lv_imul hx hb d_Pt_build_60 ?_
          refine mk_ti (y := nI (13 * (q - 1))) (pk_mul 13 (q - 1)) ?_
          refine lv_iload hx hb d_Pt_build_61 (lv_at hl 3 rfl) ?_
          refine lv_iadd hx hb d_Pt_build_63 ?_
          refine mk_ti (y := nI (13 * (q - 1) + i)) (nI_add (13 * (q - 1)) i) ?_
          refine mk_r1 (W.runS (As := [.ref hr, .int (nI (13 * (q - 1) + i))]) (rest := []) S (c_Pt_uf l dC dI cI hr ar n v (13 * (q - 1) + i) (by first | assumption | omega) (by first | assumption | omega) (by first | assumption | omega)) (gS 2 hts k_429 k_430 k_27 k_431 (by decide +kernel) ⟨Nat.le_of_ble_eq_true rfl, Nat.le_of_ble_eq_true rfl⟩) (mk_sR hP hK hT hS [2, 3] rfl) rfl rfl hl.1 rfl (lv_room (Nat.le_of_ble_eq_true rfl)) d_Pt_build_64 ⟨Nat.zero_le _, Nat.zero_le _⟩) ?_
          have b_5 := ufN_lt n (13 * (q - 1) + i) (show ∀ j9, v j9 < 65536 by assumption)
          refine lv_istore (lv' := [(5, .int (nI (ufN v n (13 * (q - 1) + i)))), (0, .ref h), (1, .ref hr), (2, .int (nI q)), (4, .int (nI i))]) hx hb d_Pt_build_67 hl (by decide) rfl (fun ls hl => ?_)
          refine lv_aload_n hx hb d_Pt_build_69 rfl (lv_at hl 1 rfl) ?_
          refine lv_iload hx hb d_Pt_build_70 (lv_at hl 4 rfl) ?_
          refine mk_r1 (W.runS (As := [.int (nI i)]) (rest := [.ref h]) S (c_Pt_place l dC dI cI i (by first | assumption | omega)) (gS 1 hts k_435 k_436 k_27 k_437 (by decide +kernel) ⟨Nat.le_of_ble_eq_true rfl, Nat.le_of_ble_eq_true rfl⟩) (mk_sR hP hK hT hS [] rfl) rfl rfl hl.1 rfl (lv_room (Nat.le_of_ble_eq_true rfl)) d_Pt_build_72 ⟨Nat.zero_le _, Nat.zero_le _⟩) ?_
          have b_6 := plN_le (show i < 13 by omega)
          refine lv_iload hx hb d_Pt_build_75 (lv_at hl 0 rfl) ?_
          refine lv_sipush (v := nI 255) hx hb d_Pt_build_77 (by decide) ?_
          refine lv_iand hx hb d_Pt_build_80 ?_
          refine mk_ti (y := nI ((ufN v n (13 * (q - 1) + i)) % 2 ^ 8)) (pk_andN (by omega) 8 (by decide)) ?_
          refine mk_w0 (wr := [(hr, .inr (1, [.ref ar, .int (nI n)])), (ar, .inl (cI, 255, .inl (nf v)))]) (W.runV (As := [.int (nI (plN i)), .int (nI ((ufN v n (13 * (q - 1) + i)) % 2 ^ 8))]) (rest := []) S ((c_Pt_set l dC dI cI h a (bdL v n q (uN (uN (uN (fiN b 0 32) 0 (if q = pnN n then q + 64 else q)) 11 15) 13 su) i) (plN i) ((ufN v n (13 * (q - 1) + i)) % 2 ^ 8) (by first | assumption | omega)) _) (gV 2 hts k_425 k_427 k_7 k_27 k_428 (by decide +kernel) ⟨Nat.le_of_ble_eq_true rfl, Nat.le_of_ble_eq_true rfl⟩) (mk_vM hP hD hK hT hS hA [0, 1] rfl rfl (by decide) (q0 := 0) (ci := 3) rfl rfl) rfl rfl hl.1 rfl (lv_room (Nat.le_of_ble_eq_true rfl)) d_Pt_build_81 ⟨Nat.zero_le _, Nat.zero_le _⟩) hP hD hS hA [0, 1] [2, 3] rfl rfl (by decide) (by decide) (fun H locs hP hD hS => ?_)
          have hP : va_P (dC, dI) vwCl [(h, .inr (3, [.ref a])), (a, .inl (cI, 32, .inl (nf (uN (bdL v n q (uN (uN (uN (fiN b 0 32) 0 (if q = pnN n then q + 64 else q)) 11 15) 13 su) i) (plN i) ((ufN v n (13 * (q - 1) + i)) % 2 ^ 8))))), (hr, .inr (1, [.ref ar, .int (nI n)])), (ar, .inl (cI, 255, .inl (nf v)))] H := hP.sub [2, 3, 0, 1] rfl
          have hD : va_D A [(h, .inr (3, [.ref a])), (a, .inl (cI, 32, .inl (nf (uN (bdL v n q (uN (uN (uN (fiN b 0 32) 0 (if q = pnN n then q + 64 else q)) 11 15) 13 su) i) (plN i) ((ufN v n (13 * (q - 1) + i)) % 2 ^ 8))))), (hr, .inr (1, [.ref ar, .int (nI n)])), (ar, .inl (cI, 255, .inl (nf v)))] := hD.sub [2, 3, 0, 1] (by decide) rfl
          refine lv_aload_n hx hb d_Pt_build_84 rfl (lv_at hl 1 rfl) ?_
          refine lv_iload hx hb d_Pt_build_85 (lv_at hl 4 rfl) ?_
          refine mk_r1 (W.runS (As := [.int (nI i)]) (rest := [.ref h]) S (c_Pt_place l dC dI cI i (by first | assumption | omega)) (gS 1 hts k_435 k_436 k_27 k_437 (by decide +kernel) ⟨Nat.le_of_ble_eq_true rfl, Nat.le_of_ble_eq_true rfl⟩) (mk_sR hP hK hT hS [] rfl) rfl rfl hl.1 rfl (lv_room (Nat.le_of_ble_eq_true rfl)) d_Pt_build_87 ⟨Nat.zero_le _, Nat.zero_le _⟩) ?_
          have b_7 := plN_le (show i < 13 by omega)
          refine lv_iconst (v := nI 1) hx hb d_Pt_build_90 (by decide) ?_
          refine lv_iadd hx hb d_Pt_build_91 ?_
          refine mk_ti (y := nI (plN i + 1)) (nI_add (plN i) 1) ?_
          refine lv_iload hx hb d_Pt_build_92 (lv_at hl 0 rfl) ?_
          refine lv_bipush (v := nI 8) hx hb d_Pt_build_94 (by decide) ?_
          refine lv_ishr hx hb d_Pt_build_96 ?_
          refine mk_ti (y := nI ((ufN v n (13 * (q - 1) + i)) / 2 ^ 8)) (pk_shrN (by omega) _ 8 (by decide)) ?_
          refine mk_w0 (wr := [(hr, .inr (1, [.ref ar, .int (nI n)])), (ar, .inl (cI, 255, .inl (nf v)))]) (W.runV (As := [.int (nI (plN i + 1)), .int (nI ((ufN v n (13 * (q - 1) + i)) / 2 ^ 8))]) (rest := []) S ((c_Pt_set l dC dI cI h a (uN (bdL v n q (uN (uN (uN (fiN b 0 32) 0 (if q = pnN n then q + 64 else q)) 11 15) 13 su) i) (plN i) ((ufN v n (13 * (q - 1) + i)) % 2 ^ 8)) (plN i + 1) ((ufN v n (13 * (q - 1) + i)) / 2 ^ 8) (by first | assumption | omega)) _) (gV 2 hts k_425 k_427 k_7 k_27 k_428 (by decide +kernel) ⟨Nat.le_of_ble_eq_true rfl, Nat.le_of_ble_eq_true rfl⟩) (mk_vM hP hD hK hT hS hA [0, 1] rfl rfl (by decide) (q0 := 0) (ci := 3) rfl rfl) rfl rfl hl.1 rfl (lv_room (Nat.le_of_ble_eq_true rfl)) d_Pt_build_97 ⟨Nat.zero_le _, Nat.zero_le _⟩) hP hD hS hA [0, 1] [2, 3] rfl rfl (by decide) (by decide) (fun H locs hP hD hS => ?_)
          have hP : va_P (dC, dI) vwCl [(h, .inr (3, [.ref a])), (a, .inl (cI, 32, .inl (nf (uN (uN (bdL v n q (uN (uN (uN (fiN b 0 32) 0 (if q = pnN n then q + 64 else q)) 11 15) 13 su) i) (plN i) ((ufN v n (13 * (q - 1) + i)) % 2 ^ 8)) (plN i + 1) ((ufN v n (13 * (q - 1) + i)) / 2 ^ 8))))), (hr, .inr (1, [.ref ar, .int (nI n)])), (ar, .inl (cI, 255, .inl (nf v)))] H := hP.sub [2, 3, 0, 1] rfl
          have hD : va_D A [(h, .inr (3, [.ref a])), (a, .inl (cI, 32, .inl (nf (uN (uN (bdL v n q (uN (uN (uN (fiN b 0 32) 0 (if q = pnN n then q + 64 else q)) 11 15) 13 su) i) (plN i) ((ufN v n (13 * (q - 1) + i)) % 2 ^ 8)) (plN i + 1) ((ufN v n (13 * (q - 1) + i)) / 2 ^ 8))))), (hr, .inr (1, [.ref ar, .int (nI n)])), (ar, .inl (cI, 255, .inl (nf v)))] := hD.sub [2, 3, 0, 1] (by decide) rfl
          refine lv_iinc (v := nI (i + 1)) (lv' := [(4, .int (nI (i + 1))), (5, .int (nI (ufN v n (13 * (q - 1) + i)))), (0, .ref h), (1, .ref hr), (2, .int (nI q))]) hx hb d_Pt_build_100 hl (k := 4) rfl (mk_i1 i) (by decide) rfl (fun ls hl => ?_)
          refine lv_goto (tgt := 47) hx hb d_Pt_build_103 (by decide) ?_
          have hl : lv_has ls 6 [(0, .ref h), (1, .ref hr), (2, .int (nI q)), (4, .int (nI (i + 1)))] := lv_sub hl [2, 3, 4, 0] rfl
          have hw9 : ([(h, .inr (3, [.ref a])), (a, .inl (cI, 32, .inl (nf (uN (uN (bdL v n q (uN (uN (uN (fiN b 0 32) 0 (if q = pnN n then q + 64 else q)) 11 15) 13 su) i) (plN i) ((ufN v n (13 * (q - 1) + i)) % 2 ^ 8)) (plN i + 1) ((ufN v n (13 * (q - 1) + i)) / 2 ^ 8))))), (hr, .inr (1, [.ref ar, .int (nI n)])), (ar, .inl (cI, 255, .inl (nf v)))] : va_W) = [(h, .inr (3, [.ref a])), (a, .inl (cI, 32, .inl (nf (bdL v n q (uN (uN (uN (fiN b 0 32) 0 (if q = pnN n then q + 64 else q)) 11 15) 13 su) (i + 1))))), (hr, .inr (1, [.ref ar, .int (nI n)])), (ar, .inl (cI, 255, .inl (nf v)))] := by rfl
          rw [hw9] at hP hD
          exact ih47 (i + 1) _ _ _ (by omega) hP hD hS hl
    have hl : lv_has ls 6 [(0, .ref h), (1, .ref hr), (2, .int (nI q)), (4, .int (nI 0))] := lv_sub hl [1, 2, 3, 0] rfl
    have hw9 : ([(h, .inr (3, [.ref a])), (a, .inl (cI, 32, .inl (nf (uN (uN (uN (fiN b 0 32) 0 q) 11 15) 13 su)))), (hr, .inr (1, [.ref ar, .int (nI n)])), (ar, .inl (cI, 255, .inl (nf v)))] : va_W) = [(h, .inr (3, [.ref a])), (a, .inl (cI, 32, .inl (nf (bdL v n q (uN (uN (uN (fiN b 0 32) 0 (if q = pnN n then q + 64 else q)) 11 15) 13 su) 0)))), (hr, .inr (1, [.ref ar, .int (nI n)])), (ar, .inl (cI, 255, .inl (nf v)))] := by first | rw [bdL, if_pos (by assumption)] | rw [bdL, if_neg (by assumption)]
    rw [hw9] at hP hD
    exact lp47 13 0 _ _ _ rfl hP hD hS hl
  · skip
    rw [nI_eq (by omega) (by omega)] at c_2
    refine lv_iload_n hx hb d_Pt_build_18 rfl (lv_at hl 2 rfl) ?_
    refine lv_bipush (v := nI 64) hx hb d_Pt_build_19 (by decide) ?_
    refine lv_iadd hx hb d_Pt_build_21 ?_
    refine mk_ti (y := nI (q + 64)) (nI_add q 64) ?_
    refine lv_goto (tgt := 26) hx hb d_Pt_build_22 (by decide) ?_
    refine mk_w0 (wr := [(hr, .inr (1, [.ref ar, .int (nI n)])), (ar, .inl (cI, 255, .inl (nf v)))]) (W.runV (As := [.int (nI 0), .int (nI (q + 64))]) (rest := []) S ((c_Pt_set l dC dI cI h a (fiN b 0 32) 0 (q + 64) (by first | assumption | omega)) _) (gV 2 hts k_425 k_427 k_7 k_27 k_428 (by decide +kernel) ⟨Nat.le_of_ble_eq_true rfl, Nat.le_of_ble_eq_true rfl⟩) (mk_vM hP hD hK hT hS hA [0, 1] rfl rfl (by decide) (q0 := 0) (ci := 3) rfl rfl) rfl rfl hl.1 rfl (lv_room (Nat.le_of_ble_eq_true rfl)) d_Pt_build_26 ⟨Nat.zero_le _, Nat.zero_le _⟩) hP hD hS hA [0, 1] [2, 3] rfl rfl (by decide) (by decide) (fun H locs hP hD hS => ?_)
    have hP : va_P (dC, dI) vwCl [(h, .inr (3, [.ref a])), (a, .inl (cI, 32, .inl (nf (uN (fiN b 0 32) 0 (q + 64))))), (hr, .inr (1, [.ref ar, .int (nI n)])), (ar, .inl (cI, 255, .inl (nf v)))] H := hP.sub [2, 3, 0, 1] rfl
    have hD : va_D A [(h, .inr (3, [.ref a])), (a, .inl (cI, 32, .inl (nf (uN (fiN b 0 32) 0 (q + 64))))), (hr, .inr (1, [.ref ar, .int (nI n)])), (ar, .inl (cI, 255, .inl (nf v)))] := hD.sub [2, 3, 0, 1] (by decide) rfl
    refine lv_aload_n hx hb d_Pt_build_29 rfl (lv_at hl 0 rfl) ?_
    refine lv_bipush (v := nI 11) hx hb d_Pt_build_30 (by decide) ?_
    refine lv_bipush (v := nI 15) hx hb d_Pt_build_32 (by decide) ?_
    refine mk_w0 (wr := [(hr, .inr (1, [.ref ar, .int (nI n)])), (ar, .inl (cI, 255, .inl (nf v)))]) (W.runV (As := [.int (nI 11), .int (nI 15)]) (rest := []) S ((c_Pt_set l dC dI cI h a (uN (fiN b 0 32) 0 (q + 64)) 11 15 (by first | assumption | omega)) _) (gV 2 hts k_425 k_427 k_7 k_27 k_428 (by decide +kernel) ⟨Nat.le_of_ble_eq_true rfl, Nat.le_of_ble_eq_true rfl⟩) (mk_vM hP hD hK hT hS hA [0, 1] rfl rfl (by decide) (q0 := 0) (ci := 3) rfl rfl) rfl rfl hl.1 rfl (lv_room (Nat.le_of_ble_eq_true rfl)) d_Pt_build_34 ⟨Nat.zero_le _, Nat.zero_le _⟩) hP hD hS hA [0, 1] [2, 3] rfl rfl (by decide) (by decide) (fun H locs hP hD hS => ?_)
    have hP : va_P (dC, dI) vwCl [(h, .inr (3, [.ref a])), (a, .inl (cI, 32, .inl (nf (uN (uN (fiN b 0 32) 0 (q + 64)) 11 15)))), (hr, .inr (1, [.ref ar, .int (nI n)])), (ar, .inl (cI, 255, .inl (nf v)))] H := hP.sub [2, 3, 0, 1] rfl
    have hD : va_D A [(h, .inr (3, [.ref a])), (a, .inl (cI, 32, .inl (nf (uN (uN (fiN b 0 32) 0 (q + 64)) 11 15)))), (hr, .inr (1, [.ref ar, .int (nI n)])), (ar, .inl (cI, 255, .inl (nf v)))] := hD.sub [2, 3, 0, 1] (by decide) rfl
    refine lv_aload_n hx hb d_Pt_build_37 rfl (lv_at hl 0 rfl) ?_
    refine lv_bipush (v := nI 13) hx hb d_Pt_build_38 (by decide) ?_
    refine lv_iload_n hx hb d_Pt_build_40 rfl (lv_at hl 3 rfl) ?_
    refine mk_w0 (wr := [(hr, .inr (1, [.ref ar, .int (nI n)])), (ar, .inl (cI, 255, .inl (nf v)))]) (W.runV (As := [.int (nI 13), .int (nI su)]) (rest := []) S ((c_Pt_set l dC dI cI h a (uN (uN (fiN b 0 32) 0 (q + 64)) 11 15) 13 su (by first | assumption | omega)) _) (gV 2 hts k_425 k_427 k_7 k_27 k_428 (by decide +kernel) ⟨Nat.le_of_ble_eq_true rfl, Nat.le_of_ble_eq_true rfl⟩) (mk_vM hP hD hK hT hS hA [0, 1] rfl rfl (by decide) (q0 := 0) (ci := 3) rfl rfl) rfl rfl hl.1 rfl (lv_room (Nat.le_of_ble_eq_true rfl)) d_Pt_build_41 ⟨Nat.zero_le _, Nat.zero_le _⟩) hP hD hS hA [0, 1] [2, 3] rfl rfl (by decide) (by decide) (fun H locs hP hD hS => ?_)
    have hP : va_P (dC, dI) vwCl [(h, .inr (3, [.ref a])), (a, .inl (cI, 32, .inl (nf (uN (uN (uN (fiN b 0 32) 0 (q + 64)) 11 15) 13 su)))), (hr, .inr (1, [.ref ar, .int (nI n)])), (ar, .inl (cI, 255, .inl (nf v)))] H := hP.sub [2, 3, 0, 1] rfl
    have hD : va_D A [(h, .inr (3, [.ref a])), (a, .inl (cI, 32, .inl (nf (uN (uN (uN (fiN b 0 32) 0 (q + 64)) 11 15) 13 su)))), (hr, .inr (1, [.ref ar, .int (nI n)])), (ar, .inl (cI, 255, .inl (nf v)))] := hD.sub [2, 3, 0, 1] (by decide) rfl
    refine lv_iconst (v := nI 0) hx hb d_Pt_build_44 (by decide) ?_
    refine lv_istore (lv' := [(4, .int (nI 0)), (0, .ref h), (1, .ref hr), (2, .int (nI q)), (3, .int (nI su))]) hx hb d_Pt_build_45 hl (by decide) rfl (fun ls hl => ?_)
    have lp47 : ∀ (k : Nat) (i : Nat) (H : Heap) (locs : List Loc) (ls : Array Slot), (i + k = 13) → va_P (dC, dI) vwCl [(h, .inr (3, [.ref a])), (a, .inl (cI, 32, .inl (nf (bdL v n q (uN (uN (uN (fiN b 0 32) 0 (if q = pnN n then q + 64 else q)) 11 15) 13 su) i)))), (hr, .inr (1, [.ref ar, .int (nI n)])), (ar, .inl (cI, 255, .inl (nf v)))] H → va_D A [(h, .inr (3, [.ref a])), (a, .inl (cI, 32, .inl (nf (bdL v n q (uN (uN (uN (fiN b 0 32) 0 (if q = pnN n then q + 64 else q)) 11 15) 13 su) i)))), (hr, .inr (1, [.ref ar, .int (nI n)])), (ar, .inl (cI, 255, .inl (nf v)))] → va_S A s.heap H locs → lv_has ls 6 [(0, .ref h), (1, .ref hr), (2, .int (nI q)), (4, .int (nI i))] → W p l e ({ frames := 2, cells := 0, slots := 0, locals := 42 } : Room) s m ([.ref h, .ref hr, .int (nI q), .int (nI su)] : List Value).toArray below meth c H locs 0 0 Q (F0 m 47 ls []) := by
      intro k
      induction k with
      | zero =>
        intro i H locs ls hi hP hD hS hl
        refine lv_iload hx hb d_Pt_build_47 (lv_at hl 3 rfl) ?_
        refine lv_bipush (v := nI 13) hx hb d_Pt_build_49 (by decide) ?_
        refine lv_icmp_ge (tgt := 106) hx hb d_Pt_build_51 (by decide) (fun c_8 => ?_) (fun c_8 => ?_)
        · skip
          rw [nI_leI (by omega) (by omega)] at c_8
          have hw9 : ([(h, .inr (3, [.ref a])), (a, .inl (cI, 32, .inl (nf (bdL v n q (uN (uN (uN (fiN b 0 32) 0 (if q = pnN n then q + 64 else q)) 11 15) 13 su) i)))), (hr, .inr (1, [.ref ar, .int (nI n)])), (ar, .inl (cI, 255, .inl (nf v)))] : va_W) = [(h, .inr (3, [.ref a])), (a, .inl (cI, 32, .inl (nf (bdN v n q su b)))), (hr, .inr (1, [.ref ar, .int (nI n)])), (ar, .inl (cI, 255, .inl (nf v)))] := by rw [show i = 13 by omega]; rfl
          rw [hw9] at hP hD
          exact hret _ _ _ _ d_Pt_build_106 hP hD hS
        · skip
          rw [nI_leI (by omega) (by omega)] at c_8
          first | omega | contradiction
      | succ k ih47 =>
        intro i H locs ls hi hP hD hS hl
        refine lv_iload hx hb d_Pt_build_47 (lv_at hl 3 rfl) ?_
        refine lv_bipush (v := nI 13) hx hb d_Pt_build_49 (by decide) ?_
        refine lv_icmp_ge (tgt := 106) hx hb d_Pt_build_51 (by decide) (fun c_9 => ?_) (fun c_9 => ?_)
        · skip
          rw [nI_leI (by omega) (by omega)] at c_9
          first | omega | contradiction
        · skip
          rw [nI_leI (by omega) (by omega)] at c_9
          refine lv_aload_n hx hb d_Pt_build_54 rfl (lv_at hl 1 rfl) ?_
          refine lv_bipush (v := nI 13) hx hb d_Pt_build_55 (by decide) ?_
          refine lv_iload_n hx hb d_Pt_build_57 rfl (lv_at hl 2 rfl) ?_
          refine lv_iconst (v := nI 1) hx hb d_Pt_build_58 (by decide) ?_
          refine lv_isub hx hb d_Pt_build_59 ?_
          refine mk_ti (y := nI (q - 1)) (pk_sub (by omega)) ?_
          refine lv_imul hx hb d_Pt_build_60 ?_
          refine mk_ti (y := nI (13 * (q - 1))) (pk_mul 13 (q - 1)) ?_
          refine lv_iload hx hb d_Pt_build_61 (lv_at hl 3 rfl) ?_
          refine lv_iadd hx hb d_Pt_build_63 ?_
          refine mk_ti (y := nI (13 * (q - 1) + i)) (nI_add (13 * (q - 1)) i) ?_
          refine mk_r1 (W.runS (As := [.ref hr, .int (nI (13 * (q - 1) + i))]) (rest := []) S (c_Pt_uf l dC dI cI hr ar n v (13 * (q - 1) + i) (by first | assumption | omega) (by first | assumption | omega) (by first | assumption | omega)) (gS 2 hts k_429 k_430 k_27 k_431 (by decide +kernel) ⟨Nat.le_of_ble_eq_true rfl, Nat.le_of_ble_eq_true rfl⟩) (mk_sR hP hK hT hS [2, 3] rfl) rfl rfl hl.1 rfl (lv_room (Nat.le_of_ble_eq_true rfl)) d_Pt_build_64 ⟨Nat.zero_le _, Nat.zero_le _⟩) ?_
          have b_10 := ufN_lt n (13 * (q - 1) + i) (show ∀ j9, v j9 < 65536 by assumption)
          refine lv_istore (lv' := [(5, .int (nI (ufN v n (13 * (q - 1) + i)))), (0, .ref h), (1, .ref hr), (2, .int (nI q)), (4, .int (nI i))]) hx hb d_Pt_build_67 hl (by decide) rfl (fun ls hl => ?_)
          refine lv_aload_n hx hb d_Pt_build_69 rfl (lv_at hl 1 rfl) ?_
          refine lv_iload hx hb d_Pt_build_70 (lv_at hl 4 rfl) ?_
          refine mk_r1 (W.runS (As := [.int (nI i)]) (rest := [.ref h]) S (c_Pt_place l dC dI cI i (by first | assumption | omega)) (gS 1 hts k_435 k_436 k_27 k_437 (by decide +kernel) ⟨Nat.le_of_ble_eq_true rfl, Nat.le_of_ble_eq_true rfl⟩) (mk_sR hP hK hT hS [] rfl) rfl rfl hl.1 rfl (lv_room (Nat.le_of_ble_eq_true rfl)) d_Pt_build_72 ⟨Nat.zero_le _, Nat.zero_le _⟩) ?_
          have b_11 := plN_le (show i < 13 by omega)
          refine lv_iload hx hb d_Pt_build_75 (lv_at hl 0 rfl) ?_
          refine lv_sipush (v := nI 255) hx hb d_Pt_build_77 (by decide) ?_
          refine lv_iand hx hb d_Pt_build_80 ?_
          refine mk_ti (y := nI ((ufN v n (13 * (q - 1) + i)) % 2 ^ 8)) (pk_andN (by omega) 8 (by decide)) ?_
          refine mk_w0 (wr := [(hr, .inr (1, [.ref ar, .int (nI n)])), (ar, .inl (cI, 255, .inl (nf v)))]) (W.runV (As := [.int (nI (plN i)), .int (nI ((ufN v n (13 * (q - 1) + i)) % 2 ^ 8))]) (rest := []) S ((c_Pt_set l dC dI cI h a (bdL v n q (uN (uN (uN (fiN b 0 32) 0 (if q = pnN n then q + 64 else q)) 11 15) 13 su) i) (plN i) ((ufN v n (13 * (q - 1) + i)) % 2 ^ 8) (by first | assumption | omega)) _) (gV 2 hts k_425 k_427 k_7 k_27 k_428 (by decide +kernel) ⟨Nat.le_of_ble_eq_true rfl, Nat.le_of_ble_eq_true rfl⟩) (mk_vM hP hD hK hT hS hA [0, 1] rfl rfl (by decide) (q0 := 0) (ci := 3) rfl rfl) rfl rfl hl.1 rfl (lv_room (Nat.le_of_ble_eq_true rfl)) d_Pt_build_81 ⟨Nat.zero_le _, Nat.zero_le _⟩) hP hD hS hA [0, 1] [2, 3] rfl rfl (by decide) (by decide) (fun H locs hP hD hS => ?_)
          have hP : va_P (dC, dI) vwCl [(h, .inr (3, [.ref a])), (a, .inl (cI, 32, .inl (nf (uN (bdL v n q (uN (uN (uN (fiN b 0 32) 0 (if q = pnN n then q + 64 else q)) 11 15) 13 su) i) (plN i) ((ufN v n (13 * (q - 1) + i)) % 2 ^ 8))))), (hr, .inr (1, [.ref ar, .int (nI n)])), (ar, .inl (cI, 255, .inl (nf v)))] H := hP.sub [2, 3, 0, 1] rfl
          have hD : va_D A [(h, .inr (3, [.ref a])), (a, .inl (cI, 32, .inl (nf (uN (bdL v n q (uN (uN (uN (fiN b 0 32) 0 (if q = pnN n then q + 64 else q)) 11 15) 13 su) i) (plN i) ((ufN v n (13 * (q - 1) + i)) % 2 ^ 8))))), (hr, .inr (1, [.ref ar, .int (nI n)])), (ar, .inl (cI, 255, .inl (nf v)))] := hD.sub [2, 3, 0, 1] (by decide) rfl
          refine lv_aload_n hx hb d_Pt_build_84 rfl (lv_at hl 1 rfl) ?_
          refine lv_iload hx hb d_Pt_build_85 (lv_at hl 4 rfl) ?_
          refine mk_r1 (W.runS (As := [.int (nI i)]) (rest := [.ref h]) S (c_Pt_place l dC dI cI i (by first | assumption | omega)) (gS 1 hts k_435 k_436 k_27 k_437 (by decide +kernel) ⟨Nat.le_of_ble_eq_true rfl, Nat.le_of_ble_eq_true rfl⟩) (mk_sR hP hK hT hS [] rfl) rfl rfl hl.1 rfl (lv_room (Nat.le_of_ble_eq_true rfl)) d_Pt_build_87 ⟨Nat.zero_le _, Nat.zero_le _⟩) ?_
          have b_12 := plN_le (show i < 13 by omega)
          refine lv_iconst (v := nI 1) hx hb d_Pt_build_90 (by decide) ?_
          refine lv_iadd hx hb d_Pt_build_91 ?_
          refine mk_ti (y := nI (plN i + 1)) (nI_add (plN i) 1) ?_
          refine lv_iload hx hb d_Pt_build_92 (lv_at hl 0 rfl) ?_
          refine lv_bipush (v := nI 8) hx hb d_Pt_build_94 (by decide) ?_
          refine lv_ishr hx hb d_Pt_build_96 ?_
          refine mk_ti (y := nI ((ufN v n (13 * (q - 1) + i)) / 2 ^ 8)) (pk_shrN (by omega) _ 8 (by decide)) ?_
          refine mk_w0 (wr := [(hr, .inr (1, [.ref ar, .int (nI n)])), (ar, .inl (cI, 255, .inl (nf v)))]) (W.runV (As := [.int (nI (plN i + 1)), .int (nI ((ufN v n (13 * (q - 1) + i)) / 2 ^ 8))]) (rest := []) S ((c_Pt_set l dC dI cI h a (uN (bdL v n q (uN (uN (uN (fiN b 0 32) 0 (if q = pnN n then q + 64 else q)) 11 15) 13 su) i) (plN i) ((ufN v n (13 * (q - 1) + i)) % 2 ^ 8)) (plN i + 1) ((ufN v n (13 * (q - 1) + i)) / 2 ^ 8) (by first | assumption | omega)) _) (gV 2 hts k_425 k_427 k_7 k_27 k_428 (by decide +kernel) ⟨Nat.le_of_ble_eq_true rfl, Nat.le_of_ble_eq_true rfl⟩) (mk_vM hP hD hK hT hS hA [0, 1] rfl rfl (by decide) (q0 := 0) (ci := 3) rfl rfl) rfl rfl hl.1 rfl (lv_room (Nat.le_of_ble_eq_true rfl)) d_Pt_build_97 ⟨Nat.zero_le _, Nat.zero_le _⟩) hP hD hS hA [0, 1] [2, 3] rfl rfl (by decide) (by decide) (fun H locs hP hD hS => ?_)
          have hP : va_P (dC, dI) vwCl [(h, .inr (3, [.ref a])), (a, .inl (cI, 32, .inl (nf (uN (uN (bdL v n q (uN (uN (uN (fiN b 0 32) 0 (if q = pnN n then q + 64 else q)) 11 15) 13 su) i) (plN i) ((ufN v n (13 * (q - 1) + i)) % 2 ^ 8)) (plN i + 1) ((ufN v n (13 * (q - 1) + i)) / 2 ^ 8))))), (hr, .inr (1, [.ref ar, .int (nI n)])), (ar, .inl (cI, 255, .inl (nf v)))] H := hP.sub [2, 3, 0, 1] rfl
          have hD : va_D A [(h, .inr (3, [.ref a])), (a, .inl (cI, 32, .inl (nf (uN (uN (bdL v n q (uN (uN (uN (fiN b 0 32) 0 (if q = pnN n then q + 64 else q)) 11 15) 13 su) i) (plN i) ((ufN v n (13 * (q - 1) + i)) % 2 ^ 8)) (plN i + 1) ((ufN v n (13 * (q - 1) + i)) / 2 ^ 8))))), (hr, .inr (1, [.ref ar, .int (nI n)])), (ar, .inl (cI, 255, .inl (nf v)))] := hD.sub [2, 3, 0, 1] (by decide) rfl
          refine lv_iinc (v := nI (i + 1)) (lv' := [(4, .int (nI (i + 1))), (5, .int (nI (ufN v n (13 * (q - 1) + i)))), (0, .ref h), (1, .ref hr), (2, .int (nI q))]) hx hb d_Pt_build_100 hl (k := 4) rfl (mk_i1 i) (by decide) rfl (fun ls hl => ?_)
          refine lv_goto (tgt := 47) hx hb d_Pt_build_103 (by decide) ?_
          have hl : lv_has ls 6 [(0, .ref h), (1, .ref hr), (2, .int (nI q)), (4, .int (nI (i + 1)))] := lv_sub hl [2, 3, 4, 0] rfl
          have hw9 : ([(h, .inr (3, [.ref a])), (a, .inl (cI, 32, .inl (nf (uN (uN (bdL v n q (uN (uN (uN (fiN b 0 32) 0 (if q = pnN n then q + 64 else q)) 11 15) 13 su) i) (plN i) ((ufN v n (13 * (q - 1) + i)) % 2 ^ 8)) (plN i + 1) ((ufN v n (13 * (q - 1) + i)) / 2 ^ 8))))), (hr, .inr (1, [.ref ar, .int (nI n)])), (ar, .inl (cI, 255, .inl (nf v)))] : va_W) = [(h, .inr (3, [.ref a])), (a, .inl (cI, 32, .inl (nf (bdL v n q (uN (uN (uN (fiN b 0 32) 0 (if q = pnN n then q + 64 else q)) 11 15) 13 su) (i + 1))))), (hr, .inr (1, [.ref ar, .int (nI n)])), (ar, .inl (cI, 255, .inl (nf v)))] := by rfl
          rw [hw9] at hP hD
          exact ih47 (i + 1) _ _ _ (by omega) hP hD hS hl
    have hl : lv_has ls 6 [(0, .ref h), (1, .ref hr), (2, .int (nI q)), (4, .int (nI 0))] := lv_sub hl [1, 2, 3, 0] rfl
    have hw9 : ([(h, .inr (3, [.ref a])), (a, .inl (cI, 32, .inl (nf (uN (uN (uN (fiN b 0 32) 0 (q + 64)) 11 15) 13 su)))), (hr, .inr (1, [.ref ar, .int (nI n)])), (ar, .inl (cI, 255, .inl (nf v)))] : va_W) = [(h, .inr (3, [.ref a])), (a, .inl (cI, 32, .inl (nf (bdL v n q (uN (uN (uN (fiN b 0 32) 0 (if q = pnN n then q + 64 else q)) 11 15) 13 su) 0)))), (hr, .inr (1, [.ref ar, .int (nI n)])), (ar, .inl (cI, 255, .inl (nf v)))] := by first | rw [bdL, if_pos (by assumption)] | rw [bdL, if_neg (by assumption)]
    rw [hw9] at hP hD
    exact lp47 13 0 _ _ _ rfl hP hD hS hl

set_option maxHeartbeats 4000000 in
set_option maxRecDepth 100000 in
theorem c_Pt_store (l : Launch) (dC : Nat → ClassId) (dI : Nat → Nat → Nat) (cI : ClassId) (h a : Nat) (b : Nat → Nat) (hs as : Nat) (B : Nat → Nat) (q : Nat) (hb9 : ∀ j, b j < 65536) (hq : q < 32) : mM l y_Pt_storeIn w_Pt_storeIn ({ frames := 3, cells := 0, slots := 0, locals := 64 } : Room) [.ref h, .ref hs, .int (nI q)] (dC, dI) vwCl [(cI, .int)] [(h, .inr (3, [.ref a])), (a, .inl (cI, 32, .inl (nf b))), (hs, .inr (4, [.ref as])), (as, .inl (cI, 1024, .inl (nf B)))] none [(h, .inr (3, [.ref a])), (a, .inl (cI, 32, .inl (nf b))), (hs, .inr (4, [.ref as])), (as, .inl (cI, 1024, .inl (nf (stN B (moN b) (q * 32) 32))))] := by
  refine mk_Mv (cc := b_Pt_storeIn) (maxL := 4) (by decide) rfl (Nat.le_of_ble_eq_true rfl) ?_
  intro p e s m below meth c Q A ls S hP hK hT hS hl hD hA hret
  obtain ⟨hx, hb, hml, hown, hts⟩ := id S
  have hl : lv_has ls 4 [(0, .ref h), (1, .ref hs), (2, .int (nI q))] := hl
  refine lv_iconst (v := nI 0) hx hb d_Pt_storeIn_0 (by decide) ?_
  refine lv_istore_n (lv' := [(3, .int (nI 0)), (0, .ref h), (1, .ref hs), (2, .int (nI q))]) hx hb d_Pt_storeIn_1 rfl hl (by decide) rfl (fun ls hl => ?_)
  have lp2 : ∀ (k : Nat) (i : Nat) (H : Heap) (locs : List Loc) (ls : Array Slot), (i + k = 32) → va_P (dC, dI) vwCl [(h, .inr (3, [.ref a])), (a, .inl (cI, 32, .inl (nf b))), (hs, .inr (4, [.ref as])), (as, .inl (cI, 1024, .inl (nf (stN B (moN b) (q * 32) i))))] H → va_D A [(h, .inr (3, [.ref a])), (a, .inl (cI, 32, .inl (nf b))), (hs, .inr (4, [.ref as])), (as, .inl (cI, 1024, .inl (nf (stN B (moN b) (q * 32) i))))] → va_S A s.heap H locs → lv_has ls 4 [(0, .ref h), (1, .ref hs), (2, .int (nI q)), (3, .int (nI i))] → W p l e ({ frames := 3, cells := 0, slots := 0, locals := 64 } : Room) s m ([.ref h, .ref hs, .int (nI q)] : List Value).toArray below meth c H locs 0 0 Q (F0 m 2 ls []) := by
    intro k
    induction k with
    | zero =>
      intro i H locs ls hi hP hD hS hl
      refine lv_iload_n hx hb d_Pt_storeIn_2 rfl (lv_at hl 3 rfl) ?_
      refine lv_bipush (v := nI 32) hx hb d_Pt_storeIn_3 (by decide) ?_
      refine lv_icmp_ge (tgt := 26) hx hb d_Pt_storeIn_5 (by decide) (fun c_1 => ?_) (fun c_1 => ?_)
      · skip
        rw [nI_leI (by omega) (by omega)] at c_1
        have hw9 : ([(h, .inr (3, [.ref a])), (a, .inl (cI, 32, .inl (nf b))), (hs, .inr (4, [.ref as])), (as, .inl (cI, 1024, .inl (nf (stN B (moN b) (q * 32) i))))] : va_W) = [(h, .inr (3, [.ref a])), (a, .inl (cI, 32, .inl (nf b))), (hs, .inr (4, [.ref as])), (as, .inl (cI, 1024, .inl (nf (stN B (moN b) (q * 32) 32))))] := by rw [show i = 32 by omega]
        rw [hw9] at hP hD
        exact hret _ _ _ _ d_Pt_storeIn_26 hP hD hS
      · skip
        rw [nI_leI (by omega) (by omega)] at c_1
        first | omega | contradiction
    | succ k ih2 =>
      intro i H locs ls hi hP hD hS hl
      refine lv_iload_n hx hb d_Pt_storeIn_2 rfl (lv_at hl 3 rfl) ?_
      refine lv_bipush (v := nI 32) hx hb d_Pt_storeIn_3 (by decide) ?_
      refine lv_icmp_ge (tgt := 26) hx hb d_Pt_storeIn_5 (by decide) (fun c_2 => ?_) (fun c_2 => ?_)
      · skip
        rw [nI_leI (by omega) (by omega)] at c_2
        first | omega | contradiction
      · skip
        rw [nI_leI (by omega) (by omega)] at c_2
        refine lv_aload_n hx hb d_Pt_storeIn_8 rfl (lv_at hl 1 rfl) ?_
        refine lv_iload_n hx hb d_Pt_storeIn_9 rfl (lv_at hl 2 rfl) ?_
        refine lv_iload_n hx hb d_Pt_storeIn_10 rfl (lv_at hl 3 rfl) ?_
        refine lv_aload_n hx hb d_Pt_storeIn_11 rfl (lv_at hl 0 rfl) ?_
        refine lv_iload_n hx hb d_Pt_storeIn_12 rfl (lv_at hl 3 rfl) ?_
        refine mk_r1 (W.runV (As := [.int (nI i)]) (rest := [.int (nI i), .int (nI q), .ref hs]) S (c_Pt_get l dC dI cI h a b i (by first | assumption | omega) (by first | assumption | omega)) (gV 1 hts k_444 k_446 k_8 k_27 k_447 (by decide +kernel) ⟨Nat.le_of_ble_eq_true rfl, Nat.le_of_ble_eq_true rfl⟩) (mk_vR hP hK hT hS [0, 1] rfl (q0 := 0) (ci := 3) rfl rfl) rfl rfl hl.1 rfl (lv_room (Nat.le_of_ble_eq_true rfl)) d_Pt_storeIn_13 ⟨Nat.zero_le _, Nat.zero_le _⟩) ?_
        have b_3 := (show ∀ j9, b j9 < 65536 by assumption) i
        refine mk_w1 (wr := [(h, .inr (3, [.ref a])), (a, .inl (cI, 32, .inl (nf b)))]) (W.runV (As := [.int (nI q), .int (nI i), .int (nI (b i))]) (rest := []) S ((c_Sl_putN l dC dI cI hs as (stN B (moN b) (q * 32) i) q i (b i) (by first | assumption | omega) (by first | assumption | omega) (by first | assumption | omega)) _) (gV 3 hts k_448 k_200 k_201 k_28 k_202 (by decide +kernel) ⟨Nat.le_of_ble_eq_true rfl, Nat.le_of_ble_eq_true rfl⟩) (mk_vM hP hD hK hT hS hA [2, 3] rfl rfl (by decide) (q0 := 2) (ci := 4) rfl rfl) rfl rfl hl.1 rfl (lv_room (Nat.le_of_ble_eq_true rfl)) d_Pt_storeIn_16 ⟨Nat.zero_le _, Nat.zero_le _⟩) hP hD hS hA [2, 3] [0, 1] rfl rfl (by decide) (by decide) (fun H locs hP hD hS => ?_)
        have hP : va_P (dC, dI) vwCl [(h, .inr (3, [.ref a])), (a, .inl (cI, 32, .inl (nf b))), (hs, .inr (4, [.ref as])), (as, .inl (cI, 1024, .inl (nf (uN (stN B (moN b) (q * 32) i) (q * 32 + i) ((b i) % 2 ^ 8)))))] H := hP.sub [0, 1, 2, 3] rfl
        have hD : va_D A [(h, .inr (3, [.ref a])), (a, .inl (cI, 32, .inl (nf b))), (hs, .inr (4, [.ref as])), (as, .inl (cI, 1024, .inl (nf (uN (stN B (moN b) (q * 32) i) (q * 32 + i) ((b i) % 2 ^ 8)))))] := hD.sub [0, 1, 2, 3] (by decide) rfl
        refine lv_pop hx hb d_Pt_storeIn_19 rfl ?_
        refine lv_iinc (v := nI (i + 1)) (lv' := [(3, .int (nI (i + 1))), (0, .ref h), (1, .ref hs), (2, .int (nI q))]) hx hb d_Pt_storeIn_20 hl (k := 3) rfl (mk_i1 i) (by decide) rfl (fun ls hl => ?_)
        refine lv_goto (tgt := 2) hx hb d_Pt_storeIn_23 (by decide) ?_
        have hl : lv_has ls 4 [(0, .ref h), (1, .ref hs), (2, .int (nI q)), (3, .int (nI (i + 1)))] := lv_sub hl [1, 2, 3, 0] rfl
        have hw9 : ([(h, .inr (3, [.ref a])), (a, .inl (cI, 32, .inl (nf b))), (hs, .inr (4, [.ref as])), (as, .inl (cI, 1024, .inl (nf (uN (stN B (moN b) (q * 32) i) (q * 32 + i) ((b i) % 2 ^ 8)))))] : va_W) = [(h, .inr (3, [.ref a])), (a, .inl (cI, 32, .inl (nf b))), (hs, .inr (4, [.ref as])), (as, .inl (cI, 1024, .inl (nf (stN B (moN b) (q * 32) (i + 1)))))] := by rw [stN_s (by rfl)]
        rw [hw9] at hP hD
        exact ih2 (i + 1) _ _ _ (by omega) hP hD hS hl
  have hl : lv_has ls 4 [(0, .ref h), (1, .ref hs), (2, .int (nI q)), (3, .int (nI 0))] := lv_sub hl [1, 2, 3, 0] rfl
  have hw9 : ([(h, .inr (3, [.ref a])), (a, .inl (cI, 32, .inl (nf b))), (hs, .inr (4, [.ref as])), (as, .inl (cI, 1024, .inl (nf B)))] : va_W) = [(h, .inr (3, [.ref a])), (a, .inl (cI, 32, .inl (nf b))), (hs, .inr (4, [.ref as])), (as, .inl (cI, 1024, .inl (nf (stN B (moN b) (q * 32) 0))))] := by rw [stN_0]
  rw [hw9] at hP hD
  exact lp2 32 0 _ _ _ rfl hP hD hS hl

set_option maxHeartbeats 4000000 in
set_option maxRecDepth 100000 in
theorem c_Pt_in (l : Launch) (dC : Nat → ClassId) (dI : Nat → Nat → Nat) (cI : ClassId) (h a : Nat) (b : Nat → Nat) (hs as : Nat) (B : Nat → Nat) (q : Nat) (hb9 : ∀ j, b j < 65536) (hB : ∀ j, B j < 256) (hq : q < 32) : mR l y_Pt_isIn w_Pt_isIn ({ frames := 3, cells := 0, slots := 0, locals := 63 } : Room) [.ref h, .ref hs, .int (nI q)] (dC, dI) vwCl [(cI, .int)] [(h, .inr (3, [.ref a])), (a, .inl (cI, 32, .inl (nf b))), (hs, .inr (4, [.ref as])), (as, .inl (cI, 1024, .inl (nf B)))] (some (.int (bI (inN b B (q * 32))))) := by
  refine mk_Ri (cc := b_Pt_isIn) (maxL := 4) (by decide) rfl (Nat.le_of_ble_eq_true rfl) (mk_nz _) ?_
  intro p e s m below meth c Q A ls S hP hK hT hS hl hret
  obtain ⟨hx, hb, hml, hown, hts⟩ := id S
  have hl : lv_has ls 4 [(0, .ref h), (1, .ref hs), (2, .int (nI q))] := hl
  refine lv_iconst (v := nI 0) hx hb d_Pt_isIn_0 (by decide) ?_
  refine lv_istore_n (lv' := [(3, .int (nI 0)), (0, .ref h), (1, .ref hs), (2, .int (nI q))]) hx hb d_Pt_isIn_1 rfl hl (by decide) rfl (fun ls hl => ?_)
  have lp2 : ∀ (k : Nat) (i : Nat) (ls : Array Slot), (i + k = 32) → (∀ j, j < i → B (q * 32 + j) = b j) → lv_has ls 4 [(0, .ref h), (1, .ref hs), (2, .int (nI q)), (3, .int (nI i))] → W p l e ({ frames := 3, cells := 0, slots := 0, locals := 63 } : Room) s m ([.ref h, .ref hs, .int (nI q)] : List Value).toArray below meth c s.heap [] 0 0 Q (F0 m 2 ls []) := by
    intro k
    induction k with
    | zero =>
      intro i ls hi hq9 hl
      refine lv_iload_n hx hb d_Pt_isIn_2 rfl (lv_at hl 3 rfl) ?_
      refine lv_bipush (v := nI 32) hx hb d_Pt_isIn_3 (by decide) ?_
      refine lv_icmp_ge (tgt := 30) hx hb d_Pt_isIn_5 (by decide) (fun c_1 => ?_) (fun c_1 => ?_)
      · skip
        rw [nI_leI (by omega) (by omega)] at c_1
        refine lv_iconst (v := nI 1) hx hb d_Pt_isIn_30 (by decide) ?_
        exact mk_ti (by exact mk_bt (by simp only [inN, inK, decide_eq_true_eq]; exact fun j hj => hq9 j (by omega))) (hret _ _ d_Pt_isIn_31)
      · skip
        rw [nI_leI (by omega) (by omega)] at c_1
        first | omega | contradiction
    | succ k ih2 =>
      intro i ls hi hq9 hl
      refine lv_iload_n hx hb d_Pt_isIn_2 rfl (lv_at hl 3 rfl) ?_
      refine lv_bipush (v := nI 32) hx hb d_Pt_isIn_3 (by decide) ?_
      refine lv_icmp_ge (tgt := 30) hx hb d_Pt_isIn_5 (by decide) (fun c_2 => ?_) (fun c_2 => ?_)
      · skip
        rw [nI_leI (by omega) (by omega)] at c_2
        first | omega | contradiction
      · skip
        rw [nI_leI (by omega) (by omega)] at c_2
        refine lv_aload_n hx hb d_Pt_isIn_8 rfl (lv_at hl 1 rfl) ?_
        refine lv_iload_n hx hb d_Pt_isIn_9 rfl (lv_at hl 2 rfl) ?_
        refine lv_iload_n hx hb d_Pt_isIn_10 rfl (lv_at hl 3 rfl) ?_
        refine mk_r1 (W.runV (As := [.int (nI q), .int (nI i)]) (rest := []) S (c_Sl_getN l dC dI cI hs as B q i (by first | assumption | omega) (by first | assumption | omega) (by first | assumption | omega)) (gV 2 hts k_510 k_214 k_215 k_28 k_216 (by decide +kernel) ⟨Nat.le_of_ble_eq_true rfl, Nat.le_of_ble_eq_true rfl⟩) (mk_vR hP hK hT hS [2, 3] rfl (q0 := 2) (ci := 4) rfl rfl) rfl rfl hl.1 rfl (lv_room (Nat.le_of_ble_eq_true rfl)) d_Pt_isIn_11 ⟨Nat.zero_le _, Nat.zero_le _⟩) ?_
        have b_3 := (show ∀ j9, B j9 < 256 by assumption) (q * 32 + i)
        refine lv_aload_n hx hb d_Pt_isIn_14 rfl (lv_at hl 0 rfl) ?_
        refine lv_iload_n hx hb d_Pt_isIn_15 rfl (lv_at hl 3 rfl) ?_
        refine mk_r1 (W.runV (As := [.int (nI i)]) (rest := [.int (nI (B (q * 32 + i)))]) S (c_Pt_get l dC dI cI h a b i (by first | assumption | omega) (by first | assumption | omega)) (gV 1 hts k_444 k_446 k_8 k_27 k_447 (by decide +kernel) ⟨Nat.le_of_ble_eq_true rfl, Nat.le_of_ble_eq_true rfl⟩) (mk_vR hP hK hT hS [0, 1] rfl (q0 := 0) (ci := 3) rfl rfl) rfl rfl hl.1 rfl (lv_room (Nat.le_of_ble_eq_true rfl)) d_Pt_isIn_16 ⟨Nat.zero_le _, Nat.zero_le _⟩) ?_
        have b_4 := (show ∀ j9, b j9 < 65536 by assumption) i
        refine lv_icmp_eq (tgt := 24) hx hb d_Pt_isIn_19 (by decide) (fun c_5 => ?_) (fun c_5 => ?_)
        · skip
          rw [nI_eq (by omega) (by omega)] at c_5
          refine lv_iinc (v := nI (i + 1)) (lv' := [(3, .int (nI (i + 1))), (0, .ref h), (1, .ref hs), (2, .int (nI q))]) hx hb d_Pt_isIn_24 hl (k := 3) rfl (mk_i1 i) (by decide) rfl (fun ls hl => ?_)
          refine lv_goto (tgt := 2) hx hb d_Pt_isIn_27 (by decide) ?_
          have hl : lv_has ls 4 [(0, .ref h), (1, .ref hs), (2, .int (nI q)), (3, .int (nI (i + 1)))] := lv_sub hl [1, 2, 3, 0] rfl
          exact ih2 (i + 1) _ (by omega) (lt_s hq9 (by assumption)) hl
        · skip
          rw [nI_eq (by omega) (by omega)] at c_5
          refine lv_iconst (v := nI 0) hx hb d_Pt_isIn_22 (by decide) ?_
          exact mk_ti (by exact mk_bf (by simp only [inN, inK, decide_eq_false_iff_not]; intro h9; exact c_5 (h9 i (by omega)))) (hret _ _ d_Pt_isIn_23)
  have hl : lv_has ls 4 [(0, .ref h), (1, .ref hs), (2, .int (nI q)), (3, .int (nI 0))] := lv_sub hl [1, 2, 3, 0] rfl
  exact lp2 32 0 _ rfl (fun j hj => absurd hj (Nat.not_lt_zero j)) hl

set_option maxHeartbeats 4000000 in
set_option maxRecDepth 100000 in
theorem c_Pt_unit (l : Launch) (dC : Nat → ClassId) (dI : Nat → Nat → Nat) (cI : ClassId) (hs as : Nat) (B : Nat → Nat) (q i : Nat) (hB : ∀ j, B j < 256) (hq : q < 32) (hi : i < 13) : mR l y_Pt_unitIn w_Pt_unitIn ({ frames := 3, cells := 0, slots := 0, locals := 63 } : Room) [.ref hs, .int (nI q), .int (nI i)] (dC, dI) vwCl [(cI, .int)] [(hs, .inr (4, [.ref as])), (as, .inl (cI, 1024, .inl (nf B)))] (some (.int (nI (uiN B q i)))) := by
  refine mk_Ri (cc := b_Pt_unitIn) (maxL := 4) (by decide) rfl (Nat.le_of_ble_eq_true rfl) rfl ?_
  intro p e s m below meth c Q A ls S hP hK hT hS hl hret
  obtain ⟨hx, hb, hml, hown, hts⟩ := id S
  have hl : lv_has ls 4 [(0, .ref hs), (1, .int (nI q)), (2, .int (nI i))] := hl
  refine lv_iload_n hx hb d_Pt_unitIn_0 rfl (lv_at hl 2 rfl) ?_
  refine mk_r1 (W.runS (As := [.int (nI i)]) (rest := []) S (c_Pt_place l dC dI cI i (by first | assumption | omega)) (gS 1 hts k_435 k_436 k_27 k_437 (by decide +kernel) ⟨Nat.le_of_ble_eq_true rfl, Nat.le_of_ble_eq_true rfl⟩) (mk_sR hP hK hT hS [] rfl) rfl rfl hl.1 rfl (lv_room (Nat.le_of_ble_eq_true rfl)) d_Pt_unitIn_1 ⟨Nat.zero_le _, Nat.zero_le _⟩) ?_
  have b_1 := plN_le (show i < 13 by omega)
  refine lv_istore_n (lv' := [(3, .int (nI (plN i))), (0, .ref hs), (1, .int (nI q)), (2, .int (nI i))]) hx hb d_Pt_unitIn_4 rfl hl (by decide) rfl (fun ls hl => ?_)
  refine lv_aload_n hx hb d_Pt_unitIn_5 rfl (lv_at hl 1 rfl) ?_
  refine lv_iload_n hx hb d_Pt_unitIn_6 rfl (lv_at hl 2 rfl) ?_
  refine lv_iload_n hx hb d_Pt_unitIn_7 rfl (lv_at hl 0 rfl) ?_
  refine mk_r1 (W.runV (As := [.int (nI q), .int (nI (plN i))]) (rest := []) S (c_Sl_getN l dC dI cI hs as B q (plN i) (by first | assumption | omega) (by first | assumption | omega) (by first | assumption | omega)) (gV 2 hts k_510 k_214 k_215 k_28 k_216 (by decide +kernel) ⟨Nat.le_of_ble_eq_true rfl, Nat.le_of_ble_eq_true rfl⟩) (mk_vR hP hK hT hS [0, 1] rfl (q0 := 0) (ci := 4) rfl rfl) rfl rfl hl.1 rfl (lv_room (Nat.le_of_ble_eq_true rfl)) d_Pt_unitIn_8 ⟨Nat.zero_le _, Nat.zero_le _⟩) ?_
  have b_2 := (show ∀ j9, B j9 < 256 by assumption) (q * 32 + (plN i))
  refine lv_sipush (v := nI 256) hx hb d_Pt_unitIn_11 (by decide) ?_
  refine lv_aload_n hx hb d_Pt_unitIn_14 rfl (lv_at hl 1 rfl) ?_
  refine lv_iload_n hx hb d_Pt_unitIn_15 rfl (lv_at hl 2 rfl) ?_
  refine lv_iload_n hx hb d_Pt_unitIn_16 rfl (lv_at hl 0 rfl) ?_
  refine lv_iconst (v := nI 1) hx hb d_Pt_unitIn_17 (by decide) ?_
  refine lv_iadd hx hb d_Pt_unitIn_18 ?_
  refine mk_ti (y := nI (plN i + 1)) (nI_add (plN i) 1) ?_
  refine mk_r1 (W.runV (As := [.int (nI q), .int (nI (plN i + 1))]) (rest := [.int (nI 256), .int (nI (B (q * 32 + (plN i))))]) S (c_Sl_getN l dC dI cI hs as B q (plN i + 1) (by first | assumption | omega) (by first | assumption | omega) (by first | assumption | omega)) (gV 2 hts k_510 k_214 k_215 k_28 k_216 (by decide +kernel) ⟨Nat.le_of_ble_eq_true rfl, Nat.le_of_ble_eq_true rfl⟩) (mk_vR hP hK hT hS [0, 1] rfl (q0 := 0) (ci := 4) rfl rfl) rfl rfl hl.1 rfl (lv_room (Nat.le_of_ble_eq_true rfl)) d_Pt_unitIn_19 ⟨Nat.zero_le _, Nat.zero_le _⟩) ?_
  have b_3 := (show ∀ j9, B j9 < 256 by assumption) (q * 32 + (plN i + 1))
  refine lv_imul hx hb d_Pt_unitIn_22 ?_
  refine mk_ti (y := nI (256 * (B (q * 32 + (plN i + 1))))) (pk_mul 256 (B (q * 32 + (plN i + 1)))) ?_
  refine lv_iadd hx hb d_Pt_unitIn_23 ?_
  refine mk_ti (y := nI (B (q * 32 + (plN i)) + 256 * (B (q * 32 + (plN i + 1))))) (nI_add (B (q * 32 + (plN i))) (256 * (B (q * 32 + (plN i + 1))))) ?_
  exact mk_ti (by rfl) (hret _ _ d_Pt_unitIn_24)
end
section
set_option maxHeartbeats 4000000 in
set_option maxRecDepth 100000 in
theorem c_LN_row0 (l : Launch) (dC : Nat → ClassId) (dI : Nat → Nat → Nat) (cI : ClassId) (x f0 f1 h hp hs : Nat)  : mR l y_LN_rowOf w_LN_rowOf ({ frames := 0, cells := 0, slots := 0, locals := 0 } : Room) [.ref x, .int (nI 0)] (dC, dI) vwCl [(cI, .int)] [(x, .inr (0, [.ref f0, .ref f1, .ref h, .ref hp, .ref hs]))] (some (.ref f0)) := by
  refine mk_Ra (cc := b_LN_rowOf) (maxL := 2) (by decide) rfl (Nat.le_of_ble_eq_true rfl) (Or.inl ⟨_, rfl⟩) (Or.inr ⟨_, rfl⟩) ?_
  intro p e s m below meth c Q A ls S hP hK hT hS hl hret
  obtain ⟨hx, hb, hml, hown, hts⟩ := id S
  have hl : lv_has ls 2 [(0, .ref x), (1, .int (nI 0))] := hl
  refine lv_iload_n hx hb d_LN_rowOf_0 rfl (lv_at hl 1 rfl) ?_
  refine lv_if_ne (tgt := 9) hx hb d_LN_rowOf_1 (by decide) (fun c_1 => ?_) (fun c_1 => ?_)
  · skip
    rw [mk_ceq (by omega)] at c_1
    first | omega | contradiction
  · skip
    rw [mk_ceq (by omega)] at c_1
    refine lv_aload_n hx hb d_LN_rowOf_4 rfl (lv_at hl 0 rfl) ?_
    refine va_get (D := (dC, dI)) (ci := 0) (v := .ref f0) (C := "LongNames") (T := F_LN) (N := 5) hx hb hts (iw_LN _) hown hK hP 0 rfl rfl 0 (by decide) (hts _ (List.mem_cons_of_mem _ k_91)) (fun _ h9 => h9) rfl d_LN_rowOf_5 ?_
    exact hret _ _ d_LN_rowOf_8

set_option maxHeartbeats 4000000 in
set_option maxRecDepth 100000 in
theorem c_LN_row1 (l : Launch) (dC : Nat → ClassId) (dI : Nat → Nat → Nat) (cI : ClassId) (x f0 f1 h hp hs : Nat)  : mR l y_LN_rowOf w_LN_rowOf ({ frames := 0, cells := 0, slots := 0, locals := 0 } : Room) [.ref x, .int (nI 1)] (dC, dI) vwCl [(cI, .int)] [(x, .inr (0, [.ref f0, .ref f1, .ref h, .ref hp, .ref hs]))] (some (.ref f1)) := by
  refine mk_Ra (cc := b_LN_rowOf) (maxL := 2) (by decide) rfl (Nat.le_of_ble_eq_true rfl) (Or.inl ⟨_, rfl⟩) (Or.inr ⟨_, rfl⟩) ?_
  intro p e s m below meth c Q A ls S hP hK hT hS hl hret
  obtain ⟨hx, hb, hml, hown, hts⟩ := id S
  have hl : lv_has ls 2 [(0, .ref x), (1, .int (nI 1))] := hl
  refine lv_iload_n hx hb d_LN_rowOf_0 rfl (lv_at hl 1 rfl) ?_
  refine lv_if_ne (tgt := 9) hx hb d_LN_rowOf_1 (by decide) (fun c_1 => ?_) (fun c_1 => ?_)
  · skip
    rw [mk_ceq (by omega)] at c_1
    refine lv_iload_n hx hb d_LN_rowOf_9 rfl (lv_at hl 1 rfl) ?_
    refine lv_iconst (v := nI 1) hx hb d_LN_rowOf_10 (by decide) ?_
    refine lv_icmp_ne (tgt := 21) hx hb d_LN_rowOf_11 (by decide) (fun c_2 => ?_) (fun c_2 => ?_)
    · skip
      rw [nI_eq (by omega) (by omega)] at c_2
      first | omega | contradiction
    · skip
      rw [nI_eq (by omega) (by omega)] at c_2
      refine lv_aload_n hx hb d_LN_rowOf_14 rfl (lv_at hl 0 rfl) ?_
      refine va_get (D := (dC, dI)) (ci := 0) (v := .ref f1) (C := "LongNames") (T := F_LN) (N := 5) hx hb hts (iw_LN _) hown hK hP 0 rfl rfl 1 (by decide) (hts _ (List.mem_cons_of_mem _ k_92)) (fun _ h9 => h9) rfl d_LN_rowOf_15 ?_
      refine lv_goto (tgt := 22) hx hb d_LN_rowOf_18 (by decide) ?_
      exact hret _ _ d_LN_rowOf_22
  · skip
    rw [mk_ceq (by omega)] at c_1
    first | omega | contradiction

set_option maxHeartbeats 4000000 in
set_option maxRecDepth 100000 in
theorem c_LN_rowX (l : Launch) (dC : Nat → ClassId) (dI : Nat → Nat → Nat) (cI : ClassId) (x f0 f1 h hp hs : Nat) (r : Int32) (hr0 : ¬ r = 0) (hr1 : ¬ r = nI 1) : mR l y_LN_rowOf w_LN_rowOf ({ frames := 0, cells := 0, slots := 0, locals := 0 } : Room) [.ref x, .int r] (dC, dI) vwCl [(cI, .int)] [(x, .inr (0, [.ref f0, .ref f1, .ref h, .ref hp, .ref hs]))] (some (.null)) := by
  refine mk_Ra (cc := b_LN_rowOf) (maxL := 2) (by decide) rfl (Nat.le_of_ble_eq_true rfl) (Or.inl ⟨_, rfl⟩) (Or.inl rfl) ?_
  intro p e s m below meth c Q A ls S hP hK hT hS hl hret
  obtain ⟨hx, hb, hml, hown, hts⟩ := id S
  have hl : lv_has ls 2 [(0, .ref x), (1, .int r)] := hl
  refine lv_iload_n hx hb d_LN_rowOf_0 rfl (lv_at hl 1 rfl) ?_
  refine lv_if_ne (tgt := 9) hx hb d_LN_rowOf_1 (by decide) (fun c_1 => ?_) (fun c_1 => ?_)
  · skip
    refine lv_iload_n hx hb d_LN_rowOf_9 rfl (lv_at hl 1 rfl) ?_
    refine lv_iconst (v := nI 1) hx hb d_LN_rowOf_10 (by decide) ?_
    refine lv_icmp_ne (tgt := 21) hx hb d_LN_rowOf_11 (by decide) (fun c_2 => ?_) (fun c_2 => ?_)
    · skip
      refine lv_null hx hb d_LN_rowOf_21 ?_
      exact hret _ _ d_LN_rowOf_22
    · skip
      exact absurd c_2 hr1
  · skip
    exact absurd c_1 hr0

set_option maxHeartbeats 4000000 in
set_option maxRecDepth 100000 in
theorem c_LN_ws (l : Launch) (dC : Nat → ClassId) (dI : Nat → Nat → Nat) (cI : ClassId) (x f0 f1 h a : Nat) (b : Nat → Nat) (hp ap : Nat) (pb : Nat → Nat) (hs as : Nat) (B : Nat → Nat) (hr ar n : Nat) (v : Nat → Nat) (q p9 : Nat) (hn : n ≤ 255) (hv : ∀ j, v j < 65536) (hb9 : ∀ j, b j < 65536) (hpb : ∀ j, pb j < 65536) (hB : ∀ j, B j < 256) (hq : q < 32) (hp9 : p9 ≤ q) : mM l y_LN_writeSlots w_LN_writeSlots ({ frames := 4, cells := 0, slots := 0, locals := 87 } : Room) [.ref x, .ref hr, .int (nI q), .int (nI p9)] (dC, dI) vwCl [(cI, .int)] [(x, .inr (0, [.ref f0, .ref f1, .ref h, .ref hp, .ref hs])), (h, .inr (2, [.ref a])), (a, .inl (cI, 11, .inl (nf b))), (hp, .inr (3, [.ref ap])), (ap, .inl (cI, 32, .inl (nf pb))), (hs, .inr (4, [.ref as])), (as, .inl (cI, 1024, .inl (nf B))), (hr, .inr (1, [.ref ar, .int (nI n)])), (ar, .inl (cI, 255, .inl (nf v)))] none [(x, .inr (0, [.ref f0, .ref f1, .ref h, .ref hp, .ref hs])), (h, .inr (2, [.ref a])), (a, .inl (cI, 11, .inl (nf b))), (hp, .inr (3, [.ref ap])), (ap, .inl (cI, 32, .inl (nf (wpB v n (suN (stN B (enN b) (q * 32) 32) (q * 32) 11) pb p9)))), (hs, .inr (4, [.ref as])), (as, .inl (cI, 1024, .inl (nf (wsB v n (suN (stN B (enN b) (q * 32) 32) (q * 32) 11) q pb (stN B (enN b) (q * 32) 32) p9)))), (hr, .inr (1, [.ref ar, .int (nI n)])), (ar, .inl (cI, 255, .inl (nf v)))] := by
  have hB1 : ∀ j, (stN B (enN b) (q * 32) 32) j < 256 := stN_lt hB (enN_lt b)
  have hs9 := suN_lt (stN B (enN b) (q * 32) 32) (q * 32) 11
  refine mk_Mv (cc := b_LN_writeSlots) (maxL := 6) (by decide) rfl (Nat.le_of_ble_eq_true rfl) ?_
  intro p e s m below meth c Q A ls S hP hK hT hS hl hD hA hret
  obtain ⟨hx, hb, hml, hown, hts⟩ := id S
  have hl : lv_has ls 6 [(0, .ref x), (1, .ref hr), (2, .int (nI q)), (3, .int (nI p9))] := hl
  refine lv_aload_n hx hb d_LN_writeSlots_0 rfl (lv_at hl 0 rfl) ?_
  refine va_get (D := (dC, dI)) (ci := 0) (v := .ref h) (C := "LongNames") (T := F_LN) (N := 5) hx hb hts (iw_LN _) hown hK hP 0 rfl rfl 2 (by decide) (hts _ (List.mem_cons_of_mem _ k_93)) (fun _ h9 => h9) rfl d_LN_writeSlots_1 ?_
  refine lv_aload_n hx hb d_LN_writeSlots_4 rfl (lv_at hl 0 rfl) ?_
  refine va_get (D := (dC, dI)) (ci := 0) (v := .ref hs) (C := "LongNames") (T := F_LN) (N := 5) hx hb hts (iw_LN _) hown hK hP 0 rfl rfl 4 (by decide) (hts _ (List.mem_cons_of_mem _ k_95)) (fun _ h9 => h9) rfl d_LN_writeSlots_5 ?_
  refine lv_iload_n hx hb d_LN_writeSlots_8 rfl (lv_at hl 2 rfl) ?_
  refine mk_w0 (wr := [(x, .inr (0, [.ref f0, .ref f1, .ref h, .ref hp, .ref hs])), (hp, .inr (3, [.ref ap])), (ap, .inl (cI, 32, .inl (nf pb))), (hr, .inr (1, [.ref ar, .int (nI n)])), (ar, .inl (cI, 255, .inl (nf v)))]) (W.runV (As := [.ref hs, .int (nI q)]) (rest := []) S ((c_Sn_store l dC dI cI h a b hs as B q (by first | assumption | omega) (by first | assumption | omega)) _) (gV 2 hts k_410 k_411 k_412 k_26 k_413 (by decide +kernel) ⟨Nat.le_of_ble_eq_true rfl, Nat.le_of_ble_eq_true rfl⟩) (mk_vM hP hD hK hT hS hA [1, 2, 5, 6] rfl rfl (by decide) (q0 := 1) (ci := 2) rfl rfl) rfl rfl hl.1 rfl (lv_room (Nat.le_of_ble_eq_true rfl)) d_LN_writeSlots_9 ⟨Nat.zero_le _, Nat.zero_le _⟩) hP hD hS hA [1, 2, 5, 6] [0, 3, 4, 7, 8] rfl rfl (by decide) (by decide) (fun H locs hP hD hS => ?_)
  have hP : va_P (dC, dI) vwCl [(x, .inr (0, [.ref f0, .ref f1, .ref h, .ref hp, .ref hs])), (h, .inr (2, [.ref a])), (a, .inl (cI, 11, .inl (nf b))), (hp, .inr (3, [.ref ap])), (ap, .inl (cI, 32, .inl (nf pb))), (hs, .inr (4, [.ref as])), (as, .inl (cI, 1024, .inl (nf (stN B (enN b) (q * 32) 32)))), (hr, .inr (1, [.ref ar, .int (nI n)])), (ar, .inl (cI, 255, .inl (nf v)))] H := hP.sub [0, 5, 6, 1, 2, 7, 8, 3, 4] rfl
  have hD : va_D A [(x, .inr (0, [.ref f0, .ref f1, .ref h, .ref hp, .ref hs])), (h, .inr (2, [.ref a])), (a, .inl (cI, 11, .inl (nf b))), (hp, .inr (3, [.ref ap])), (ap, .inl (cI, 32, .inl (nf pb))), (hs, .inr (4, [.ref as])), (as, .inl (cI, 1024, .inl (nf (stN B (enN b) (q * 32) 32)))), (hr, .inr (1, [.ref ar, .int (nI n)])), (ar, .inl (cI, 255, .inl (nf v)))] := hD.sub [0, 5, 6, 1, 2, 7, 8, 3, 4] (by decide) rfl
  refine lv_aload_n hx hb d_LN_writeSlots_12 rfl (lv_at hl 0 rfl) ?_
  refine va_get (D := (dC, dI)) (ci := 0) (v := .ref hs) (C := "LongNames") (T := F_LN) (N := 5) hx hb hts (iw_LN _) hown hK hP 0 rfl rfl 4 (by decide) (hts _ (List.mem_cons_of_mem _ k_95)) (fun _ h9 => h9) rfl d_LN_writeSlots_13 ?_
  refine lv_iload_n hx hb d_LN_writeSlots_16 rfl (lv_at hl 2 rfl) ?_
  refine mk_r1 (W.runV (As := [.int (nI q)]) (rest := []) S (c_Sl_sum l dC dI cI hs as (stN B (enN b) (q * 32) 32) q (by first | assumption | omega) (by first | assumption | omega)) (gV 1 hts k_222 k_223 k_224 k_28 k_225 (by decide +kernel) ⟨Nat.le_of_ble_eq_true rfl, Nat.le_of_ble_eq_true rfl⟩) (mk_vR hP hK hT hS [5, 6] rfl (q0 := 5) (ci := 4) rfl rfl) rfl rfl hl.1 rfl (lv_room (Nat.le_of_ble_eq_true rfl)) d_LN_writeSlots_17 ⟨Nat.zero_le _, Nat.zero_le _⟩) ?_
  refine lv_istore (lv' := [(4, .int (nI (suN (stN B (enN b) (q * 32) 32) (q * 32) 11))), (0, .ref x), (1, .ref hr), (2, .int (nI q)), (3, .int (nI p9))]) hx hb d_LN_writeSlots_20 hl (by decide) rfl (fun ls hl => ?_)
  refine lv_iconst (v := nI 1) hx hb d_LN_writeSlots_22 (by decide) ?_
  refine lv_istore (lv' := [(5, .int (nI 1)), (4, .int (nI (suN (stN B (enN b) (q * 32) 32) (q * 32) 11))), (0, .ref x), (1, .ref hr), (2, .int (nI q)), (3, .int (nI p9))]) hx hb d_LN_writeSlots_23 hl (by decide) rfl (fun ls hl => ?_)
  have lp25 : ∀ (k : Nat) (i : Nat) (H : Heap) (locs : List Loc) (ls : Array Slot), (i + k = p9) → va_P (dC, dI) vwCl [(x, .inr (0, [.ref f0, .ref f1, .ref h, .ref hp, .ref hs])), (h, .inr (2, [.ref a])), (a, .inl (cI, 11, .inl (nf b))), (hp, .inr (3, [.ref ap])), (ap, .inl (cI, 32, .inl (nf (wpB v n (suN (stN B (enN b) (q * 32) 32) (q * 32) 11) pb i)))), (hs, .inr (4, [.ref as])), (as, .inl (cI, 1024, .inl (nf (wsB v n (suN (stN B (enN b) (q * 32) 32) (q * 32) 11) q pb (stN B (enN b) (q * 32) 32) i)))), (hr, .inr (1, [.ref ar, .int (nI n)])), (ar, .inl (cI, 255, .inl (nf v)))] H → va_D A [(x, .inr (0, [.ref f0, .ref f1, .ref h, .ref hp, .ref hs])), (h, .inr (2, [.ref a])), (a, .inl (cI, 11, .inl (nf b))), (hp, .inr (3, [.ref ap])), (ap, .inl (cI, 32, .inl (nf (wpB v n (suN (stN B (enN b) (q * 32) 32) (q * 32) 11) pb i)))), (hs, .inr (4, [.ref as])), (as, .inl (cI, 1024, .inl (nf (wsB v n (suN (stN B (enN b) (q * 32) 32) (q * 32) 11) q pb (stN B (enN b) (q * 32) 32) i)))), (hr, .inr (1, [.ref ar, .int (nI n)])), (ar, .inl (cI, 255, .inl (nf v)))] → va_S A s.heap H locs → lv_has ls 6 [(0, .ref x), (1, .ref hr), (2, .int (nI q)), (3, .int (nI p9)), (4, .int (nI (suN (stN B (enN b) (q * 32) 32) (q * 32) 11))), (5, .int (nI (i + 1)))] → W p l e ({ frames := 4, cells := 0, slots := 0, locals := 87 } : Room) s m ([.ref x, .ref hr, .int (nI q), .int (nI p9)] : List Value).toArray below meth c H locs 0 0 Q (F0 m 25 ls []) := by
    intro k
    induction k with
    | zero =>
      intro i H locs ls hi hP hD hS hl
      refine lv_iload hx hb d_LN_writeSlots_25 (lv_at hl 5 rfl) ?_
      refine lv_iload_n hx hb d_LN_writeSlots_27 rfl (lv_at hl 3 rfl) ?_
      refine lv_icmp_gt (tgt := 64) hx hb d_LN_writeSlots_28 (by decide) (fun c_1 => ?_) (fun c_1 => ?_)
      · skip
        rw [nI_ltI (by omega) (by omega)] at c_1
        have hw9 : ([(x, .inr (0, [.ref f0, .ref f1, .ref h, .ref hp, .ref hs])), (h, .inr (2, [.ref a])), (a, .inl (cI, 11, .inl (nf b))), (hp, .inr (3, [.ref ap])), (ap, .inl (cI, 32, .inl (nf (wpB v n (suN (stN B (enN b) (q * 32) 32) (q * 32) 11) pb i)))), (hs, .inr (4, [.ref as])), (as, .inl (cI, 1024, .inl (nf (wsB v n (suN (stN B (enN b) (q * 32) 32) (q * 32) 11) q pb (stN B (enN b) (q * 32) 32) i)))), (hr, .inr (1, [.ref ar, .int (nI n)])), (ar, .inl (cI, 255, .inl (nf v)))] : va_W) = [(x, .inr (0, [.ref f0, .ref f1, .ref h, .ref hp, .ref hs])), (h, .inr (2, [.ref a])), (a, .inl (cI, 11, .inl (nf b))), (hp, .inr (3, [.ref ap])), (ap, .inl (cI, 32, .inl (nf (wpB v n (suN (stN B (enN b) (q * 32) 32) (q * 32) 11) pb p9)))), (hs, .inr (4, [.ref as])), (as, .inl (cI, 1024, .inl (nf (wsB v n (suN (stN B (enN b) (q * 32) 32) (q * 32) 11) q pb (stN B (enN b) (q * 32) 32) p9)))), (hr, .inr (1, [.ref ar, .int (nI n)])), (ar, .inl (cI, 255, .inl (nf v)))] := by rw [show i = p9 by omega]
        rw [hw9] at hP hD
        exact hret _ _ _ _ d_LN_writeSlots_64 hP hD hS
      · skip
        rw [nI_ltI (by omega) (by omega)] at c_1
        first | omega | contradiction
    | succ k ih25 =>
      intro i H locs ls hi hP hD hS hl
      have hw7 := wpB_lt (n := n) (su := suN (stN B (enN b) (q * 32) 32) (q * 32) 11) (pb := pb) hv hpb hs9 i (by omega)
      have hw6 := wpB_lt (n := n) (su := suN (stN B (enN b) (q * 32) 32) (q * 32) 11) (pb := pb) hv hpb hs9 (i + 1) (by omega)
      refine lv_iload hx hb d_LN_writeSlots_25 (lv_at hl 5 rfl) ?_
      refine lv_iload_n hx hb d_LN_writeSlots_27 rfl (lv_at hl 3 rfl) ?_
      refine lv_icmp_gt (tgt := 64) hx hb d_LN_writeSlots_28 (by decide) (fun c_2 => ?_) (fun c_2 => ?_)
      · skip
        rw [nI_ltI (by omega) (by omega)] at c_2
        first | omega | contradiction
      · skip
        rw [nI_ltI (by omega) (by omega)] at c_2
        refine lv_aload_n hx hb d_LN_writeSlots_31 rfl (lv_at hl 0 rfl) ?_
        refine va_get (D := (dC, dI)) (ci := 0) (v := .ref hp) (C := "LongNames") (T := F_LN) (N := 5) hx hb hts (iw_LN _) hown hK hP 0 rfl rfl 3 (by decide) (hts _ (List.mem_cons_of_mem _ k_94)) (fun _ h9 => h9) rfl d_LN_writeSlots_32 ?_
        refine lv_aload_n hx hb d_LN_writeSlots_35 rfl (lv_at hl 1 rfl) ?_
        refine lv_iload hx hb d_LN_writeSlots_36 (lv_at hl 5 rfl) ?_
        refine lv_iload hx hb d_LN_writeSlots_38 (lv_at hl 4 rfl) ?_
        refine mk_w0 (wr := [(x, .inr (0, [.ref f0, .ref f1, .ref h, .ref hp, .ref hs])), (h, .inr (2, [.ref a])), (a, .inl (cI, 11, .inl (nf b))), (hs, .inr (4, [.ref as])), (as, .inl (cI, 1024, .inl (nf (wsB v n (suN (stN B (enN b) (q * 32) 32) (q * 32) 11) q pb (stN B (enN b) (q * 32) 32) i))))]) (W.runV (As := [.ref hr, .int (nI (i + 1)), .int (nI (suN (stN B (enN b) (q * 32) 32) (q * 32) 11))]) (rest := []) S ((c_Pt_build l dC dI cI hp ap (wpB v n (suN (stN B (enN b) (q * 32) 32) (q * 32) 11) pb i) hr ar n v (i + 1) (suN (stN B (enN b) (q * 32) 32) (q * 32) 11) (by first | assumption | omega) (by first | assumption | omega) (by first | assumption | omega) (by first | assumption | omega)) _) (gV 3 hts k_419 k_420 k_421 k_27 k_422 (by decide +kernel) ⟨Nat.le_of_ble_eq_true rfl, Nat.le_of_ble_eq_true rfl⟩) (mk_vM hP hD hK hT hS hA [3, 4, 7, 8] rfl rfl (by decide) (q0 := 3) (ci := 3) rfl rfl) rfl rfl hl.1 rfl (lv_room (Nat.le_of_ble_eq_true rfl)) d_LN_writeSlots_40 ⟨Nat.zero_le _, Nat.zero_le _⟩) hP hD hS hA [3, 4, 7, 8] [0, 1, 2, 5, 6] rfl rfl (by decide) (by decide) (fun H locs hP hD hS => ?_)
        have hP : va_P (dC, dI) vwCl [(x, .inr (0, [.ref f0, .ref f1, .ref h, .ref hp, .ref hs])), (h, .inr (2, [.ref a])), (a, .inl (cI, 11, .inl (nf b))), (hp, .inr (3, [.ref ap])), (ap, .inl (cI, 32, .inl (nf (bdN v n (i + 1) (suN (stN B (enN b) (q * 32) 32) (q * 32) 11) (wpB v n (suN (stN B (enN b) (q * 32) 32) (q * 32) 11) pb i))))), (hs, .inr (4, [.ref as])), (as, .inl (cI, 1024, .inl (nf (wsB v n (suN (stN B (enN b) (q * 32) 32) (q * 32) 11) q pb (stN B (enN b) (q * 32) 32) i)))), (hr, .inr (1, [.ref ar, .int (nI n)])), (ar, .inl (cI, 255, .inl (nf v)))] H := hP.sub [0, 1, 2, 5, 6, 3, 4, 7, 8] rfl
        have hD : va_D A [(x, .inr (0, [.ref f0, .ref f1, .ref h, .ref hp, .ref hs])), (h, .inr (2, [.ref a])), (a, .inl (cI, 11, .inl (nf b))), (hp, .inr (3, [.ref ap])), (ap, .inl (cI, 32, .inl (nf (bdN v n (i + 1) (suN (stN B (enN b) (q * 32) 32) (q * 32) 11) (wpB v n (suN (stN B (enN b) (q * 32) 32) (q * 32) 11) pb i))))), (hs, .inr (4, [.ref as])), (as, .inl (cI, 1024, .inl (nf (wsB v n (suN (stN B (enN b) (q * 32) 32) (q * 32) 11) q pb (stN B (enN b) (q * 32) 32) i)))), (hr, .inr (1, [.ref ar, .int (nI n)])), (ar, .inl (cI, 255, .inl (nf v)))] := hD.sub [0, 1, 2, 5, 6, 3, 4, 7, 8] (by decide) rfl
        refine lv_aload_n hx hb d_LN_writeSlots_43 rfl (lv_at hl 0 rfl) ?_
        refine va_get (D := (dC, dI)) (ci := 0) (v := .ref hp) (C := "LongNames") (T := F_LN) (N := 5) hx hb hts (iw_LN _) hown hK hP 0 rfl rfl 3 (by decide) (hts _ (List.mem_cons_of_mem _ k_94)) (fun _ h9 => h9) rfl d_LN_writeSlots_44 ?_
        refine lv_aload_n hx hb d_LN_writeSlots_47 rfl (lv_at hl 0 rfl) ?_
        refine va_get (D := (dC, dI)) (ci := 0) (v := .ref hs) (C := "LongNames") (T := F_LN) (N := 5) hx hb hts (iw_LN _) hown hK hP 0 rfl rfl 4 (by decide) (hts _ (List.mem_cons_of_mem _ k_95)) (fun _ h9 => h9) rfl d_LN_writeSlots_48 ?_
        refine lv_iload_n hx hb d_LN_writeSlots_51 rfl (lv_at hl 2 rfl) ?_
        refine lv_iload hx hb d_LN_writeSlots_52 (lv_at hl 5 rfl) ?_
        refine lv_isub hx hb d_LN_writeSlots_54 ?_
        refine mk_ti (y := nI (q - (i + 1))) (pk_sub (by omega)) ?_
        refine mk_w0 (wr := [(x, .inr (0, [.ref f0, .ref f1, .ref h, .ref hp, .ref hs])), (h, .inr (2, [.ref a])), (a, .inl (cI, 11, .inl (nf b))), (hr, .inr (1, [.ref ar, .int (nI n)])), (ar, .inl (cI, 255, .inl (nf v)))]) (W.runV (As := [.ref hs, .int (nI (q - (i + 1)))]) (rest := []) S ((c_Pt_store l dC dI cI hp ap (bdN v n (i + 1) (suN (stN B (enN b) (q * 32) 32) (q * 32) 11) (wpB v n (suN (stN B (enN b) (q * 32) 32) (q * 32) 11) pb i)) hs as (wsB v n (suN (stN B (enN b) (q * 32) 32) (q * 32) 11) q pb (stN B (enN b) (q * 32) 32) i) (q - (i + 1)) (by first | assumption | omega) (by first | assumption | omega)) _) (gV 2 hts k_440 k_441 k_442 k_27 k_443 (by decide +kernel) ⟨Nat.le_of_ble_eq_true rfl, Nat.le_of_ble_eq_true rfl⟩) (mk_vM hP hD hK hT hS hA [3, 4, 5, 6] rfl rfl (by decide) (q0 := 3) (ci := 3) rfl rfl) rfl rfl hl.1 rfl (lv_room (Nat.le_of_ble_eq_true rfl)) d_LN_writeSlots_55 ⟨Nat.zero_le _, Nat.zero_le _⟩) hP hD hS hA [3, 4, 5, 6] [0, 1, 2, 7, 8] rfl rfl (by decide) (by decide) (fun H locs hP hD hS => ?_)
        have hP : va_P (dC, dI) vwCl [(x, .inr (0, [.ref f0, .ref f1, .ref h, .ref hp, .ref hs])), (h, .inr (2, [.ref a])), (a, .inl (cI, 11, .inl (nf b))), (hp, .inr (3, [.ref ap])), (ap, .inl (cI, 32, .inl (nf (bdN v n (i + 1) (suN (stN B (enN b) (q * 32) 32) (q * 32) 11) (wpB v n (suN (stN B (enN b) (q * 32) 32) (q * 32) 11) pb i))))), (hs, .inr (4, [.ref as])), (as, .inl (cI, 1024, .inl (nf (stN (wsB v n (suN (stN B (enN b) (q * 32) 32) (q * 32) 11) q pb (stN B (enN b) (q * 32) 32) i) (moN (bdN v n (i + 1) (suN (stN B (enN b) (q * 32) 32) (q * 32) 11) (wpB v n (suN (stN B (enN b) (q * 32) 32) (q * 32) 11) pb i))) ((q - (i + 1)) * 32) 32)))), (hr, .inr (1, [.ref ar, .int (nI n)])), (ar, .inl (cI, 255, .inl (nf v)))] H := hP.sub [0, 1, 2, 5, 6, 7, 8, 3, 4] rfl
        have hD : va_D A [(x, .inr (0, [.ref f0, .ref f1, .ref h, .ref hp, .ref hs])), (h, .inr (2, [.ref a])), (a, .inl (cI, 11, .inl (nf b))), (hp, .inr (3, [.ref ap])), (ap, .inl (cI, 32, .inl (nf (bdN v n (i + 1) (suN (stN B (enN b) (q * 32) 32) (q * 32) 11) (wpB v n (suN (stN B (enN b) (q * 32) 32) (q * 32) 11) pb i))))), (hs, .inr (4, [.ref as])), (as, .inl (cI, 1024, .inl (nf (stN (wsB v n (suN (stN B (enN b) (q * 32) 32) (q * 32) 11) q pb (stN B (enN b) (q * 32) 32) i) (moN (bdN v n (i + 1) (suN (stN B (enN b) (q * 32) 32) (q * 32) 11) (wpB v n (suN (stN B (enN b) (q * 32) 32) (q * 32) 11) pb i))) ((q - (i + 1)) * 32) 32)))), (hr, .inr (1, [.ref ar, .int (nI n)])), (ar, .inl (cI, 255, .inl (nf v)))] := hD.sub [0, 1, 2, 5, 6, 7, 8, 3, 4] (by decide) rfl
        refine lv_iinc (v := nI (i + 1 + 1)) (lv' := [(5, .int (nI (i + 1 + 1))), (0, .ref x), (1, .ref hr), (2, .int (nI q)), (3, .int (nI p9)), (4, .int (nI (suN (stN B (enN b) (q * 32) 32) (q * 32) 11)))]) hx hb d_LN_writeSlots_58 hl (k := 5) rfl (mk_i1 (i + 1)) (by decide) rfl (fun ls hl => ?_)
        refine lv_goto (tgt := 25) hx hb d_LN_writeSlots_61 (by decide) ?_
        have hl : lv_has ls 6 [(0, .ref x), (1, .ref hr), (2, .int (nI q)), (3, .int (nI p9)), (4, .int (nI (suN (stN B (enN b) (q * 32) 32) (q * 32) 11))), (5, .int (nI (i + 1 + 1)))] := lv_sub hl [1, 2, 3, 4, 5, 0] rfl
        have hl9 : ([(0, .ref x), (1, .ref hr), (2, .int (nI q)), (3, .int (nI p9)), (4, .int (nI (suN (stN B (enN b) (q * 32) 32) (q * 32) 11))), (5, .int (nI (i + 1 + 1)))] : List (Nat × Value)) = [(0, .ref x), (1, .ref hr), (2, .int (nI q)), (3, .int (nI p9)), (4, .int (nI (suN (stN B (enN b) (q * 32) 32) (q * 32) 11))), (5, .int (nI ((i + 1) + 1)))] := by rfl
        rw [hl9] at hl
        have hw9 : ([(x, .inr (0, [.ref f0, .ref f1, .ref h, .ref hp, .ref hs])), (h, .inr (2, [.ref a])), (a, .inl (cI, 11, .inl (nf b))), (hp, .inr (3, [.ref ap])), (ap, .inl (cI, 32, .inl (nf (bdN v n (i + 1) (suN (stN B (enN b) (q * 32) 32) (q * 32) 11) (wpB v n (suN (stN B (enN b) (q * 32) 32) (q * 32) 11) pb i))))), (hs, .inr (4, [.ref as])), (as, .inl (cI, 1024, .inl (nf (stN (wsB v n (suN (stN B (enN b) (q * 32) 32) (q * 32) 11) q pb (stN B (enN b) (q * 32) 32) i) (moN (bdN v n (i + 1) (suN (stN B (enN b) (q * 32) 32) (q * 32) 11) (wpB v n (suN (stN B (enN b) (q * 32) 32) (q * 32) 11) pb i))) ((q - (i + 1)) * 32) 32)))), (hr, .inr (1, [.ref ar, .int (nI n)])), (ar, .inl (cI, 255, .inl (nf v)))] : va_W) = [(x, .inr (0, [.ref f0, .ref f1, .ref h, .ref hp, .ref hs])), (h, .inr (2, [.ref a])), (a, .inl (cI, 11, .inl (nf b))), (hp, .inr (3, [.ref ap])), (ap, .inl (cI, 32, .inl (nf (wpB v n (suN (stN B (enN b) (q * 32) 32) (q * 32) 11) pb (i + 1))))), (hs, .inr (4, [.ref as])), (as, .inl (cI, 1024, .inl (nf (wsB v n (suN (stN B (enN b) (q * 32) 32) (q * 32) 11) q pb (stN B (enN b) (q * 32) 32) (i + 1))))), (hr, .inr (1, [.ref ar, .int (nI n)])), (ar, .inl (cI, 255, .inl (nf v)))] := by rfl
        rw [hw9] at hP hD
        exact ih25 (i + 1) _ _ _ (by omega) hP hD hS hl
  have hl : lv_has ls 6 [(0, .ref x), (1, .ref hr), (2, .int (nI q)), (3, .int (nI p9)), (4, .int (nI (suN (stN B (enN b) (q * 32) 32) (q * 32) 11))), (5, .int (nI 1))] := lv_sub hl [2, 3, 4, 5, 1, 0] rfl
  have hl9 : ([(0, .ref x), (1, .ref hr), (2, .int (nI q)), (3, .int (nI p9)), (4, .int (nI (suN (stN B (enN b) (q * 32) 32) (q * 32) 11))), (5, .int (nI 1))] : List (Nat × Value)) = [(0, .ref x), (1, .ref hr), (2, .int (nI q)), (3, .int (nI p9)), (4, .int (nI (suN (stN B (enN b) (q * 32) 32) (q * 32) 11))), (5, .int (nI (0 + 1)))] := by rfl
  rw [hl9] at hl
  have hw9 : ([(x, .inr (0, [.ref f0, .ref f1, .ref h, .ref hp, .ref hs])), (h, .inr (2, [.ref a])), (a, .inl (cI, 11, .inl (nf b))), (hp, .inr (3, [.ref ap])), (ap, .inl (cI, 32, .inl (nf pb))), (hs, .inr (4, [.ref as])), (as, .inl (cI, 1024, .inl (nf (stN B (enN b) (q * 32) 32)))), (hr, .inr (1, [.ref ar, .int (nI n)])), (ar, .inl (cI, 255, .inl (nf v)))] : va_W) = [(x, .inr (0, [.ref f0, .ref f1, .ref h, .ref hp, .ref hs])), (h, .inr (2, [.ref a])), (a, .inl (cI, 11, .inl (nf b))), (hp, .inr (3, [.ref ap])), (ap, .inl (cI, 32, .inl (nf (wpB v n (suN (stN B (enN b) (q * 32) 32) (q * 32) 11) pb 0)))), (hs, .inr (4, [.ref as])), (as, .inl (cI, 1024, .inl (nf (wsB v n (suN (stN B (enN b) (q * 32) 32) (q * 32) 11) q pb (stN B (enN b) (q * 32) 32) 0)))), (hr, .inr (1, [.ref ar, .int (nI n)])), (ar, .inl (cI, 255, .inl (nf v)))] := by rfl
  rw [hw9] at hP hD
  exact lp25 p9 0 _ _ _ (by omega) hP hD hS hl

set_option maxHeartbeats 4000000 in
set_option maxRecDepth 100000 in
theorem c_LN_co (l : Launch) (dC : Nat → ClassId) (dI : Nat → Nat → Nat) (cI : ClassId) (x f0 f1 h hp hs as : Nat) (B : Nat → Nat) (hr ar : Nat) (v : Nat → Nat) (q p9 : Nat) (hB : ∀ j, B j < 256) (hq : q < 32) (hp9 : p9 ≤ q) (hp20 : p9 ≤ 20) : mM l y_LN_collectUnits w_LN_collectUnits ({ frames := 4, cells := 0, slots := 0, locals := 86 } : Room) [.ref x, .ref hr, .int (nI q), .int (nI p9)] (dC, dI) vwCl [(cI, .int)] [(x, .inr (0, [.ref f0, .ref f1, .ref h, .ref hp, .ref hs])), (hs, .inr (4, [.ref as])), (as, .inl (cI, 1024, .inl (nf B))), (hr, .inr (1, [.ref ar, .int (nI 0)])), (ar, .inl (cI, 255, .inl (nf v)))] none [(x, .inr (0, [.ref f0, .ref f1, .ref h, .ref hp, .ref hs])), (hs, .inr (4, [.ref as])), (as, .inl (cI, 1024, .inl (nf B))), (hr, .inr (1, [.ref ar, .int (nI (coC (unN B q) (13 * p9) 0))])), (ar, .inl (cI, 255, .inl (nf (coV v (unN B q) (coC (unN B q) (13 * p9) 0)))))] := by
  refine mk_Mv (cc := b_LN_collectUnits) (maxL := 7) (by decide) rfl (Nat.le_of_ble_eq_true rfl) ?_
  intro p e s m below meth c Q A ls S hP hK hT hS hl hD hA hret
  obtain ⟨hx, hb, hml, hown, hts⟩ := id S
  have hl : lv_has ls 7 [(0, .ref x), (1, .ref hr), (2, .int (nI q)), (3, .int (nI p9))] := hl
  refine lv_iconst (v := nI 1) hx hb d_LN_collectUnits_0 (by decide) ?_
  refine lv_istore (lv' := [(4, .int (nI 1)), (0, .ref x), (1, .ref hr), (2, .int (nI q)), (3, .int (nI p9))]) hx hb d_LN_collectUnits_1 hl (by decide) rfl (fun ls hl => ?_)
  have lp3 : ∀ (k : Nat) (io : Nat) (H : Heap) (locs : List Loc) (ls : Array Slot), (io + k = p9) → (13 * io ≤ 255 ∨ k = 0) → (coC (unN B q) (13 * p9) 0 = coC (unN B q) (13 * k) (13 * io)) → va_P (dC, dI) vwCl [(x, .inr (0, [.ref f0, .ref f1, .ref h, .ref hp, .ref hs])), (hs, .inr (4, [.ref as])), (as, .inl (cI, 1024, .inl (nf B))), (hr, .inr (1, [.ref ar, .int (nI (13 * io))])), (ar, .inl (cI, 255, .inl (nf (coV v (unN B q) (13 * io)))))] H → va_D A [(x, .inr (0, [.ref f0, .ref f1, .ref h, .ref hp, .ref hs])), (hs, .inr (4, [.ref as])), (as, .inl (cI, 1024, .inl (nf B))), (hr, .inr (1, [.ref ar, .int (nI (13 * io))])), (ar, .inl (cI, 255, .inl (nf (coV v (unN B q) (13 * io)))))] → va_S A s.heap H locs → lv_has ls 7 [(0, .ref x), (1, .ref hr), (2, .int (nI q)), (3, .int (nI p9)), (4, .int (nI (io + 1)))] → W p l e ({ frames := 4, cells := 0, slots := 0, locals := 86 } : Room) s m ([.ref x, .ref hr, .int (nI q), .int (nI p9)] : List Value).toArray below meth c H locs 0 0 Q (F0 m 3 ls []) := by
    intro k
    induction k with
    | zero =>
      intro io H locs ls hi ht9 hE hP hD hS hl
      refine lv_iload hx hb d_LN_collectUnits_3 (lv_at hl 4 rfl) ?_
      refine lv_iload_n hx hb d_LN_collectUnits_5 rfl (lv_at hl 3 rfl) ?_
      refine lv_icmp_gt (tgt := 61) hx hb d_LN_collectUnits_6 (by decide) (fun c_1 => ?_) (fun c_1 => ?_)
      · skip
        rw [nI_ltI (by omega) (by omega)] at c_1
        have hw9 : ([(x, .inr (0, [.ref f0, .ref f1, .ref h, .ref hp, .ref hs])), (hs, .inr (4, [.ref as])), (as, .inl (cI, 1024, .inl (nf B))), (hr, .inr (1, [.ref ar, .int (nI (13 * io))])), (ar, .inl (cI, 255, .inl (nf (coV v (unN B q) (13 * io)))))] : va_W) = [(x, .inr (0, [.ref f0, .ref f1, .ref h, .ref hp, .ref hs])), (hs, .inr (4, [.ref as])), (as, .inl (cI, 1024, .inl (nf B))), (hr, .inr (1, [.ref ar, .int (nI (coC (unN B q) (13 * p9) 0))])), (ar, .inl (cI, 255, .inl (nf (coV v (unN B q) (coC (unN B q) (13 * p9) 0)))))] := by rw [show coC (unN B q) (13 * p9) 0 = 13 * io from hE]
        rw [hw9] at hP hD
        exact hret _ _ _ _ d_LN_collectUnits_61 hP hD hS
      · skip
        rw [nI_ltI (by omega) (by omega)] at c_1
        first | omega | contradiction
    | succ k ih3 =>
      intro io H locs ls hi ht9 hE hP hD hS hl
      refine lv_iload hx hb d_LN_collectUnits_3 (lv_at hl 4 rfl) ?_
      refine lv_iload_n hx hb d_LN_collectUnits_5 rfl (lv_at hl 3 rfl) ?_
      refine lv_icmp_gt (tgt := 61) hx hb d_LN_collectUnits_6 (by decide) (fun c_2 => ?_) (fun c_2 => ?_)
      · skip
        rw [nI_ltI (by omega) (by omega)] at c_2
        first | omega | contradiction
      · skip
        rw [nI_ltI (by omega) (by omega)] at c_2
        refine lv_iconst (v := nI 0) hx hb d_LN_collectUnits_9 (by decide) ?_
        refine lv_istore (lv' := [(5, .int (nI 0)), (0, .ref x), (1, .ref hr), (2, .int (nI q)), (3, .int (nI p9)), (4, .int (nI (io + 1)))]) hx hb d_LN_collectUnits_10 hl (by decide) rfl (fun ls hl => ?_)
        have lp12 : ∀ (k2 : Nat) (i : Nat) (H : Heap) (locs : List Loc) (ls : Array Slot), (i + k2 = 13) → (13 * io + i ≤ 255) → (coC (unN B q) (13 * p9) 0 = coC (unN B q) (13 * k + k2) (13 * io + i)) → va_P (dC, dI) vwCl [(x, .inr (0, [.ref f0, .ref f1, .ref h, .ref hp, .ref hs])), (hs, .inr (4, [.ref as])), (as, .inl (cI, 1024, .inl (nf B))), (hr, .inr (1, [.ref ar, .int (nI (13 * io + i))])), (ar, .inl (cI, 255, .inl (nf (coV v (unN B q) (13 * io + i)))))] H → va_D A [(x, .inr (0, [.ref f0, .ref f1, .ref h, .ref hp, .ref hs])), (hs, .inr (4, [.ref as])), (as, .inl (cI, 1024, .inl (nf B))), (hr, .inr (1, [.ref ar, .int (nI (13 * io + i))])), (ar, .inl (cI, 255, .inl (nf (coV v (unN B q) (13 * io + i)))))] → va_S A s.heap H locs → lv_has ls 7 [(0, .ref x), (1, .ref hr), (2, .int (nI q)), (3, .int (nI p9)), (4, .int (nI (io + 1))), (5, .int (nI i))] → W p l e ({ frames := 4, cells := 0, slots := 0, locals := 86 } : Room) s m ([.ref x, .ref hr, .int (nI q), .int (nI p9)] : List Value).toArray below meth c H locs 0 0 Q (F0 m 12 ls []) := by
          intro k2
          induction k2 with
          | zero =>
            intro i H locs ls hi2 ht2 hE2 hP hD hS hl
            have hio : 13 * io + i = 13 * (io + 1) := by omega
            refine lv_iload hx hb d_LN_collectUnits_12 (lv_at hl 5 rfl) ?_
            refine lv_bipush (v := nI 13) hx hb d_LN_collectUnits_14 (by decide) ?_
            refine lv_icmp_ge (tgt := 55) hx hb d_LN_collectUnits_16 (by decide) (fun c_3 => ?_) (fun c_3 => ?_)
            · skip
              rw [nI_leI (by omega) (by omega)] at c_3
              refine lv_iinc (v := nI (io + 1 + 1)) (lv' := [(4, .int (nI (io + 1 + 1))), (0, .ref x), (1, .ref hr), (2, .int (nI q)), (3, .int (nI p9)), (5, .int (nI i))]) hx hb d_LN_collectUnits_55 hl (k := 4) rfl (mk_i1 (io + 1)) (by decide) rfl (fun ls hl => ?_)
              refine lv_goto (tgt := 3) hx hb d_LN_collectUnits_58 (by decide) ?_
              have hl : lv_has ls 7 [(0, .ref x), (1, .ref hr), (2, .int (nI q)), (3, .int (nI p9)), (4, .int (nI (io + 1 + 1)))] := lv_sub hl [1, 2, 3, 4, 0] rfl
              have hl9 : ([(0, .ref x), (1, .ref hr), (2, .int (nI q)), (3, .int (nI p9)), (4, .int (nI (io + 1 + 1)))] : List (Nat × Value)) = [(0, .ref x), (1, .ref hr), (2, .int (nI q)), (3, .int (nI p9)), (4, .int (nI ((io + 1) + 1)))] := by rfl
              rw [hl9] at hl
              have hw9 : ([(x, .inr (0, [.ref f0, .ref f1, .ref h, .ref hp, .ref hs])), (hs, .inr (4, [.ref as])), (as, .inl (cI, 1024, .inl (nf B))), (hr, .inr (1, [.ref ar, .int (nI (13 * io + i))])), (ar, .inl (cI, 255, .inl (nf (coV v (unN B q) (13 * io + i)))))] : va_W) = [(x, .inr (0, [.ref f0, .ref f1, .ref h, .ref hp, .ref hs])), (hs, .inr (4, [.ref as])), (as, .inl (cI, 1024, .inl (nf B))), (hr, .inr (1, [.ref ar, .int (nI (13 * (io + 1)))])), (ar, .inl (cI, 255, .inl (nf (coV v (unN B q) (13 * (io + 1))))))] := by rw [hio]
              rw [hw9] at hP hD
              exact ih3 (io + 1) _ _ _ (by omega) (Or.inl (by omega)) (by rw [hE2, hio]; rfl) hP hD hS hl
            · skip
              rw [nI_leI (by omega) (by omega)] at c_3
              first | omega | contradiction
          | succ k2 ih12 =>
            intro i H locs ls hi2 ht2 hE2 hP hD hS hl
            refine lv_iload hx hb d_LN_collectUnits_12 (lv_at hl 5 rfl) ?_
            refine lv_bipush (v := nI 13) hx hb d_LN_collectUnits_14 (by decide) ?_
            refine lv_icmp_ge (tgt := 55) hx hb d_LN_collectUnits_16 (by decide) (fun c_4 => ?_) (fun c_4 => ?_)
            · skip
              rw [nI_leI (by omega) (by omega)] at c_4
              first | omega | contradiction
            · skip
              rw [nI_leI (by omega) (by omega)] at c_4
              refine lv_aload_n hx hb d_LN_collectUnits_19 rfl (lv_at hl 0 rfl) ?_
              refine va_get (D := (dC, dI)) (ci := 0) (v := .ref hs) (C := "LongNames") (T := F_LN) (N := 5) hx hb hts (iw_LN _) hown hK hP 0 rfl rfl 4 (by decide) (hts _ (List.mem_cons_of_mem _ k_95)) (fun _ h9 => h9) rfl d_LN_collectUnits_20 ?_
              refine lv_iload_n hx hb d_LN_collectUnits_23 rfl (lv_at hl 2 rfl) ?_
              refine lv_iload hx hb d_LN_collectUnits_24 (lv_at hl 4 rfl) ?_
              refine lv_isub hx hb d_LN_collectUnits_26 ?_
              refine mk_ti (y := nI (q - (io + 1))) (pk_sub (by omega)) ?_
              refine lv_iload hx hb d_LN_collectUnits_27 (lv_at hl 5 rfl) ?_
              refine mk_r1 (W.runS (As := [.ref hs, .int (nI (q - (io + 1))), .int (nI i)]) (rest := []) S (c_Pt_unit l dC dI cI hs as B (q - (io + 1)) i (by first | assumption | omega) (by first | assumption | omega) (by first | assumption | omega)) (gS 3 hts k_507 k_508 k_27 k_509 (by decide +kernel) ⟨Nat.le_of_ble_eq_true rfl, Nat.le_of_ble_eq_true rfl⟩) (mk_sR hP hK hT hS [1, 2] rfl) rfl rfl hl.1 rfl (lv_room (Nat.le_of_ble_eq_true rfl)) d_LN_collectUnits_29 ⟨Nat.zero_le _, Nat.zero_le _⟩) ?_
              refine mk_ti (y := nI (unN B q (13 * io + i))) (by rw [unN, show (13 * io + i) / 13 = io by omega, show (13 * io + i) % 13 = i by omega]) ?_
              have hu9 := unN_lt q (13 * io + i) hB
              have b_5 := uiN_lt (q - (io + 1)) i (show ∀ j9, B j9 < 256 by assumption)
              refine lv_istore (lv' := [(6, .int (nI (unN B q (13 * io + i)))), (0, .ref x), (1, .ref hr), (2, .int (nI q)), (3, .int (nI p9)), (4, .int (nI (io + 1))), (5, .int (nI i))]) hx hb d_LN_collectUnits_32 hl (by decide) rfl (fun ls hl => ?_)
              refine lv_iload hx hb d_LN_collectUnits_34 (lv_at hl 0 rfl) ?_
              refine lv_if_le (tgt := 48) hx hb d_LN_collectUnits_36 (by decide) (fun c_6 => ?_) (fun c_6 => ?_)
              · skip
                rw [mk_cle (by omega)] at c_6
                have hw9 : ([(x, .inr (0, [.ref f0, .ref f1, .ref h, .ref hp, .ref hs])), (hs, .inr (4, [.ref as])), (as, .inl (cI, 1024, .inl (nf B))), (hr, .inr (1, [.ref ar, .int (nI (13 * io + i))])), (ar, .inl (cI, 255, .inl (nf (coV v (unN B q) (13 * io + i)))))] : va_W) = [(x, .inr (0, [.ref f0, .ref f1, .ref h, .ref hp, .ref hs])), (hs, .inr (4, [.ref as])), (as, .inl (cI, 1024, .inl (nf B))), (hr, .inr (1, [.ref ar, .int (nI (coC (unN B q) (13 * p9) 0))])), (ar, .inl (cI, 255, .inl (nf (coV v (unN B q) (coC (unN B q) (13 * p9) 0)))))] := by rw [show coC (unN B q) (13 * p9) 0 = 13 * io + i from hE2.trans (show coC (unN B q) ((13 * k + k2) + 1) (13 * io + i) = 13 * io + i from by rw [coC, if_pos (by omega)])]
                rw [hw9] at hP hD
                exact hret _ _ _ _ d_LN_collectUnits_48 hP hD hS
              · skip
                rw [mk_cle (by omega)] at c_6
                refine lv_aload_n hx hb d_LN_collectUnits_39 rfl (lv_at hl 2 rfl) ?_
                refine lv_iload hx hb d_LN_collectUnits_40 (lv_at hl 0 rfl) ?_
                by_cases c_7 : 13 * io + i = 255
                · skip
                  refine mk_w1 (wr := [(x, .inr (0, [.ref f0, .ref f1, .ref h, .ref hp, .ref hs])), (hs, .inr (4, [.ref as])), (as, .inl (cI, 1024, .inl (nf B)))]) (W.runV (As := [.int (nI (unN B q (13 * io + i)))]) (rest := []) S ((c_Ro_full l dC dI cI hr ar (13 * io + i) (coV v (unN B q) (13 * io + i)) (nI (unN B q (13 * io + i))) (by first | assumption | omega)) _) (gV 1 hts k_116 k_117 k_118 k_25 k_119 (by decide +kernel) ⟨Nat.le_of_ble_eq_true rfl, Nat.le_of_ble_eq_true rfl⟩) (mk_vM hP hD hK hT hS hA [3, 4] rfl rfl (by decide) (q0 := 3) (ci := 1) rfl rfl) rfl rfl hl.1 rfl (lv_room (Nat.le_of_ble_eq_true rfl)) d_LN_collectUnits_42 ⟨Nat.zero_le _, Nat.zero_le _⟩) hP hD hS hA [3, 4] [0, 1, 2] rfl rfl (by decide) (by decide) (fun H locs hP hD hS => ?_)
                  have hP : va_P (dC, dI) vwCl [(x, .inr (0, [.ref f0, .ref f1, .ref h, .ref hp, .ref hs])), (hs, .inr (4, [.ref as])), (as, .inl (cI, 1024, .inl (nf B))), (hr, .inr (1, [.ref ar, .int (nI (13 * io + i))])), (ar, .inl (cI, 255, .inl (nf (coV v (unN B q) (13 * io + i)))))] H := hP.sub [0, 1, 2, 3, 4] rfl
                  have hD : va_D A [(x, .inr (0, [.ref f0, .ref f1, .ref h, .ref hp, .ref hs])), (hs, .inr (4, [.ref as])), (as, .inl (cI, 1024, .inl (nf B))), (hr, .inr (1, [.ref ar, .int (nI (13 * io + i))])), (ar, .inl (cI, 255, .inl (nf (coV v (unN B q) (13 * io + i)))))] := hD.sub [0, 1, 2, 3, 4] (by decide) rfl
                  refine lv_if_ne (tgt := 49) hx hb d_LN_collectUnits_45 (by decide) (fun c_8 => ?_) (fun c_8 => ?_)
                  · skip
                    rw [mk_ceq (by omega)] at c_8
                    first | omega | contradiction
                  · skip
                    rw [mk_ceq (by omega)] at c_8
                    have hw9 : ([(x, .inr (0, [.ref f0, .ref f1, .ref h, .ref hp, .ref hs])), (hs, .inr (4, [.ref as])), (as, .inl (cI, 1024, .inl (nf B))), (hr, .inr (1, [.ref ar, .int (nI (13 * io + i))])), (ar, .inl (cI, 255, .inl (nf (coV v (unN B q) (13 * io + i)))))] : va_W) = [(x, .inr (0, [.ref f0, .ref f1, .ref h, .ref hp, .ref hs])), (hs, .inr (4, [.ref as])), (as, .inl (cI, 1024, .inl (nf B))), (hr, .inr (1, [.ref ar, .int (nI (coC (unN B q) (13 * p9) 0))])), (ar, .inl (cI, 255, .inl (nf (coV v (unN B q) (coC (unN B q) (13 * p9) 0)))))] := by rw [show coC (unN B q) (13 * p9) 0 = 13 * io + i from hE2.trans (show coC (unN B q) ((13 * k + k2) + 1) (13 * io + i) = 13 * io + i from by rw [coC, if_pos (by omega)])]
                    rw [hw9] at hP hD
                    exact hret _ _ _ _ d_LN_collectUnits_48 hP hD hS
                · skip
                  refine mk_w1 (wr := [(x, .inr (0, [.ref f0, .ref f1, .ref h, .ref hp, .ref hs])), (hs, .inr (4, [.ref as])), (as, .inl (cI, 1024, .inl (nf B)))]) (W.runV (As := [.int (nI (unN B q (13 * io + i)))]) (rest := []) S ((c_Ro_app l dC dI cI hr ar (13 * io + i) (coV v (unN B q) (13 * io + i)) (unN B q (13 * io + i)) (by first | assumption | omega)) _) (gV 1 hts k_116 k_117 k_118 k_25 k_119 (by decide +kernel) ⟨Nat.le_of_ble_eq_true rfl, Nat.le_of_ble_eq_true rfl⟩) (mk_vM hP hD hK hT hS hA [3, 4] rfl rfl (by decide) (q0 := 3) (ci := 1) rfl rfl) rfl rfl hl.1 rfl (lv_room (Nat.le_of_ble_eq_true rfl)) d_LN_collectUnits_42 ⟨Nat.zero_le _, Nat.zero_le _⟩) hP hD hS hA [3, 4] [0, 1, 2] rfl rfl (by decide) (by decide) (fun H locs hP hD hS => ?_)
                  have hP : va_P (dC, dI) vwCl [(x, .inr (0, [.ref f0, .ref f1, .ref h, .ref hp, .ref hs])), (hs, .inr (4, [.ref as])), (as, .inl (cI, 1024, .inl (nf B))), (hr, .inr (1, [.ref ar, .int (nI ((13 * io + i) + 1))])), (ar, .inl (cI, 255, .inl (nf (uN (coV v (unN B q) (13 * io + i)) (13 * io + i) (unN B q (13 * io + i))))))] H := hP.sub [0, 1, 2, 3, 4] rfl
                  have hD : va_D A [(x, .inr (0, [.ref f0, .ref f1, .ref h, .ref hp, .ref hs])), (hs, .inr (4, [.ref as])), (as, .inl (cI, 1024, .inl (nf B))), (hr, .inr (1, [.ref ar, .int (nI ((13 * io + i) + 1))])), (ar, .inl (cI, 255, .inl (nf (uN (coV v (unN B q) (13 * io + i)) (13 * io + i) (unN B q (13 * io + i))))))] := hD.sub [0, 1, 2, 3, 4] (by decide) rfl
                  refine lv_if_ne (tgt := 49) hx hb d_LN_collectUnits_45 (by decide) (fun c_9 => ?_) (fun c_9 => ?_)
                  · skip
                    rw [mk_ceq (by omega)] at c_9
                    refine lv_iinc (v := nI (i + 1)) (lv' := [(5, .int (nI (i + 1))), (6, .int (nI (unN B q (13 * io + i)))), (0, .ref x), (1, .ref hr), (2, .int (nI q)), (3, .int (nI p9)), (4, .int (nI (io + 1)))]) hx hb d_LN_collectUnits_49 hl (k := 6) rfl (mk_i1 i) (by decide) rfl (fun ls hl => ?_)
                    refine lv_goto (tgt := 12) hx hb d_LN_collectUnits_52 (by decide) ?_
                    have hl : lv_has ls 7 [(0, .ref x), (1, .ref hr), (2, .int (nI q)), (3, .int (nI p9)), (4, .int (nI (io + 1))), (5, .int (nI (i + 1)))] := lv_sub hl [2, 3, 4, 5, 6, 0] rfl
                    have hw9 : ([(x, .inr (0, [.ref f0, .ref f1, .ref h, .ref hp, .ref hs])), (hs, .inr (4, [.ref as])), (as, .inl (cI, 1024, .inl (nf B))), (hr, .inr (1, [.ref ar, .int (nI ((13 * io + i) + 1))])), (ar, .inl (cI, 255, .inl (nf (uN (coV v (unN B q) (13 * io + i)) (13 * io + i) (unN B q (13 * io + i))))))] : va_W) = [(x, .inr (0, [.ref f0, .ref f1, .ref h, .ref hp, .ref hs])), (hs, .inr (4, [.ref as])), (as, .inl (cI, 1024, .inl (nf B))), (hr, .inr (1, [.ref ar, .int (nI (13 * io + (i + 1)))])), (ar, .inl (cI, 255, .inl (nf (coV v (unN B q) (13 * io + (i + 1))))))] := by rw [coV_s]; rfl
                    rw [hw9] at hP hD
                    exact ih12 (i + 1) _ _ _ (by omega) (by omega) (hE2.trans (show coC (unN B q) ((13 * k + k2) + 1) (13 * io + i) = _ from by rw [coC, if_neg (by omega)]; rfl)) hP hD hS hl
                  · skip
                    rw [mk_ceq (by omega)] at c_9
                    first | omega | contradiction
        have hl : lv_has ls 7 [(0, .ref x), (1, .ref hr), (2, .int (nI q)), (3, .int (nI p9)), (4, .int (nI (io + 1))), (5, .int (nI 0))] := lv_sub hl [1, 2, 3, 4, 5, 0] rfl
        have hw9 : ([(x, .inr (0, [.ref f0, .ref f1, .ref h, .ref hp, .ref hs])), (hs, .inr (4, [.ref as])), (as, .inl (cI, 1024, .inl (nf B))), (hr, .inr (1, [.ref ar, .int (nI (13 * io))])), (ar, .inl (cI, 255, .inl (nf (coV v (unN B q) (13 * io)))))] : va_W) = [(x, .inr (0, [.ref f0, .ref f1, .ref h, .ref hp, .ref hs])), (hs, .inr (4, [.ref as])), (as, .inl (cI, 1024, .inl (nf B))), (hr, .inr (1, [.ref ar, .int (nI (13 * io + 0))])), (ar, .inl (cI, 255, .inl (nf (coV v (unN B q) (13 * io + 0)))))] := by rfl
        rw [hw9] at hP hD
        exact lp12 13 0 _ _ _ rfl (by omega) (hE.trans rfl) hP hD hS hl
  have hl : lv_has ls 7 [(0, .ref x), (1, .ref hr), (2, .int (nI q)), (3, .int (nI p9)), (4, .int (nI 1))] := lv_sub hl [1, 2, 3, 4, 0] rfl
  have hl9 : ([(0, .ref x), (1, .ref hr), (2, .int (nI q)), (3, .int (nI p9)), (4, .int (nI 1))] : List (Nat × Value)) = [(0, .ref x), (1, .ref hr), (2, .int (nI q)), (3, .int (nI p9)), (4, .int (nI (0 + 1)))] := by rfl
  rw [hl9] at hl
  have hw9 : ([(x, .inr (0, [.ref f0, .ref f1, .ref h, .ref hp, .ref hs])), (hs, .inr (4, [.ref as])), (as, .inl (cI, 1024, .inl (nf B))), (hr, .inr (1, [.ref ar, .int (nI 0)])), (ar, .inl (cI, 255, .inl (nf v)))] : va_W) = [(x, .inr (0, [.ref f0, .ref f1, .ref h, .ref hp, .ref hs])), (hs, .inr (4, [.ref as])), (as, .inl (cI, 1024, .inl (nf B))), (hr, .inr (1, [.ref ar, .int (nI (13 * 0))])), (ar, .inl (cI, 255, .inl (nf (coV v (unN B q) (13 * 0)))))] := by rw [Nat.mul_zero, coV_0]
  rw [hw9] at hP hD
  exact lp3 p9 0 _ _ _ (by omega) (Or.inl (by omega)) rfl hP hD hS hl

set_option maxHeartbeats 4000000 in
set_option maxRecDepth 100000 in
theorem c_LN_rp1 (l : Launch) (dC : Nat → ClassId) (dI : Nat → Nat → Nat) (cI : ClassId) (x f0 f1 h hp ap : Nat) (pb : Nat → Nat) (hs as : Nat) (B : Nat → Nat) (hr ar : Nat) (v : Nat → Nat) (q p9 : Nat) (hv : ∀ j, v j < 65536) (hpb : ∀ j, pb j < 65536) (hB : ∀ j, B j < 256) (hq : q < 32) (hp9 : p9 ≤ q) (hp20 : p9 ≤ 20) (h1 : nameN (coV v (unN B q) (coC (unN B q) (13 * p9) 0)) (coC (unN B q) (13 * p9) 0) = false) : mM l y_LN_readParts w_LN_readParts ({ frames := 5, cells := 0, slots := 0, locals := 112 } : Room) [.ref x, .ref hr, .int (nI q), .int (nI p9)] (dC, dI) vwCl [(cI, .int)] [(x, .inr (0, [.ref f0, .ref f1, .ref h, .ref hp, .ref hs])), (hp, .inr (3, [.ref ap])), (ap, .inl (cI, 32, .inl (nf pb))), (hs, .inr (4, [.ref as])), (as, .inl (cI, 1024, .inl (nf B))), (hr, .inr (1, [.ref ar, .int (nI 0)])), (ar, .inl (cI, 255, .inl (nf v)))] (some (.int (nI 0))) [(x, .inr (0, [.ref f0, .ref f1, .ref h, .ref hp, .ref hs])), (hp, .inr (3, [.ref ap])), (ap, .inl (cI, 32, .inl (nf pb))), (hs, .inr (4, [.ref as])), (as, .inl (cI, 1024, .inl (nf B))), (hr, .inr (1, [.ref ar, .int (nI (coC (unN B q) (13 * p9) 0))])), (ar, .inl (cI, 255, .inl (nf (coV v (unN B q) (coC (unN B q) (13 * p9) 0)))))] := by
  have hc9 : coC (unN B q) (13 * p9) 0 ≤ 255 := coC_le _ _ _ (by omega)
  have hv9 : ∀ j, (coV v (unN B q) (coC (unN B q) (13 * p9) 0)) j < 65536 := coV_lt hv (fun j => unN_lt q j hB)
  have hs9 := suN_lt B (q * 32) 11
  refine mk_Mi (cc := b_LN_readParts) (maxL := 6) (by decide) rfl (Nat.le_of_ble_eq_true rfl) (rfl) ?_
  intro p e s m below meth c Q A ls S hP hK hT hS hl hD hA hret
  obtain ⟨hx, hb, hml, hown, hts⟩ := id S
  have hl : lv_has ls 6 [(0, .ref x), (1, .ref hr), (2, .int (nI q)), (3, .int (nI p9))] := hl
  refine lv_aload_n hx hb d_LN_readParts_0 rfl (lv_at hl 0 rfl) ?_
  refine lv_aload_n hx hb d_LN_readParts_1 rfl (lv_at hl 1 rfl) ?_
  refine lv_iload_n hx hb d_LN_readParts_2 rfl (lv_at hl 2 rfl) ?_
  refine lv_iload_n hx hb d_LN_readParts_3 rfl (lv_at hl 3 rfl) ?_
  refine mk_w0 (wr := [(hp, .inr (3, [.ref ap])), (ap, .inl (cI, 32, .inl (nf pb)))]) (W.runV (As := [.ref hr, .int (nI q), .int (nI p9)]) (rest := []) S ((c_LN_co l dC dI cI x f0 f1 h hp hs as B hr ar v q p9 (by first | assumption | omega) (by first | assumption | omega) (by first | assumption | omega) (by first | assumption | omega)) _) (gV 3 hts k_503 k_505 k_12 k_24 k_506 (by decide +kernel) ⟨Nat.le_of_ble_eq_true rfl, Nat.le_of_ble_eq_true rfl⟩) (mk_vM hP hD hK hT hS hA [0, 3, 4, 5, 6] rfl rfl (by decide) (q0 := 0) (ci := 0) rfl rfl) rfl rfl hl.1 rfl (lv_room (Nat.le_of_ble_eq_true rfl)) d_LN_readParts_4 ⟨Nat.zero_le _, Nat.zero_le _⟩) hP hD hS hA [0, 3, 4, 5, 6] [1, 2] rfl rfl (by decide) (by decide) (fun H locs hP hD hS => ?_)
  have hP : va_P (dC, dI) vwCl [(x, .inr (0, [.ref f0, .ref f1, .ref h, .ref hp, .ref hs])), (hp, .inr (3, [.ref ap])), (ap, .inl (cI, 32, .inl (nf pb))), (hs, .inr (4, [.ref as])), (as, .inl (cI, 1024, .inl (nf B))), (hr, .inr (1, [.ref ar, .int (nI (coC (unN B q) (13 * p9) 0))])), (ar, .inl (cI, 255, .inl (nf (coV v (unN B q) (coC (unN B q) (13 * p9) 0)))))] H := hP.sub [2, 0, 1, 3, 4, 5, 6] rfl
  have hD : va_D A [(x, .inr (0, [.ref f0, .ref f1, .ref h, .ref hp, .ref hs])), (hp, .inr (3, [.ref ap])), (ap, .inl (cI, 32, .inl (nf pb))), (hs, .inr (4, [.ref as])), (as, .inl (cI, 1024, .inl (nf B))), (hr, .inr (1, [.ref ar, .int (nI (coC (unN B q) (13 * p9) 0))])), (ar, .inl (cI, 255, .inl (nf (coV v (unN B q) (coC (unN B q) (13 * p9) 0)))))] := hD.sub [2, 0, 1, 3, 4, 5, 6] (by decide) rfl
  refine lv_aload_n hx hb d_LN_readParts_7 rfl (lv_at hl 1 rfl) ?_
  refine mk_r1 (W.runV (As := []) (rest := []) S (c_Ro_name l dC dI cI hr ar (coC (unN B q) (13 * p9) 0) (coV v (unN B q) (coC (unN B q) (13 * p9) 0)) (by first | assumption | omega) (by first | assumption | omega)) (gV 0 hts k_136 k_137 k_138 k_25 k_139 (by decide +kernel) ⟨Nat.le_of_ble_eq_true rfl, Nat.le_of_ble_eq_true rfl⟩) (mk_vR hP hK hT hS [5, 6] rfl (q0 := 5) (ci := 1) rfl rfl) rfl rfl hl.1 rfl (lv_room (Nat.le_of_ble_eq_true rfl)) d_LN_readParts_8 ⟨Nat.zero_le _, Nat.zero_le _⟩) ?_
  refine lv_if_eq (tgt := 22) hx hb d_LN_readParts_11 (by decide) (fun c_1 => ?_) (fun c_1 => ?_)
  · skip
    have c_1 := bI_0 c_1
    refine lv_iconst (v := nI 0) hx hb d_LN_readParts_22 (by decide) ?_
    exact hret _ _ _ _ d_LN_readParts_23 hP hD hS
  · skip
    have c_1 := bI_1 c_1
    rw [h1] at c_1; exact absurd c_1 (by decide)

set_option maxHeartbeats 4000000 in
set_option maxRecDepth 100000 in
theorem c_LN_rp2 (l : Launch) (dC : Nat → ClassId) (dI : Nat → Nat → Nat) (cI : ClassId) (x f0 f1 h hp ap : Nat) (pb : Nat → Nat) (hs as : Nat) (B : Nat → Nat) (hr ar : Nat) (v : Nat → Nat) (q p9 : Nat) (hv : ∀ j, v j < 65536) (hpb : ∀ j, pb j < 65536) (hB : ∀ j, B j < 256) (hq : q < 32) (hp9 : p9 ≤ q) (hp20 : p9 ≤ 20) (h1 : nameN (coV v (unN B q) (coC (unN B q) (13 * p9) 0)) (coC (unN B q) (13 * p9) 0) = true) (h2 : ¬ pnN (coC (unN B q) (13 * p9) 0) = p9) : mM l y_LN_readParts w_LN_readParts ({ frames := 5, cells := 0, slots := 0, locals := 112 } : Room) [.ref x, .ref hr, .int (nI q), .int (nI p9)] (dC, dI) vwCl [(cI, .int)] [(x, .inr (0, [.ref f0, .ref f1, .ref h, .ref hp, .ref hs])), (hp, .inr (3, [.ref ap])), (ap, .inl (cI, 32, .inl (nf pb))), (hs, .inr (4, [.ref as])), (as, .inl (cI, 1024, .inl (nf B))), (hr, .inr (1, [.ref ar, .int (nI 0)])), (ar, .inl (cI, 255, .inl (nf v)))] (some (.int (nI 0))) [(x, .inr (0, [.ref f0, .ref f1, .ref h, .ref hp, .ref hs])), (hp, .inr (3, [.ref ap])), (ap, .inl (cI, 32, .inl (nf pb))), (hs, .inr (4, [.ref as])), (as, .inl (cI, 1024, .inl (nf B))), (hr, .inr (1, [.ref ar, .int (nI (coC (unN B q) (13 * p9) 0))])), (ar, .inl (cI, 255, .inl (nf (coV v (unN B q) (coC (unN B q) (13 * p9) 0)))))] := by
  have hc9 : coC (unN B q) (13 * p9) 0 ≤ 255 := coC_le _ _ _ (by omega)
  have hv9 : ∀ j, (coV v (unN B q) (coC (unN B q) (13 * p9) 0)) j < 65536 := coV_lt hv (fun j => unN_lt q j hB)
  have hs9 := suN_lt B (q * 32) 11
  have hpn : pnN (coC (unN B q) (13 * p9) 0) ≤ 20 := by unfold pnN; omega
  refine mk_Mi (cc := b_LN_readParts) (maxL := 6) (by decide) rfl (Nat.le_of_ble_eq_true rfl) (rfl) ?_
  intro p e s m below meth c Q A ls S hP hK hT hS hl hD hA hret
  obtain ⟨hx, hb, hml, hown, hts⟩ := id S
  have hl : lv_has ls 6 [(0, .ref x), (1, .ref hr), (2, .int (nI q)), (3, .int (nI p9))] := hl
  refine lv_aload_n hx hb d_LN_readParts_0 rfl (lv_at hl 0 rfl) ?_
  refine lv_aload_n hx hb d_LN_readParts_1 rfl (lv_at hl 1 rfl) ?_
  refine lv_iload_n hx hb d_LN_readParts_2 rfl (lv_at hl 2 rfl) ?_
  refine lv_iload_n hx hb d_LN_readParts_3 rfl (lv_at hl 3 rfl) ?_
  refine mk_w0 (wr := [(hp, .inr (3, [.ref ap])), (ap, .inl (cI, 32, .inl (nf pb)))]) (W.runV (As := [.ref hr, .int (nI q), .int (nI p9)]) (rest := []) S ((c_LN_co l dC dI cI x f0 f1 h hp hs as B hr ar v q p9 (by first | assumption | omega) (by first | assumption | omega) (by first | assumption | omega) (by first | assumption | omega)) _) (gV 3 hts k_503 k_505 k_12 k_24 k_506 (by decide +kernel) ⟨Nat.le_of_ble_eq_true rfl, Nat.le_of_ble_eq_true rfl⟩) (mk_vM hP hD hK hT hS hA [0, 3, 4, 5, 6] rfl rfl (by decide) (q0 := 0) (ci := 0) rfl rfl) rfl rfl hl.1 rfl (lv_room (Nat.le_of_ble_eq_true rfl)) d_LN_readParts_4 ⟨Nat.zero_le _, Nat.zero_le _⟩) hP hD hS hA [0, 3, 4, 5, 6] [1, 2] rfl rfl (by decide) (by decide) (fun H locs hP hD hS => ?_)
  have hP : va_P (dC, dI) vwCl [(x, .inr (0, [.ref f0, .ref f1, .ref h, .ref hp, .ref hs])), (hp, .inr (3, [.ref ap])), (ap, .inl (cI, 32, .inl (nf pb))), (hs, .inr (4, [.ref as])), (as, .inl (cI, 1024, .inl (nf B))), (hr, .inr (1, [.ref ar, .int (nI (coC (unN B q) (13 * p9) 0))])), (ar, .inl (cI, 255, .inl (nf (coV v (unN B q) (coC (unN B q) (13 * p9) 0)))))] H := hP.sub [2, 0, 1, 3, 4, 5, 6] rfl
  have hD : va_D A [(x, .inr (0, [.ref f0, .ref f1, .ref h, .ref hp, .ref hs])), (hp, .inr (3, [.ref ap])), (ap, .inl (cI, 32, .inl (nf pb))), (hs, .inr (4, [.ref as])), (as, .inl (cI, 1024, .inl (nf B))), (hr, .inr (1, [.ref ar, .int (nI (coC (unN B q) (13 * p9) 0))])), (ar, .inl (cI, 255, .inl (nf (coV v (unN B q) (coC (unN B q) (13 * p9) 0)))))] := hD.sub [2, 0, 1, 3, 4, 5, 6] (by decide) rfl
  refine lv_aload_n hx hb d_LN_readParts_7 rfl (lv_at hl 1 rfl) ?_
  refine mk_r1 (W.runV (As := []) (rest := []) S (c_Ro_name l dC dI cI hr ar (coC (unN B q) (13 * p9) 0) (coV v (unN B q) (coC (unN B q) (13 * p9) 0)) (by first | assumption | omega) (by first | assumption | omega)) (gV 0 hts k_136 k_137 k_138 k_25 k_139 (by decide +kernel) ⟨Nat.le_of_ble_eq_true rfl, Nat.le_of_ble_eq_true rfl⟩) (mk_vR hP hK hT hS [5, 6] rfl (q0 := 5) (ci := 1) rfl rfl) rfl rfl hl.1 rfl (lv_room (Nat.le_of_ble_eq_true rfl)) d_LN_readParts_8 ⟨Nat.zero_le _, Nat.zero_le _⟩) ?_
  refine lv_if_eq (tgt := 22) hx hb d_LN_readParts_11 (by decide) (fun c_1 => ?_) (fun c_1 => ?_)
  · skip
    have c_1 := bI_0 c_1
    rw [h1] at c_1; exact absurd c_1 (by decide)
  · skip
    have c_1 := bI_1 c_1
    refine lv_aload_n hx hb d_LN_readParts_14 rfl (lv_at hl 1 rfl) ?_
    refine mk_r1 (W.runV (As := []) (rest := []) S (c_Ro_parts l dC dI cI hr ar (coC (unN B q) (13 * p9) 0) (coV v (unN B q) (coC (unN B q) (13 * p9) 0)) (by first | assumption | omega)) (gV 0 hts k_161 k_162 k_163 k_25 k_164 (by decide +kernel) ⟨Nat.le_of_ble_eq_true rfl, Nat.le_of_ble_eq_true rfl⟩) (mk_vR hP hK hT hS [5, 6] rfl (q0 := 5) (ci := 1) rfl rfl) rfl rfl hl.1 rfl (lv_room (Nat.le_of_ble_eq_true rfl)) d_LN_readParts_15 ⟨Nat.zero_le _, Nat.zero_le _⟩) ?_
    have b_2 := pnN_le (show (coC (unN B q) (13 * p9) 0) ≤ 255 by omega)
    refine lv_iload_n hx hb d_LN_readParts_18 rfl (lv_at hl 3 rfl) ?_
    refine lv_icmp_eq (tgt := 24) hx hb d_LN_readParts_19 (by decide) (fun c_3 => ?_) (fun c_3 => ?_)
    · skip
      rw [nI_eq (by omega) (by omega)] at c_3
      first | omega | contradiction
    · skip
      rw [nI_eq (by omega) (by omega)] at c_3
      refine lv_iconst (v := nI 0) hx hb d_LN_readParts_22 (by decide) ?_
      exact hret _ _ _ _ d_LN_readParts_23 hP hD hS

set_option maxHeartbeats 4000000 in
set_option maxRecDepth 100000 in
theorem c_LN_rp3 (l : Launch) (dC : Nat → ClassId) (dI : Nat → Nat → Nat) (cI : ClassId) (x f0 f1 h hp ap : Nat) (pb : Nat → Nat) (hs as : Nat) (B : Nat → Nat) (hr ar : Nat) (v : Nat → Nat) (q p9 : Nat) (hv : ∀ j, v j < 65536) (hpb : ∀ j, pb j < 65536) (hB : ∀ j, B j < 256) (hq : q < 32) (hp9 : p9 ≤ q) (hp20 : p9 ≤ 20) (h1 : nameN (coV v (unN B q) (coC (unN B q) (13 * p9) 0)) (coC (unN B q) (13 * p9) 0) = true) (h2 : pnN (coC (unN B q) (13 * p9) 0) = p9) : mM l y_LN_readParts w_LN_readParts ({ frames := 5, cells := 0, slots := 0, locals := 112 } : Room) [.ref x, .ref hr, .int (nI q), .int (nI p9)] (dC, dI) vwCl [(cI, .int)] [(x, .inr (0, [.ref f0, .ref f1, .ref h, .ref hp, .ref hs])), (hp, .inr (3, [.ref ap])), (ap, .inl (cI, 32, .inl (nf pb))), (hs, .inr (4, [.ref as])), (as, .inl (cI, 1024, .inl (nf B))), (hr, .inr (1, [.ref ar, .int (nI 0)])), (ar, .inl (cI, 255, .inl (nf v)))] (some (.int (bI (rpR (coV v (unN B q) (coC (unN B q) (13 * p9) 0)) (coC (unN B q) (13 * p9) 0) (suN B (q * 32) 11) q pb B p9 0)))) [(x, .inr (0, [.ref f0, .ref f1, .ref h, .ref hp, .ref hs])), (hp, .inr (3, [.ref ap])), (ap, .inl (cI, 32, .inl (nf (wpB (coV v (unN B q) (coC (unN B q) (13 * p9) 0)) (coC (unN B q) (13 * p9) 0) (suN B (q * 32) 11) pb (rpK (coV v (unN B q) (coC (unN B q) (13 * p9) 0)) (coC (unN B q) (13 * p9) 0) (suN B (q * 32) 11) q pb B p9 0))))), (hs, .inr (4, [.ref as])), (as, .inl (cI, 1024, .inl (nf B))), (hr, .inr (1, [.ref ar, .int (nI (coC (unN B q) (13 * p9) 0))])), (ar, .inl (cI, 255, .inl (nf (coV v (unN B q) (coC (unN B q) (13 * p9) 0)))))] := by
  have hc9 : coC (unN B q) (13 * p9) 0 ≤ 255 := coC_le _ _ _ (by omega)
  have hv9 : ∀ j, (coV v (unN B q) (coC (unN B q) (13 * p9) 0)) j < 65536 := coV_lt hv (fun j => unN_lt q j hB)
  have hs9 := suN_lt B (q * 32) 11
  refine mk_Mi (cc := b_LN_readParts) (maxL := 6) (by decide) rfl (Nat.le_of_ble_eq_true rfl) (mk_nz _) ?_
  intro p e s m below meth c Q A ls S hP hK hT hS hl hD hA hret
  obtain ⟨hx, hb, hml, hown, hts⟩ := id S
  have hl : lv_has ls 6 [(0, .ref x), (1, .ref hr), (2, .int (nI q)), (3, .int (nI p9))] := hl
  refine lv_aload_n hx hb d_LN_readParts_0 rfl (lv_at hl 0 rfl) ?_
  refine lv_aload_n hx hb d_LN_readParts_1 rfl (lv_at hl 1 rfl) ?_
  refine lv_iload_n hx hb d_LN_readParts_2 rfl (lv_at hl 2 rfl) ?_
  refine lv_iload_n hx hb d_LN_readParts_3 rfl (lv_at hl 3 rfl) ?_
  refine mk_w0 (wr := [(hp, .inr (3, [.ref ap])), (ap, .inl (cI, 32, .inl (nf pb)))]) (W.runV (As := [.ref hr, .int (nI q), .int (nI p9)]) (rest := []) S ((c_LN_co l dC dI cI x f0 f1 h hp hs as B hr ar v q p9 (by first | assumption | omega) (by first | assumption | omega) (by first | assumption | omega) (by first | assumption | omega)) _) (gV 3 hts k_503 k_505 k_12 k_24 k_506 (by decide +kernel) ⟨Nat.le_of_ble_eq_true rfl, Nat.le_of_ble_eq_true rfl⟩) (mk_vM hP hD hK hT hS hA [0, 3, 4, 5, 6] rfl rfl (by decide) (q0 := 0) (ci := 0) rfl rfl) rfl rfl hl.1 rfl (lv_room (Nat.le_of_ble_eq_true rfl)) d_LN_readParts_4 ⟨Nat.zero_le _, Nat.zero_le _⟩) hP hD hS hA [0, 3, 4, 5, 6] [1, 2] rfl rfl (by decide) (by decide) (fun H locs hP hD hS => ?_)
  have hP : va_P (dC, dI) vwCl [(x, .inr (0, [.ref f0, .ref f1, .ref h, .ref hp, .ref hs])), (hp, .inr (3, [.ref ap])), (ap, .inl (cI, 32, .inl (nf pb))), (hs, .inr (4, [.ref as])), (as, .inl (cI, 1024, .inl (nf B))), (hr, .inr (1, [.ref ar, .int (nI (coC (unN B q) (13 * p9) 0))])), (ar, .inl (cI, 255, .inl (nf (coV v (unN B q) (coC (unN B q) (13 * p9) 0)))))] H := hP.sub [2, 0, 1, 3, 4, 5, 6] rfl
  have hD : va_D A [(x, .inr (0, [.ref f0, .ref f1, .ref h, .ref hp, .ref hs])), (hp, .inr (3, [.ref ap])), (ap, .inl (cI, 32, .inl (nf pb))), (hs, .inr (4, [.ref as])), (as, .inl (cI, 1024, .inl (nf B))), (hr, .inr (1, [.ref ar, .int (nI (coC (unN B q) (13 * p9) 0))])), (ar, .inl (cI, 255, .inl (nf (coV v (unN B q) (coC (unN B q) (13 * p9) 0)))))] := hD.sub [2, 0, 1, 3, 4, 5, 6] (by decide) rfl
  refine lv_aload_n hx hb d_LN_readParts_7 rfl (lv_at hl 1 rfl) ?_
  refine mk_r1 (W.runV (As := []) (rest := []) S (c_Ro_name l dC dI cI hr ar (coC (unN B q) (13 * p9) 0) (coV v (unN B q) (coC (unN B q) (13 * p9) 0)) (by first | assumption | omega) (by first | assumption | omega)) (gV 0 hts k_136 k_137 k_138 k_25 k_139 (by decide +kernel) ⟨Nat.le_of_ble_eq_true rfl, Nat.le_of_ble_eq_true rfl⟩) (mk_vR hP hK hT hS [5, 6] rfl (q0 := 5) (ci := 1) rfl rfl) rfl rfl hl.1 rfl (lv_room (Nat.le_of_ble_eq_true rfl)) d_LN_readParts_8 ⟨Nat.zero_le _, Nat.zero_le _⟩) ?_
  refine lv_if_eq (tgt := 22) hx hb d_LN_readParts_11 (by decide) (fun c_1 => ?_) (fun c_1 => ?_)
  · skip
    have c_1 := bI_0 c_1
    rw [h1] at c_1; exact absurd c_1 (by decide)
  · skip
    have c_1 := bI_1 c_1
    refine lv_aload_n hx hb d_LN_readParts_14 rfl (lv_at hl 1 rfl) ?_
    refine mk_r1 (W.runV (As := []) (rest := []) S (c_Ro_parts l dC dI cI hr ar (coC (unN B q) (13 * p9) 0) (coV v (unN B q) (coC (unN B q) (13 * p9) 0)) (by first | assumption | omega)) (gV 0 hts k_161 k_162 k_163 k_25 k_164 (by decide +kernel) ⟨Nat.le_of_ble_eq_true rfl, Nat.le_of_ble_eq_true rfl⟩) (mk_vR hP hK hT hS [5, 6] rfl (q0 := 5) (ci := 1) rfl rfl) rfl rfl hl.1 rfl (lv_room (Nat.le_of_ble_eq_true rfl)) d_LN_readParts_15 ⟨Nat.zero_le _, Nat.zero_le _⟩) ?_
    have b_2 := pnN_le (show (coC (unN B q) (13 * p9) 0) ≤ 255 by omega)
    refine lv_iload_n hx hb d_LN_readParts_18 rfl (lv_at hl 3 rfl) ?_
    refine lv_icmp_eq (tgt := 24) hx hb d_LN_readParts_19 (by decide) (fun c_3 => ?_) (fun c_3 => ?_)
    · skip
      rw [nI_eq (by omega) (by omega)] at c_3
      refine lv_aload_n hx hb d_LN_readParts_24 rfl (lv_at hl 0 rfl) ?_
      refine va_get (D := (dC, dI)) (ci := 0) (v := .ref hs) (C := "LongNames") (T := F_LN) (N := 5) hx hb hts (iw_LN _) hown hK hP 0 rfl rfl 4 (by decide) (hts _ (List.mem_cons_of_mem _ k_95)) (fun _ h9 => h9) rfl d_LN_readParts_25 ?_
      refine lv_iload_n hx hb d_LN_readParts_28 rfl (lv_at hl 2 rfl) ?_
      refine mk_r1 (W.runV (As := [.int (nI q)]) (rest := []) S (c_Sl_sum l dC dI cI hs as B q (by first | assumption | omega) (by first | assumption | omega)) (gV 1 hts k_222 k_223 k_224 k_28 k_225 (by decide +kernel) ⟨Nat.le_of_ble_eq_true rfl, Nat.le_of_ble_eq_true rfl⟩) (mk_vR hP hK hT hS [3, 4] rfl (q0 := 3) (ci := 4) rfl rfl) rfl rfl hl.1 rfl (lv_room (Nat.le_of_ble_eq_true rfl)) d_LN_readParts_29 ⟨Nat.zero_le _, Nat.zero_le _⟩) ?_
      refine lv_istore (lv' := [(4, .int (nI (suN B (q * 32) 11))), (0, .ref x), (1, .ref hr), (2, .int (nI q)), (3, .int (nI p9))]) hx hb d_LN_readParts_32 hl (by decide) rfl (fun ls hl => ?_)
      refine lv_iconst (v := nI 1) hx hb d_LN_readParts_34 (by decide) ?_
      refine lv_istore (lv' := [(5, .int (nI 1)), (4, .int (nI (suN B (q * 32) 11))), (0, .ref x), (1, .ref hr), (2, .int (nI q)), (3, .int (nI p9))]) hx hb d_LN_readParts_35 hl (by decide) rfl (fun ls hl => ?_)
      have lp37 : ∀ (k : Nat) (i : Nat) (H : Heap) (locs : List Loc) (ls : Array Slot), (i + k = p9) → (rpK (coV v (unN B q) (coC (unN B q) (13 * p9) 0)) (coC (unN B q) (13 * p9) 0) (suN B (q * 32) 11) q pb B p9 0 = rpK (coV v (unN B q) (coC (unN B q) (13 * p9) 0)) (coC (unN B q) (13 * p9) 0) (suN B (q * 32) 11) q pb B k i ∧ rpR (coV v (unN B q) (coC (unN B q) (13 * p9) 0)) (coC (unN B q) (13 * p9) 0) (suN B (q * 32) 11) q pb B p9 0 = rpR (coV v (unN B q) (coC (unN B q) (13 * p9) 0)) (coC (unN B q) (13 * p9) 0) (suN B (q * 32) 11) q pb B k i) → va_P (dC, dI) vwCl [(x, .inr (0, [.ref f0, .ref f1, .ref h, .ref hp, .ref hs])), (hp, .inr (3, [.ref ap])), (ap, .inl (cI, 32, .inl (nf (wpB (coV v (unN B q) (coC (unN B q) (13 * p9) 0)) (coC (unN B q) (13 * p9) 0) (suN B (q * 32) 11) pb i)))), (hs, .inr (4, [.ref as])), (as, .inl (cI, 1024, .inl (nf B))), (hr, .inr (1, [.ref ar, .int (nI (coC (unN B q) (13 * p9) 0))])), (ar, .inl (cI, 255, .inl (nf (coV v (unN B q) (coC (unN B q) (13 * p9) 0)))))] H → va_D A [(x, .inr (0, [.ref f0, .ref f1, .ref h, .ref hp, .ref hs])), (hp, .inr (3, [.ref ap])), (ap, .inl (cI, 32, .inl (nf (wpB (coV v (unN B q) (coC (unN B q) (13 * p9) 0)) (coC (unN B q) (13 * p9) 0) (suN B (q * 32) 11) pb i)))), (hs, .inr (4, [.ref as])), (as, .inl (cI, 1024, .inl (nf B))), (hr, .inr (1, [.ref ar, .int (nI (coC (unN B q) (13 * p9) 0))])), (ar, .inl (cI, 255, .inl (nf (coV v (unN B q) (coC (unN B q) (13 * p9) 0)))))] → va_S A s.heap H locs → lv_has ls 6 [(0, .ref x), (1, .ref hr), (2, .int (nI q)), (3, .int (nI p9)), (4, .int (nI (suN B (q * 32) 11))), (5, .int (nI (i + 1)))] → W p l e ({ frames := 5, cells := 0, slots := 0, locals := 112 } : Room) s m ([.ref x, .ref hr, .int (nI q), .int (nI p9)] : List Value).toArray below meth c H locs 0 0 Q (F0 m 37 ls []) := by
        intro k
        induction k with
        | zero =>
          intro i H locs ls hi hE hP hD hS hl
          refine lv_iload hx hb d_LN_readParts_37 (lv_at hl 5 rfl) ?_
          refine lv_iload_n hx hb d_LN_readParts_39 rfl (lv_at hl 3 rfl) ?_
          refine lv_icmp_gt (tgt := 81) hx hb d_LN_readParts_40 (by decide) (fun c_4 => ?_) (fun c_4 => ?_)
          · skip
            rw [nI_ltI (by omega) (by omega)] at c_4
            refine lv_iconst (v := nI 1) hx hb d_LN_readParts_81 (by decide) ?_
            have hw9 : ([(x, .inr (0, [.ref f0, .ref f1, .ref h, .ref hp, .ref hs])), (hp, .inr (3, [.ref ap])), (ap, .inl (cI, 32, .inl (nf (wpB (coV v (unN B q) (coC (unN B q) (13 * p9) 0)) (coC (unN B q) (13 * p9) 0) (suN B (q * 32) 11) pb i)))), (hs, .inr (4, [.ref as])), (as, .inl (cI, 1024, .inl (nf B))), (hr, .inr (1, [.ref ar, .int (nI (coC (unN B q) (13 * p9) 0))])), (ar, .inl (cI, 255, .inl (nf (coV v (unN B q) (coC (unN B q) (13 * p9) 0)))))] : va_W) = [(x, .inr (0, [.ref f0, .ref f1, .ref h, .ref hp, .ref hs])), (hp, .inr (3, [.ref ap])), (ap, .inl (cI, 32, .inl (nf (wpB (coV v (unN B q) (coC (unN B q) (13 * p9) 0)) (coC (unN B q) (13 * p9) 0) (suN B (q * 32) 11) pb (rpK (coV v (unN B q) (coC (unN B q) (13 * p9) 0)) (coC (unN B q) (13 * p9) 0) (suN B (q * 32) 11) q pb B p9 0))))), (hs, .inr (4, [.ref as])), (as, .inl (cI, 1024, .inl (nf B))), (hr, .inr (1, [.ref ar, .int (nI (coC (unN B q) (13 * p9) 0))])), (ar, .inl (cI, 255, .inl (nf (coV v (unN B q) (coC (unN B q) (13 * p9) 0)))))] := by rw [hE.1]; rfl
            rw [hw9] at hP hD
            exact mk_ti (by exact mk_bt (by rw [hE.2]; rfl)) (hret _ _ _ _ d_LN_readParts_82 hP hD hS)
          · skip
            rw [nI_ltI (by omega) (by omega)] at c_4
            first | omega | contradiction
        | succ k ih37 =>
          intro i H locs ls hi hE hP hD hS hl
          have hw7 := wpB_lt (n := coC (unN B q) (13 * p9) 0) (su := suN B (q * 32) 11) (pb := pb) hv9 hpb hs9 i (by omega)
          have hw6 := wpB_lt (n := coC (unN B q) (13 * p9) 0) (su := suN B (q * 32) 11) (pb := pb) hv9 hpb hs9 (i + 1) (by omega)
          refine lv_iload hx hb d_LN_readParts_37 (lv_at hl 5 rfl) ?_
          refine lv_iload_n hx hb d_LN_readParts_39 rfl (lv_at hl 3 rfl) ?_
          refine lv_icmp_gt (tgt := 81) hx hb d_LN_readParts_40 (by decide) (fun c_5 => ?_) (fun c_5 => ?_)
          · skip
            rw [nI_ltI (by omega) (by omega)] at c_5
            first | omega | contradiction
          · skip
            rw [nI_ltI (by omega) (by omega)] at c_5
            refine lv_aload_n hx hb d_LN_readParts_43 rfl (lv_at hl 0 rfl) ?_
            refine va_get (D := (dC, dI)) (ci := 0) (v := .ref hp) (C := "LongNames") (T := F_LN) (N := 5) hx hb hts (iw_LN _) hown hK hP 0 rfl rfl 3 (by decide) (hts _ (List.mem_cons_of_mem _ k_94)) (fun _ h9 => h9) rfl d_LN_readParts_44 ?_
            refine lv_aload_n hx hb d_LN_readParts_47 rfl (lv_at hl 1 rfl) ?_
            refine lv_iload hx hb d_LN_readParts_48 (lv_at hl 5 rfl) ?_
            refine lv_iload hx hb d_LN_readParts_50 (lv_at hl 4 rfl) ?_
            refine mk_w0 (wr := [(x, .inr (0, [.ref f0, .ref f1, .ref h, .ref hp, .ref hs])), (hs, .inr (4, [.ref as])), (as, .inl (cI, 1024, .inl (nf B)))]) (W.runV (As := [.ref hr, .int (nI (i + 1)), .int (nI (suN B (q * 32) 11))]) (rest := []) S ((c_Pt_build l dC dI cI hp ap (wpB (coV v (unN B q) (coC (unN B q) (13 * p9) 0)) (coC (unN B q) (13 * p9) 0) (suN B (q * 32) 11) pb i) hr ar (coC (unN B q) (13 * p9) 0) (coV v (unN B q) (coC (unN B q) (13 * p9) 0)) (i + 1) (suN B (q * 32) 11) (by first | assumption | omega) (by first | assumption | omega) (by first | assumption | omega) (by first | assumption | omega)) _) (gV 3 hts k_419 k_420 k_421 k_27 k_422 (by decide +kernel) ⟨Nat.le_of_ble_eq_true rfl, Nat.le_of_ble_eq_true rfl⟩) (mk_vM hP hD hK hT hS hA [1, 2, 5, 6] rfl rfl (by decide) (q0 := 1) (ci := 3) rfl rfl) rfl rfl hl.1 rfl (lv_room (Nat.le_of_ble_eq_true rfl)) d_LN_readParts_52 ⟨Nat.zero_le _, Nat.zero_le _⟩) hP hD hS hA [1, 2, 5, 6] [0, 3, 4] rfl rfl (by decide) (by decide) (fun H locs hP hD hS => ?_)
            have hP : va_P (dC, dI) vwCl [(x, .inr (0, [.ref f0, .ref f1, .ref h, .ref hp, .ref hs])), (hp, .inr (3, [.ref ap])), (ap, .inl (cI, 32, .inl (nf (bdN (coV v (unN B q) (coC (unN B q) (13 * p9) 0)) (coC (unN B q) (13 * p9) 0) (i + 1) (suN B (q * 32) 11) (wpB (coV v (unN B q) (coC (unN B q) (13 * p9) 0)) (coC (unN B q) (13 * p9) 0) (suN B (q * 32) 11) pb i))))), (hs, .inr (4, [.ref as])), (as, .inl (cI, 1024, .inl (nf B))), (hr, .inr (1, [.ref ar, .int (nI (coC (unN B q) (13 * p9) 0))])), (ar, .inl (cI, 255, .inl (nf (coV v (unN B q) (coC (unN B q) (13 * p9) 0)))))] H := hP.sub [0, 3, 4, 1, 2, 5, 6] rfl
            have hD : va_D A [(x, .inr (0, [.ref f0, .ref f1, .ref h, .ref hp, .ref hs])), (hp, .inr (3, [.ref ap])), (ap, .inl (cI, 32, .inl (nf (bdN (coV v (unN B q) (coC (unN B q) (13 * p9) 0)) (coC (unN B q) (13 * p9) 0) (i + 1) (suN B (q * 32) 11) (wpB (coV v (unN B q) (coC (unN B q) (13 * p9) 0)) (coC (unN B q) (13 * p9) 0) (suN B (q * 32) 11) pb i))))), (hs, .inr (4, [.ref as])), (as, .inl (cI, 1024, .inl (nf B))), (hr, .inr (1, [.ref ar, .int (nI (coC (unN B q) (13 * p9) 0))])), (ar, .inl (cI, 255, .inl (nf (coV v (unN B q) (coC (unN B q) (13 * p9) 0)))))] := hD.sub [0, 3, 4, 1, 2, 5, 6] (by decide) rfl
            refine lv_aload_n hx hb d_LN_readParts_55 rfl (lv_at hl 0 rfl) ?_
            refine va_get (D := (dC, dI)) (ci := 0) (v := .ref hp) (C := "LongNames") (T := F_LN) (N := 5) hx hb hts (iw_LN _) hown hK hP 0 rfl rfl 3 (by decide) (hts _ (List.mem_cons_of_mem _ k_94)) (fun _ h9 => h9) rfl d_LN_readParts_56 ?_
            refine lv_aload_n hx hb d_LN_readParts_59 rfl (lv_at hl 0 rfl) ?_
            refine va_get (D := (dC, dI)) (ci := 0) (v := .ref hs) (C := "LongNames") (T := F_LN) (N := 5) hx hb hts (iw_LN _) hown hK hP 0 rfl rfl 4 (by decide) (hts _ (List.mem_cons_of_mem _ k_95)) (fun _ h9 => h9) rfl d_LN_readParts_60 ?_
            refine lv_iload_n hx hb d_LN_readParts_63 rfl (lv_at hl 2 rfl) ?_
            refine lv_iload hx hb d_LN_readParts_64 (lv_at hl 5 rfl) ?_
            refine lv_isub hx hb d_LN_readParts_66 ?_
            refine mk_ti (y := nI (q - (i + 1))) (pk_sub (by omega)) ?_
            refine mk_r1 (W.runV (As := [.ref hs, .int (nI (q - (i + 1)))]) (rest := []) S (c_Pt_in l dC dI cI hp ap (bdN (coV v (unN B q) (coC (unN B q) (13 * p9) 0)) (coC (unN B q) (13 * p9) 0) (i + 1) (suN B (q * 32) 11) (wpB (coV v (unN B q) (coC (unN B q) (13 * p9) 0)) (coC (unN B q) (13 * p9) 0) (suN B (q * 32) 11) pb i)) hs as B (q - (i + 1)) (by first | assumption | omega) (by first | assumption | omega) (by first | assumption | omega)) (gV 2 hts k_511 k_512 k_513 k_27 k_514 (by decide +kernel) ⟨Nat.le_of_ble_eq_true rfl, Nat.le_of_ble_eq_true rfl⟩) (mk_vR hP hK hT hS [1, 2, 3, 4] rfl (q0 := 1) (ci := 3) rfl rfl) rfl rfl hl.1 rfl (lv_room (Nat.le_of_ble_eq_true rfl)) d_LN_readParts_67 ⟨Nat.zero_le _, Nat.zero_le _⟩) ?_
            refine lv_if_ne (tgt := 75) hx hb d_LN_readParts_70 (by decide) (fun c_6 => ?_) (fun c_6 => ?_)
            · skip
              have c_6 := bI_1 c_6
              refine lv_iinc (v := nI (i + 1 + 1)) (lv' := [(5, .int (nI (i + 1 + 1))), (0, .ref x), (1, .ref hr), (2, .int (nI q)), (3, .int (nI p9)), (4, .int (nI (suN B (q * 32) 11)))]) hx hb d_LN_readParts_75 hl (k := 5) rfl (mk_i1 (i + 1)) (by decide) rfl (fun ls hl => ?_)
              refine lv_goto (tgt := 37) hx hb d_LN_readParts_78 (by decide) ?_
              have hl : lv_has ls 6 [(0, .ref x), (1, .ref hr), (2, .int (nI q)), (3, .int (nI p9)), (4, .int (nI (suN B (q * 32) 11))), (5, .int (nI (i + 1 + 1)))] := lv_sub hl [1, 2, 3, 4, 5, 0] rfl
              have hl9 : ([(0, .ref x), (1, .ref hr), (2, .int (nI q)), (3, .int (nI p9)), (4, .int (nI (suN B (q * 32) 11))), (5, .int (nI (i + 1 + 1)))] : List (Nat × Value)) = [(0, .ref x), (1, .ref hr), (2, .int (nI q)), (3, .int (nI p9)), (4, .int (nI (suN B (q * 32) 11))), (5, .int (nI ((i + 1) + 1)))] := by rfl
              rw [hl9] at hl
              have hw9 : ([(x, .inr (0, [.ref f0, .ref f1, .ref h, .ref hp, .ref hs])), (hp, .inr (3, [.ref ap])), (ap, .inl (cI, 32, .inl (nf (bdN (coV v (unN B q) (coC (unN B q) (13 * p9) 0)) (coC (unN B q) (13 * p9) 0) (i + 1) (suN B (q * 32) 11) (wpB (coV v (unN B q) (coC (unN B q) (13 * p9) 0)) (coC (unN B q) (13 * p9) 0) (suN B (q * 32) 11) pb i))))), (hs, .inr (4, [.ref as])), (as, .inl (cI, 1024, .inl (nf B))), (hr, .inr (1, [.ref ar, .int (nI (coC (unN B q) (13 * p9) 0))])), (ar, .inl (cI, 255, .inl (nf (coV v (unN B q) (coC (unN B q) (13 * p9) 0)))))] : va_W) = [(x, .inr (0, [.ref f0, .ref f1, .ref h, .ref hp, .ref hs])), (hp, .inr (3, [.ref ap])), (ap, .inl (cI, 32, .inl (nf (wpB (coV v (unN B q) (coC (unN B q) (13 * p9) 0)) (coC (unN B q) (13 * p9) 0) (suN B (q * 32) 11) pb (i + 1))))), (hs, .inr (4, [.ref as])), (as, .inl (cI, 1024, .inl (nf B))), (hr, .inr (1, [.ref ar, .int (nI (coC (unN B q) (13 * p9) 0))])), (ar, .inl (cI, 255, .inl (nf (coV v (unN B q) (coC (unN B q) (13 * p9) 0)))))] := by rfl
              rw [hw9] at hP hD
              exact ih37 (i + 1) _ _ _ (by omega) ⟨hE.1.trans (by rw [rpK, if_pos (by assumption)]), hE.2.trans (by rw [rpR, if_pos (by assumption)])⟩ hP hD hS hl
            · skip
              have c_6 := bI_0 c_6
              refine lv_iconst (v := nI 0) hx hb d_LN_readParts_73 (by decide) ?_
              have hw9 : ([(x, .inr (0, [.ref f0, .ref f1, .ref h, .ref hp, .ref hs])), (hp, .inr (3, [.ref ap])), (ap, .inl (cI, 32, .inl (nf (bdN (coV v (unN B q) (coC (unN B q) (13 * p9) 0)) (coC (unN B q) (13 * p9) 0) (i + 1) (suN B (q * 32) 11) (wpB (coV v (unN B q) (coC (unN B q) (13 * p9) 0)) (coC (unN B q) (13 * p9) 0) (suN B (q * 32) 11) pb i))))), (hs, .inr (4, [.ref as])), (as, .inl (cI, 1024, .inl (nf B))), (hr, .inr (1, [.ref ar, .int (nI (coC (unN B q) (13 * p9) 0))])), (ar, .inl (cI, 255, .inl (nf (coV v (unN B q) (coC (unN B q) (13 * p9) 0)))))] : va_W) = [(x, .inr (0, [.ref f0, .ref f1, .ref h, .ref hp, .ref hs])), (hp, .inr (3, [.ref ap])), (ap, .inl (cI, 32, .inl (nf (wpB (coV v (unN B q) (coC (unN B q) (13 * p9) 0)) (coC (unN B q) (13 * p9) 0) (suN B (q * 32) 11) pb (rpK (coV v (unN B q) (coC (unN B q) (13 * p9) 0)) (coC (unN B q) (13 * p9) 0) (suN B (q * 32) 11) q pb B p9 0))))), (hs, .inr (4, [.ref as])), (as, .inl (cI, 1024, .inl (nf B))), (hr, .inr (1, [.ref ar, .int (nI (coC (unN B q) (13 * p9) 0))])), (ar, .inl (cI, 255, .inl (nf (coV v (unN B q) (coC (unN B q) (13 * p9) 0)))))] := by rw [hE.1, rpK, if_neg (fun h9 => absurd (h9.symm.trans c_6) (by decide))]; rfl
              rw [hw9] at hP hD
              exact mk_ti (by exact mk_bf (by rw [hE.2, rpR, if_neg (fun h9 => absurd (h9.symm.trans c_6) (by decide))])) (hret _ _ _ _ d_LN_readParts_74 hP hD hS)
      have hl : lv_has ls 6 [(0, .ref x), (1, .ref hr), (2, .int (nI q)), (3, .int (nI p9)), (4, .int (nI (suN B (q * 32) 11))), (5, .int (nI 1))] := lv_sub hl [2, 3, 4, 5, 1, 0] rfl
      have hl9 : ([(0, .ref x), (1, .ref hr), (2, .int (nI q)), (3, .int (nI p9)), (4, .int (nI (suN B (q * 32) 11))), (5, .int (nI 1))] : List (Nat × Value)) = [(0, .ref x), (1, .ref hr), (2, .int (nI q)), (3, .int (nI p9)), (4, .int (nI (suN B (q * 32) 11))), (5, .int (nI (0 + 1)))] := by rfl
      rw [hl9] at hl
      have hw9 : ([(x, .inr (0, [.ref f0, .ref f1, .ref h, .ref hp, .ref hs])), (hp, .inr (3, [.ref ap])), (ap, .inl (cI, 32, .inl (nf pb))), (hs, .inr (4, [.ref as])), (as, .inl (cI, 1024, .inl (nf B))), (hr, .inr (1, [.ref ar, .int (nI (coC (unN B q) (13 * p9) 0))])), (ar, .inl (cI, 255, .inl (nf (coV v (unN B q) (coC (unN B q) (13 * p9) 0)))))] : va_W) = [(x, .inr (0, [.ref f0, .ref f1, .ref h, .ref hp, .ref hs])), (hp, .inr (3, [.ref ap])), (ap, .inl (cI, 32, .inl (nf (wpB (coV v (unN B q) (coC (unN B q) (13 * p9) 0)) (coC (unN B q) (13 * p9) 0) (suN B (q * 32) 11) pb 0)))), (hs, .inr (4, [.ref as])), (as, .inl (cI, 1024, .inl (nf B))), (hr, .inr (1, [.ref ar, .int (nI (coC (unN B q) (13 * p9) 0))])), (ar, .inl (cI, 255, .inl (nf (coV v (unN B q) (coC (unN B q) (13 * p9) 0)))))] := by rfl
      rw [hw9] at hP hD
      exact lp37 p9 0 _ _ _ (by omega) ⟨rfl, rfl⟩ hP hD hS hl
    · skip
      rw [nI_eq (by omega) (by omega)] at c_3
      first | omega | contradiction
end
section
set_option maxHeartbeats 4000000 in
set_option maxRecDepth 100000 in
theorem c_Dy_yearOf (l : Launch) (dC : Nat → ClassId) (dI : Nat → Nat → Nat) (cI : ClassId) (d : Nat) (hd : d < 65536) : mR l y_Dy_yearOf w_Dy_yearOf ({ frames := 0, cells := 0, slots := 0, locals := 0 } : Room) [.int (nI d)] (dC, dI) vwCl [(cI, .int)] [] (some (.int (nI (1980 + d / 512)))) := by
  refine mk_Ri (cc := b_Dy_yearOf) (maxL := 1) (by decide) rfl (Nat.le_of_ble_eq_true rfl) rfl ?_
  intro p e s m below meth c Q A ls S hP hK hT hS hl hret
  obtain ⟨hx, hb, hml, hown, hts⟩ := id S
  have hl : lv_has ls 1 [(0, .int (nI d))] := hl
  refine lv_sipush (v := nI 1980) hx hb d_Dy_yearOf_0 (by decide) ?_
  refine lv_iload_n hx hb d_Dy_yearOf_3 rfl (lv_at hl 0 rfl) ?_
  refine lv_sipush (v := nI 512) hx hb d_Dy_yearOf_4 (by decide) ?_
  refine lv_idiv hx hb d_Dy_yearOf_7 (by decide) ?_
  refine mk_ti (y := nI (d / 512)) (pk_div (by omega) (by decide) (by decide)) ?_
  refine lv_iadd hx hb d_Dy_yearOf_8 ?_
  refine mk_ti (y := nI (1980 + d / 512)) (nI_add 1980 (d / 512)) ?_
  exact hret _ _ d_Dy_yearOf_9

set_option maxHeartbeats 4000000 in
set_option maxRecDepth 100000 in
theorem c_Dy_monthOf (l : Launch) (dC : Nat → ClassId) (dI : Nat → Nat → Nat) (cI : ClassId) (d : Nat) (hd : d < 65536) : mR l y_Dy_monthOf w_Dy_monthOf ({ frames := 0, cells := 0, slots := 0, locals := 0 } : Room) [.int (nI d)] (dC, dI) vwCl [(cI, .int)] [] (some (.int (nI (d / 32 % 16)))) := by
  refine mk_Ri (cc := b_Dy_monthOf) (maxL := 1) (by decide) rfl (Nat.le_of_ble_eq_true rfl) rfl ?_
  intro p e s m below meth c Q A ls S hP hK hT hS hl hret
  obtain ⟨hx, hb, hml, hown, hts⟩ := id S
  have hl : lv_has ls 1 [(0, .int (nI d))] := hl
  refine lv_iload_n hx hb d_Dy_monthOf_0 rfl (lv_at hl 0 rfl) ?_
  refine lv_bipush (v := nI 32) hx hb d_Dy_monthOf_1 (by decide) ?_
  refine lv_idiv hx hb d_Dy_monthOf_3 (by decide) ?_
  refine mk_ti (y := nI (d / 32)) (pk_div (by omega) (by decide) (by decide)) ?_
  refine lv_bipush (v := nI 16) hx hb d_Dy_monthOf_4 (by decide) ?_
  refine lv_irem hx hb d_Dy_monthOf_6 (by decide) ?_
  refine mk_ti (y := nI ((d / 32) % 16)) (pk_rem (by omega) (by decide) (by decide)) ?_
  exact mk_ti (by rfl) (hret _ _ d_Dy_monthOf_7)

set_option maxHeartbeats 4000000 in
set_option maxRecDepth 100000 in
theorem c_Dy_dayOf (l : Launch) (dC : Nat → ClassId) (dI : Nat → Nat → Nat) (cI : ClassId) (d : Nat) (hd : d < 65536) : mR l y_Dy_dayOf w_Dy_dayOf ({ frames := 0, cells := 0, slots := 0, locals := 0 } : Room) [.int (nI d)] (dC, dI) vwCl [(cI, .int)] [] (some (.int (nI (d % 32)))) := by
  refine mk_Ri (cc := b_Dy_dayOf) (maxL := 1) (by decide) rfl (Nat.le_of_ble_eq_true rfl) rfl ?_
  intro p e s m below meth c Q A ls S hP hK hT hS hl hret
  obtain ⟨hx, hb, hml, hown, hts⟩ := id S
  have hl : lv_has ls 1 [(0, .int (nI d))] := hl
  refine lv_iload_n hx hb d_Dy_dayOf_0 rfl (lv_at hl 0 rfl) ?_
  refine lv_bipush (v := nI 32) hx hb d_Dy_dayOf_1 (by decide) ?_
  refine lv_irem hx hb d_Dy_dayOf_3 (by decide) ?_
  refine mk_ti (y := nI (d % 32)) (pk_rem (by omega) (by decide) (by decide)) ?_
  exact hret _ _ d_Dy_dayOf_4

set_option maxHeartbeats 4000000 in
set_option maxRecDepth 100000 in
theorem c_Dy_hourOf (l : Launch) (dC : Nat → ClassId) (dI : Nat → Nat → Nat) (cI : ClassId) (d : Nat) (hd : d < 65536) : mR l y_Dy_hourOf w_Dy_hourOf ({ frames := 0, cells := 0, slots := 0, locals := 0 } : Room) [.int (nI d)] (dC, dI) vwCl [(cI, .int)] [] (some (.int (nI (d / 2048)))) := by
  refine mk_Ri (cc := b_Dy_hourOf) (maxL := 1) (by decide) rfl (Nat.le_of_ble_eq_true rfl) rfl ?_
  intro p e s m below meth c Q A ls S hP hK hT hS hl hret
  obtain ⟨hx, hb, hml, hown, hts⟩ := id S
  have hl : lv_has ls 1 [(0, .int (nI d))] := hl
  refine lv_iload_n hx hb d_Dy_hourOf_0 rfl (lv_at hl 0 rfl) ?_
  refine lv_sipush (v := nI 2048) hx hb d_Dy_hourOf_1 (by decide) ?_
  refine lv_idiv hx hb d_Dy_hourOf_4 (by decide) ?_
  refine mk_ti (y := nI (d / 2048)) (pk_div (by omega) (by decide) (by decide)) ?_
  exact hret _ _ d_Dy_hourOf_5

set_option maxHeartbeats 4000000 in
set_option maxRecDepth 100000 in
theorem c_Dy_minuteOf (l : Launch) (dC : Nat → ClassId) (dI : Nat → Nat → Nat) (cI : ClassId) (d : Nat) (hd : d < 65536) : mR l y_Dy_minuteOf w_Dy_minuteOf ({ frames := 0, cells := 0, slots := 0, locals := 0 } : Room) [.int (nI d)] (dC, dI) vwCl [(cI, .int)] [] (some (.int (nI (d / 32 % 64)))) := by
  refine mk_Ri (cc := b_Dy_minuteOf) (maxL := 1) (by decide) rfl (Nat.le_of_ble_eq_true rfl) rfl ?_
  intro p e s m below meth c Q A ls S hP hK hT hS hl hret
  obtain ⟨hx, hb, hml, hown, hts⟩ := id S
  have hl : lv_has ls 1 [(0, .int (nI d))] := hl
  refine lv_iload_n hx hb d_Dy_minuteOf_0 rfl (lv_at hl 0 rfl) ?_
  refine lv_bipush (v := nI 32) hx hb d_Dy_minuteOf_1 (by decide) ?_
  refine lv_idiv hx hb d_Dy_minuteOf_3 (by decide) ?_
  refine mk_ti (y := nI (d / 32)) (pk_div (by omega) (by decide) (by decide)) ?_
  refine lv_bipush (v := nI 64) hx hb d_Dy_minuteOf_4 (by decide) ?_
  refine lv_irem hx hb d_Dy_minuteOf_6 (by decide) ?_
  refine mk_ti (y := nI ((d / 32) % 64)) (pk_rem (by omega) (by decide) (by decide)) ?_
  exact mk_ti (by rfl) (hret _ _ d_Dy_minuteOf_7)

set_option maxHeartbeats 4000000 in
set_option maxRecDepth 100000 in
theorem c_Dy_halfOf (l : Launch) (dC : Nat → ClassId) (dI : Nat → Nat → Nat) (cI : ClassId) (d : Nat) (hd : d < 65536) : mR l y_Dy_halfOf w_Dy_halfOf ({ frames := 0, cells := 0, slots := 0, locals := 0 } : Room) [.int (nI d)] (dC, dI) vwCl [(cI, .int)] [] (some (.int (nI (d % 32)))) := by
  refine mk_Ri (cc := b_Dy_halfOf) (maxL := 1) (by decide) rfl (Nat.le_of_ble_eq_true rfl) rfl ?_
  intro p e s m below meth c Q A ls S hP hK hT hS hl hret
  obtain ⟨hx, hb, hml, hown, hts⟩ := id S
  have hl : lv_has ls 1 [(0, .int (nI d))] := hl
  refine lv_iload_n hx hb d_Dy_halfOf_0 rfl (lv_at hl 0 rfl) ?_
  refine lv_bipush (v := nI 32) hx hb d_Dy_halfOf_1 (by decide) ?_
  refine lv_irem hx hb d_Dy_halfOf_3 (by decide) ?_
  refine mk_ti (y := nI (d % 32)) (pk_rem (by omega) (by decide) (by decide)) ?_
  exact hret _ _ d_Dy_halfOf_4

set_option maxHeartbeats 4000000 in
set_option maxRecDepth 100000 in
theorem c_Dy_leap (l : Launch) (dC : Nat → ClassId) (dI : Nat → Nat → Nat) (cI : ClassId) (y9 : Nat) (hy : y9 < 65536) : mR l y_Dy_isLeap w_Dy_isLeap ({ frames := 0, cells := 0, slots := 0, locals := 0 } : Room) [.int (nI y9)] (dC, dI) vwCl [(cI, .int)] [] (some (.int (bI (leN y9)))) := by
  refine mk_Ri (cc := b_Dy_isLeap) (maxL := 1) (by decide) rfl (Nat.le_of_ble_eq_true rfl) (mk_nz _) ?_
  intro p e s m below meth c Q A ls S hP hK hT hS hl hret
  obtain ⟨hx, hb, hml, hown, hts⟩ := id S
  have hl : lv_has ls 1 [(0, .int (nI y9))] := hl
  refine lv_iload_n hx hb d_Dy_isLeap_0 rfl (lv_at hl 0 rfl) ?_
  refine lv_iconst (v := nI 4) hx hb d_Dy_isLeap_1 (by decide) ?_
  refine lv_irem hx hb d_Dy_isLeap_2 (by decide) ?_
  refine mk_ti (y := nI (y9 % 4)) (pk_rem (by omega) (by decide) (by decide)) ?_
  refine lv_if_ne (tgt := 25) hx hb d_Dy_isLeap_3 (by decide) (fun c_1 => ?_) (fun c_1 => ?_)
  · skip
    rw [mk_ceq (by omega)] at c_1
    refine lv_iconst (v := nI 0) hx hb d_Dy_isLeap_25 (by decide) ?_
    exact mk_ti (by exact mk_bf (by simp only [leN, decide_eq_false_iff_not]; omega)) (hret _ _ d_Dy_isLeap_26)
  · skip
    rw [mk_ceq (by omega)] at c_1
    refine lv_iload_n hx hb d_Dy_isLeap_6 rfl (lv_at hl 0 rfl) ?_
    refine lv_bipush (v := nI 100) hx hb d_Dy_isLeap_7 (by decide) ?_
    refine lv_irem hx hb d_Dy_isLeap_9 (by decide) ?_
    refine mk_ti (y := nI (y9 % 100)) (pk_rem (by omega) (by decide) (by decide)) ?_
    refine lv_if_ne (tgt := 21) hx hb d_Dy_isLeap_10 (by decide) (fun c_2 => ?_) (fun c_2 => ?_)
    · skip
      rw [mk_ceq (by omega)] at c_2
      refine lv_iconst (v := nI 1) hx hb d_Dy_isLeap_21 (by decide) ?_
      refine lv_goto (tgt := 26) hx hb d_Dy_isLeap_22 (by decide) ?_
      exact mk_ti (by exact mk_bt (by simp only [leN, decide_eq_true_eq]; omega)) (hret _ _ d_Dy_isLeap_26)
    · skip
      rw [mk_ceq (by omega)] at c_2
      refine lv_iload_n hx hb d_Dy_isLeap_13 rfl (lv_at hl 0 rfl) ?_
      refine lv_sipush (v := nI 400) hx hb d_Dy_isLeap_14 (by decide) ?_
      refine lv_irem hx hb d_Dy_isLeap_17 (by decide) ?_
      refine mk_ti (y := nI (y9 % 400)) (pk_rem (by omega) (by decide) (by decide)) ?_
      refine lv_if_ne (tgt := 25) hx hb d_Dy_isLeap_18 (by decide) (fun c_3 => ?_) (fun c_3 => ?_)
      · skip
        rw [mk_ceq (by omega)] at c_3
        refine lv_iconst (v := nI 0) hx hb d_Dy_isLeap_25 (by decide) ?_
        exact mk_ti (by exact mk_bf (by simp only [leN, decide_eq_false_iff_not]; omega)) (hret _ _ d_Dy_isLeap_26)
      · skip
        rw [mk_ceq (by omega)] at c_3
        refine lv_iconst (v := nI 1) hx hb d_Dy_isLeap_21 (by decide) ?_
        refine lv_goto (tgt := 26) hx hb d_Dy_isLeap_22 (by decide) ?_
        exact mk_ti (by exact mk_bt (by simp only [leN, decide_eq_true_eq]; omega)) (hret _ _ d_Dy_isLeap_26)

set_option maxHeartbeats 4000000 in
set_option maxRecDepth 100000 in
theorem c_Dy_ml (l : Launch) (dC : Nat → ClassId) (dI : Nat → Nat → Nat) (cI : ClassId) (y9 m9 : Nat) (hy : y9 < 65536) (hm : m9 < 65536) : mR l y_Dy_monthLength w_Dy_monthLength ({ frames := 1, cells := 0, slots := 0, locals := 20 } : Room) [.int (nI y9), .int (nI m9)] (dC, dI) vwCl [(cI, .int)] [] (some (.int (nI (mlenN y9 m9)))) := by
  refine mk_Ri (cc := b_Dy_monthLength) (maxL := 2) (by decide) rfl (Nat.le_of_ble_eq_true rfl) rfl ?_
  intro p e s m below meth c Q A ls S hP hK hT hS hl hret
  obtain ⟨hx, hb, hml, hown, hts⟩ := id S
  have hl : lv_has ls 2 [(0, .int (nI y9)), (1, .int (nI m9))] := hl
  refine lv_iload_n hx hb d_Dy_monthLength_0 rfl (lv_at hl 1 rfl) ?_
  refine lv_iconst (v := nI 1) hx hb d_Dy_monthLength_1 (by decide) ?_
  refine lv_icmp_lt (tgt := 11) hx hb d_Dy_monthLength_2 (by decide) (fun c_1 => ?_) (fun c_1 => ?_)
  · skip
    rw [nI_ltI (by omega) (by omega)] at c_1
    refine lv_iconst (v := nI 0) hx hb d_Dy_monthLength_11 (by decide) ?_
    exact mk_ti (by rw [mlenN, if_pos (by omega)]) (hret _ _ d_Dy_monthLength_12)
  · skip
    rw [nI_ltI (by omega) (by omega)] at c_1
    refine lv_iload_n hx hb d_Dy_monthLength_5 rfl (lv_at hl 1 rfl) ?_
    refine lv_bipush (v := nI 12) hx hb d_Dy_monthLength_6 (by decide) ?_
    refine lv_icmp_le (tgt := 13) hx hb d_Dy_monthLength_8 (by decide) (fun c_2 => ?_) (fun c_2 => ?_)
    · skip
      rw [nI_leI (by omega) (by omega)] at c_2
      refine lv_iload_n hx hb d_Dy_monthLength_13 rfl (lv_at hl 1 rfl) ?_
      refine lv_iconst (v := nI 2) hx hb d_Dy_monthLength_14 (by decide) ?_
      refine lv_icmp_ne (tgt := 30) hx hb d_Dy_monthLength_15 (by decide) (fun c_3 => ?_) (fun c_3 => ?_)
      · skip
        rw [nI_eq (by omega) (by omega)] at c_3
        obtain ⟨tP, tM, hZP, hTP, hZM, hTM⟩ := hT.tabs
        refine va_gets (v := .ref tM) hx hb hZM hS hown (hts _ (List.mem_cons_of_mem _ k_250)) (fun _ h9 => h9) d_Dy_monthLength_30 ?_
        refine lv_iload_n hx hb d_Dy_monthLength_33 rfl (lv_at hl 1 rfl) ?_
        refine lv_iconst (v := nI 1) hx hb d_Dy_monthLength_34 (by decide) ?_
        refine lv_isub hx hb d_Dy_monthLength_35 ?_
        refine mk_ti (y := nI (m9 - 1)) (pk_sub (by omega)) ?_
        refine va_ti hx hb hTM hS (vp_in_nI (N := 12) (show m9 - 1 < 12 by omega) (by decide)) (v := .int (nI (mlN (m9 - 1)))) (by simp only [nI_clamp (show m9 - 1 < 2 ^ 31 by omega)]) d_Dy_monthLength_36 ?_
        exact mk_ti (by rw [mlenN, if_neg (by omega), if_neg (by first | omega | (intro h9; rw [c_3] at h9; exact absurd h9.2 (by decide)))]) (hret _ _ d_Dy_monthLength_37)
      · skip
        rw [nI_eq (by omega) (by omega)] at c_3
        refine lv_iload_n hx hb d_Dy_monthLength_18 rfl (lv_at hl 0 rfl) ?_
        refine mk_r1 (W.runS (As := [.int (nI y9)]) (rest := []) S (c_Dy_leap l dC dI cI y9 (by first | assumption | omega)) (gS 1 hts k_247 k_248 k_38 k_249 (by decide +kernel) ⟨Nat.le_of_ble_eq_true rfl, Nat.le_of_ble_eq_true rfl⟩) (mk_sR hP hK hT hS [] rfl) rfl rfl hl.1 rfl (lv_room (Nat.le_of_ble_eq_true rfl)) d_Dy_monthLength_19 ⟨Nat.zero_le _, Nat.zero_le _⟩) ?_
        refine lv_if_eq (tgt := 30) hx hb d_Dy_monthLength_22 (by decide) (fun c_4 => ?_) (fun c_4 => ?_)
        · skip
          have c_4 := bI_0 c_4
          obtain ⟨tP, tM, hZP, hTP, hZM, hTM⟩ := hT.tabs
          refine va_gets (v := .ref tM) hx hb hZM hS hown (hts _ (List.mem_cons_of_mem _ k_250)) (fun _ h9 => h9) d_Dy_monthLength_30 ?_
          refine lv_iload_n hx hb d_Dy_monthLength_33 rfl (lv_at hl 1 rfl) ?_
          refine lv_iconst (v := nI 1) hx hb d_Dy_monthLength_34 (by decide) ?_
          refine lv_isub hx hb d_Dy_monthLength_35 ?_
          refine mk_ti (y := nI (m9 - 1)) (pk_sub (by omega)) ?_
          refine va_ti hx hb hTM hS (vp_in_nI (N := 12) (show m9 - 1 < 12 by omega) (by decide)) (v := .int (nI (mlN (m9 - 1)))) (by simp only [nI_clamp (show m9 - 1 < 2 ^ 31 by omega)]) d_Dy_monthLength_36 ?_
          exact mk_ti (by rw [mlenN, if_neg (by omega), if_neg (by first | omega | (intro h9; rw [c_4] at h9; exact absurd h9.2 (by decide)))]) (hret _ _ d_Dy_monthLength_37)
        · skip
          have c_4 := bI_1 c_4
          refine lv_bipush (v := nI 29) hx hb d_Dy_monthLength_25 (by decide) ?_
          refine lv_goto (tgt := 37) hx hb d_Dy_monthLength_27 (by decide) ?_
          exact mk_ti (by rw [mlenN, if_neg (by omega), if_pos ⟨by omega, by assumption⟩]) (hret _ _ d_Dy_monthLength_37)
    · skip
      rw [nI_leI (by omega) (by omega)] at c_2
      refine lv_iconst (v := nI 0) hx hb d_Dy_monthLength_11 (by decide) ?_
      exact mk_ti (by rw [mlenN, if_pos (by omega)]) (hret _ _ d_Dy_monthLength_12)

set_option maxHeartbeats 4000000 in
set_option maxRecDepth 100000 in
theorem c_Dy_isDayX (l : Launch) (dC : Nat → ClassId) (dI : Nat → Nat → Nat) (cI : ClassId) (x : Int32) (hx9 : x < 0 ∨ ¬ x ≤ nI 65535) : mR l y_Dy_isDay w_Dy_isDay ({ frames := 0, cells := 0, slots := 0, locals := 0 } : Room) [.int x] (dC, dI) vwCl [(cI, .int)] [] (some (.int (nI 0))) := by
  refine mk_Ri (cc := b_Dy_isDay) (maxL := 2) (by decide) rfl (Nat.le_of_ble_eq_true rfl) (rfl) ?_
  intro p e s m below meth c Q A ls S hP hK hT hS hl hret
  obtain ⟨hx, hb, hml, hown, hts⟩ := id S
  have hl : lv_has ls 2 [(0, .int x)] := hl
  refine lv_iload_n hx hb d_Dy_isDay_0 rfl (lv_at hl 0 rfl) ?_
  refine lv_if_lt (tgt := 10) hx hb d_Dy_isDay_1 (by decide) (fun c_1 => ?_) (fun c_1 => ?_)
  · skip
    refine lv_iconst (v := nI 0) hx hb d_Dy_isDay_10 (by decide) ?_
    exact hret _ _ d_Dy_isDay_11
  · skip
    refine lv_iload_n hx hb d_Dy_isDay_4 rfl (lv_at hl 0 rfl) ?_
    refine lv_ldc (v := nI 65535) hx hb hown (hts _ (List.mem_cons_of_mem _ k_234)) d_Dy_isDay_5 ?_
    refine lv_icmp_le (tgt := 12) hx hb d_Dy_isDay_7 (by decide) (fun c_2 => ?_) (fun c_2 => ?_)
    · skip
      rcases hx9 with h9 | h9 <;> contradiction
    · skip
      refine lv_iconst (v := nI 0) hx hb d_Dy_isDay_10 (by decide) ?_
      exact hret _ _ d_Dy_isDay_11

set_option maxHeartbeats 4000000 in
set_option maxRecDepth 100000 in
theorem c_Dy_isDay (l : Launch) (dC : Nat → ClassId) (dI : Nat → Nat → Nat) (cI : ClassId) (d : Nat) (hd : d < 65536) : mR l y_Dy_isDay w_Dy_isDay ({ frames := 2, cells := 0, slots := 0, locals := 41 } : Room) [.int (nI d)] (dC, dI) vwCl [(cI, .int)] [] (some (.int (bI (idN d)))) := by
  refine mk_Ri (cc := b_Dy_isDay) (maxL := 2) (by decide) rfl (Nat.le_of_ble_eq_true rfl) (mk_nz _) ?_
  intro p e s m below meth c Q A ls S hP hK hT hS hl hret
  obtain ⟨hx, hb, hml, hown, hts⟩ := id S
  have hl : lv_has ls 2 [(0, .int (nI d))] := hl
  refine lv_iload_n hx hb d_Dy_isDay_0 rfl (lv_at hl 0 rfl) ?_
  refine lv_if_lt (tgt := 10) hx hb d_Dy_isDay_1 (by decide) (fun c_1 => ?_) (fun c_1 => ?_)
  · skip
    rw [mk_clt (by omega)] at c_1
    first | omega | contradiction
  · skip
    rw [mk_clt (by omega)] at c_1
    refine lv_iload_n hx hb d_Dy_isDay_4 rfl (lv_at hl 0 rfl) ?_
    refine lv_ldc (v := nI 65535) hx hb hown (hts _ (List.mem_cons_of_mem _ k_234)) d_Dy_isDay_5 ?_
    refine lv_icmp_le (tgt := 12) hx hb d_Dy_isDay_7 (by decide) (fun c_2 => ?_) (fun c_2 => ?_)
    · skip
      rw [nI_leI (by omega) (by omega)] at c_2
      refine lv_iload_n hx hb d_Dy_isDay_12 rfl (lv_at hl 0 rfl) ?_
      refine mk_r1 (W.runS (As := [.int (nI d)]) (rest := []) S (c_Dy_dayOf l dC dI cI d (by first | assumption | omega)) (gS 1 hts k_235 k_236 k_38 k_237 (by decide +kernel) ⟨Nat.le_of_ble_eq_true rfl, Nat.le_of_ble_eq_true rfl⟩) (mk_sR hP hK hT hS [] rfl) rfl rfl hl.1 rfl (lv_room (Nat.le_of_ble_eq_true rfl)) d_Dy_isDay_13 ⟨Nat.zero_le _, Nat.zero_le _⟩) ?_
      refine lv_istore_n (lv' := [(1, .int (nI (d % 32))), (0, .int (nI d))]) hx hb d_Dy_isDay_16 rfl hl (by decide) rfl (fun ls hl => ?_)
      refine lv_iload_n hx hb d_Dy_isDay_17 rfl (lv_at hl 0 rfl) ?_
      refine lv_iconst (v := nI 1) hx hb d_Dy_isDay_18 (by decide) ?_
      refine lv_icmp_lt (tgt := 41) hx hb d_Dy_isDay_19 (by decide) (fun c_3 => ?_) (fun c_3 => ?_)
      · skip
        rw [nI_ltI (by omega) (by omega)] at c_3
        refine lv_iconst (v := nI 0) hx hb d_Dy_isDay_41 (by decide) ?_
        exact mk_ti (by exact mk_bf (by simp only [idN, decide_eq_false_iff_not]; omega)) (hret _ _ d_Dy_isDay_42)
      · skip
        rw [nI_ltI (by omega) (by omega)] at c_3
        refine lv_iload_n hx hb d_Dy_isDay_22 rfl (lv_at hl 0 rfl) ?_
        refine lv_iload_n hx hb d_Dy_isDay_23 rfl (lv_at hl 1 rfl) ?_
        refine mk_r1 (W.runS (As := [.int (nI d)]) (rest := [.int (nI (d % 32))]) S (c_Dy_yearOf l dC dI cI d (by first | assumption | omega)) (gS 1 hts k_238 k_239 k_38 k_240 (by decide +kernel) ⟨Nat.le_of_ble_eq_true rfl, Nat.le_of_ble_eq_true rfl⟩) (mk_sR hP hK hT hS [] rfl) rfl rfl hl.1 rfl (lv_room (Nat.le_of_ble_eq_true rfl)) d_Dy_isDay_24 ⟨Nat.zero_le _, Nat.zero_le _⟩) ?_
        refine lv_iload_n hx hb d_Dy_isDay_27 rfl (lv_at hl 1 rfl) ?_
        refine mk_r1 (W.runS (As := [.int (nI d)]) (rest := [.int (nI (1980 + d / 512)), .int (nI (d % 32))]) S (c_Dy_monthOf l dC dI cI d (by first | assumption | omega)) (gS 1 hts k_241 k_242 k_38 k_243 (by decide +kernel) ⟨Nat.le_of_ble_eq_true rfl, Nat.le_of_ble_eq_true rfl⟩) (mk_sR hP hK hT hS [] rfl) rfl rfl hl.1 rfl (lv_room (Nat.le_of_ble_eq_true rfl)) d_Dy_isDay_28 ⟨Nat.zero_le _, Nat.zero_le _⟩) ?_
        refine mk_r1 (W.runS (As := [.int (nI (1980 + d / 512)), .int (nI (d / 32 % 16))]) (rest := [.int (nI (d % 32))]) S (c_Dy_ml l dC dI cI (1980 + d / 512) (d / 32 % 16) (by first | assumption | omega) (by first | assumption | omega)) (gS 2 hts k_244 k_245 k_38 k_246 (by decide +kernel) ⟨Nat.le_of_ble_eq_true rfl, Nat.le_of_ble_eq_true rfl⟩) (mk_sR hP hK hT hS [] rfl) rfl rfl hl.1 rfl (lv_room (Nat.le_of_ble_eq_true rfl)) d_Dy_isDay_31 ⟨Nat.zero_le _, Nat.zero_le _⟩) ?_
        have b_4 := mlenN_le (1980 + d / 512) (d / 32 % 16)
        refine lv_icmp_gt (tgt := 41) hx hb d_Dy_isDay_34 (by decide) (fun c_5 => ?_) (fun c_5 => ?_)
        · skip
          rw [nI_ltI (by omega) (by omega)] at c_5
          refine lv_iconst (v := nI 0) hx hb d_Dy_isDay_41 (by decide) ?_
          exact mk_ti (by exact mk_bf (by simp only [idN, decide_eq_false_iff_not]; omega)) (hret _ _ d_Dy_isDay_42)
        · skip
          rw [nI_ltI (by omega) (by omega)] at c_5
          refine lv_iconst (v := nI 1) hx hb d_Dy_isDay_37 (by decide) ?_
          refine lv_goto (tgt := 42) hx hb d_Dy_isDay_38 (by decide) ?_
          exact mk_ti (by exact mk_bt (by simp only [idN, decide_eq_true_eq]; omega)) (hret _ _ d_Dy_isDay_42)
    · skip
      rw [nI_leI (by omega) (by omega)] at c_2
      first | omega | contradiction

set_option maxHeartbeats 4000000 in
set_option maxRecDepth 100000 in
theorem c_Dy_isTimeX (l : Launch) (dC : Nat → ClassId) (dI : Nat → Nat → Nat) (cI : ClassId) (x : Int32) (hx9 : x < 0 ∨ ¬ x ≤ nI 65535) : mR l y_Dy_isTime w_Dy_isTime ({ frames := 0, cells := 0, slots := 0, locals := 0 } : Room) [.int x] (dC, dI) vwCl [(cI, .int)] [] (some (.int (nI 0))) := by
  refine mk_Ri (cc := b_Dy_isTime) (maxL := 1) (by decide) rfl (Nat.le_of_ble_eq_true rfl) (rfl) ?_
  intro p e s m below meth c Q A ls S hP hK hT hS hl hret
  obtain ⟨hx, hb, hml, hown, hts⟩ := id S
  have hl : lv_has ls 1 [(0, .int x)] := hl
  refine lv_iload_n hx hb d_Dy_isTime_0 rfl (lv_at hl 0 rfl) ?_
  refine lv_if_lt (tgt := 10) hx hb d_Dy_isTime_1 (by decide) (fun c_1 => ?_) (fun c_1 => ?_)
  · skip
    refine lv_iconst (v := nI 0) hx hb d_Dy_isTime_10 (by decide) ?_
    exact hret _ _ d_Dy_isTime_11
  · skip
    refine lv_iload_n hx hb d_Dy_isTime_4 rfl (lv_at hl 0 rfl) ?_
    refine lv_ldc (v := nI 65535) hx hb hown (hts _ (List.mem_cons_of_mem _ k_234)) d_Dy_isTime_5 ?_
    refine lv_icmp_le (tgt := 12) hx hb d_Dy_isTime_7 (by decide) (fun c_2 => ?_) (fun c_2 => ?_)
    · skip
      rcases hx9 with h9 | h9 <;> contradiction
    · skip
      refine lv_iconst (v := nI 0) hx hb d_Dy_isTime_10 (by decide) ?_
      exact hret _ _ d_Dy_isTime_11

set_option maxHeartbeats 4000000 in
set_option maxRecDepth 100000 in
theorem c_Dy_isTime (l : Launch) (dC : Nat → ClassId) (dI : Nat → Nat → Nat) (cI : ClassId) (d : Nat) (hd : d < 65536) : mR l y_Dy_isTime w_Dy_isTime ({ frames := 1, cells := 0, slots := 0, locals := 20 } : Room) [.int (nI d)] (dC, dI) vwCl [(cI, .int)] [] (some (.int (bI (itN d)))) := by
  refine mk_Ri (cc := b_Dy_isTime) (maxL := 1) (by decide) rfl (Nat.le_of_ble_eq_true rfl) (mk_nz _) ?_
  intro p e s m below meth c Q A ls S hP hK hT hS hl hret
  obtain ⟨hx, hb, hml, hown, hts⟩ := id S
  have hl : lv_has ls 1 [(0, .int (nI d))] := hl
  refine lv_iload_n hx hb d_Dy_isTime_0 rfl (lv_at hl 0 rfl) ?_
  refine lv_if_lt (tgt := 10) hx hb d_Dy_isTime_1 (by decide) (fun c_1 => ?_) (fun c_1 => ?_)
  · skip
    rw [mk_clt (by omega)] at c_1
    first | omega | contradiction
  · skip
    rw [mk_clt (by omega)] at c_1
    refine lv_iload_n hx hb d_Dy_isTime_4 rfl (lv_at hl 0 rfl) ?_
    refine lv_ldc (v := nI 65535) hx hb hown (hts _ (List.mem_cons_of_mem _ k_234)) d_Dy_isTime_5 ?_
    refine lv_icmp_le (tgt := 12) hx hb d_Dy_isTime_7 (by decide) (fun c_2 => ?_) (fun c_2 => ?_)
    · skip
      rw [nI_leI (by omega) (by omega)] at c_2
      refine lv_iload_n hx hb d_Dy_isTime_12 rfl (lv_at hl 0 rfl) ?_
      refine mk_r1 (W.runS (As := [.int (nI d)]) (rest := []) S (c_Dy_hourOf l dC dI cI d (by first | assumption | omega)) (gS 1 hts k_255 k_256 k_38 k_257 (by decide +kernel) ⟨Nat.le_of_ble_eq_true rfl, Nat.le_of_ble_eq_true rfl⟩) (mk_sR hP hK hT hS [] rfl) rfl rfl hl.1 rfl (lv_room (Nat.le_of_ble_eq_true rfl)) d_Dy_isTime_13 ⟨Nat.zero_le _, Nat.zero_le _⟩) ?_
      refine lv_bipush (v := nI 24) hx hb d_Dy_isTime_16 (by decide) ?_
      refine lv_icmp_ge (tgt := 43) hx hb d_Dy_isTime_18 (by decide) (fun c_3 => ?_) (fun c_3 => ?_)
      · skip
        rw [nI_leI (by omega) (by omega)] at c_3
        refine lv_iconst (v := nI 0) hx hb d_Dy_isTime_43 (by decide) ?_
        exact mk_ti (by exact mk_bf (by simp only [itN, decide_eq_false_iff_not]; omega)) (hret _ _ d_Dy_isTime_44)
      · skip
        rw [nI_leI (by omega) (by omega)] at c_3
        refine lv_iload_n hx hb d_Dy_isTime_21 rfl (lv_at hl 0 rfl) ?_
        refine mk_r1 (W.runS (As := [.int (nI d)]) (rest := []) S (c_Dy_minuteOf l dC dI cI d (by first | assumption | omega)) (gS 1 hts k_258 k_259 k_38 k_260 (by decide +kernel) ⟨Nat.le_of_ble_eq_true rfl, Nat.le_of_ble_eq_true rfl⟩) (mk_sR hP hK hT hS [] rfl) rfl rfl hl.1 rfl (lv_room (Nat.le_of_ble_eq_true rfl)) d_Dy_isTime_22 ⟨Nat.zero_le _, Nat.zero_le _⟩) ?_
        refine lv_bipush (v := nI 60) hx hb d_Dy_isTime_25 (by decide) ?_
        refine lv_icmp_ge (tgt := 43) hx hb d_Dy_isTime_27 (by decide) (fun c_4 => ?_) (fun c_4 => ?_)
        · skip
          rw [nI_leI (by omega) (by omega)] at c_4
          refine lv_iconst (v := nI 0) hx hb d_Dy_isTime_43 (by decide) ?_
          exact mk_ti (by exact mk_bf (by simp only [itN, decide_eq_false_iff_not]; omega)) (hret _ _ d_Dy_isTime_44)
        · skip
          rw [nI_leI (by omega) (by omega)] at c_4
          refine lv_iload_n hx hb d_Dy_isTime_30 rfl (lv_at hl 0 rfl) ?_
          refine mk_r1 (W.runS (As := [.int (nI d)]) (rest := []) S (c_Dy_halfOf l dC dI cI d (by first | assumption | omega)) (gS 1 hts k_261 k_262 k_38 k_263 (by decide +kernel) ⟨Nat.le_of_ble_eq_true rfl, Nat.le_of_ble_eq_true rfl⟩) (mk_sR hP hK hT hS [] rfl) rfl rfl hl.1 rfl (lv_room (Nat.le_of_ble_eq_true rfl)) d_Dy_isTime_31 ⟨Nat.zero_le _, Nat.zero_le _⟩) ?_
          refine lv_bipush (v := nI 30) hx hb d_Dy_isTime_34 (by decide) ?_
          refine lv_icmp_ge (tgt := 43) hx hb d_Dy_isTime_36 (by decide) (fun c_5 => ?_) (fun c_5 => ?_)
          · skip
            rw [nI_leI (by omega) (by omega)] at c_5
            refine lv_iconst (v := nI 0) hx hb d_Dy_isTime_43 (by decide) ?_
            exact mk_ti (by exact mk_bf (by simp only [itN, decide_eq_false_iff_not]; omega)) (hret _ _ d_Dy_isTime_44)
          · skip
            rw [nI_leI (by omega) (by omega)] at c_5
            refine lv_iconst (v := nI 1) hx hb d_Dy_isTime_39 (by decide) ?_
            refine lv_goto (tgt := 44) hx hb d_Dy_isTime_40 (by decide) ?_
            exact mk_ti (by exact mk_bt (by simp only [itN, decide_eq_true_eq]; omega)) (hret _ _ d_Dy_isTime_44)
    · skip
      rw [nI_leI (by omega) (by omega)] at c_2
      first | omega | contradiction

set_option maxHeartbeats 4000000 in
set_option maxRecDepth 100000 in
theorem c_Dy_sbd (l : Launch) (dC : Nat → ClassId) (dI : Nat → Nat → Nat) (cI : ClassId) (d : Nat) (hd : d < 65536) (h1 : 1 ≤ d % 32) (h2 : 1 ≤ d / 32 % 16) : mR l y_Dy_secondsBeforeDay w_Dy_secondsBeforeDay ({ frames := 2, cells := 0, slots := 0, locals := 41 } : Room) [.int (nI d)] (dC, dI) vwCl [(cI, .int)] [] (some (.long (lN (sdN d)))) := by
  refine mk_Rl (cc := b_Dy_secondsBeforeDay) (maxL := 6) (by decide) rfl (Nat.le_of_ble_eq_true rfl) ?_
  intro p e s m below meth c Q A ls S hP hK hT hS hl hret
  obtain ⟨hx, hb, hml, hown, hts⟩ := id S
  have hl : lv_has ls 6 [(0, .int (nI d))] := hl
  refine lv_iload_n hx hb d_Dy_secondsBeforeDay_0 rfl (lv_at hl 0 rfl) ?_
  refine mk_r1 (W.runS (As := [.int (nI d)]) (rest := []) S (c_Dy_yearOf l dC dI cI d (by first | assumption | omega)) (gS 1 hts k_238 k_239 k_38 k_240 (by decide +kernel) ⟨Nat.le_of_ble_eq_true rfl, Nat.le_of_ble_eq_true rfl⟩) (mk_sR hP hK hT hS [] rfl) rfl rfl hl.1 rfl (lv_room (Nat.le_of_ble_eq_true rfl)) d_Dy_secondsBeforeDay_1 ⟨Nat.zero_le _, Nat.zero_le _⟩) ?_
  refine lv_istore_n (lv' := [(1, .int (nI (1980 + d / 512))), (0, .int (nI d))]) hx hb d_Dy_secondsBeforeDay_4 rfl hl (by decide) rfl (fun ls hl => ?_)
  refine lv_iload_n hx hb d_Dy_secondsBeforeDay_5 rfl (lv_at hl 1 rfl) ?_
  refine mk_r1 (W.runS (As := [.int (nI d)]) (rest := []) S (c_Dy_dayOf l dC dI cI d (by first | assumption | omega)) (gS 1 hts k_235 k_236 k_38 k_237 (by decide +kernel) ⟨Nat.le_of_ble_eq_true rfl, Nat.le_of_ble_eq_true rfl⟩) (mk_sR hP hK hT hS [] rfl) rfl rfl hl.1 rfl (lv_room (Nat.le_of_ble_eq_true rfl)) d_Dy_secondsBeforeDay_6 ⟨Nat.zero_le _, Nat.zero_le _⟩) ?_
  refine lv_iconst (v := nI 1) hx hb d_Dy_secondsBeforeDay_9 (by decide) ?_
  refine lv_isub hx hb d_Dy_secondsBeforeDay_10 ?_
  refine mk_ti (y := nI (d % 32 - 1)) (pk_sub (by omega)) ?_
  refine lv_i2l (v := lN (d % 32 - 1)) hx hb d_Dy_secondsBeforeDay_11 (nI_l (by omega)) ?_
  refine lv_lstore_n (lv' := [(2, .long (lN (d % 32 - 1))), (1, .int (nI (1980 + d / 512))), (0, .int (nI d))]) hx hb d_Dy_secondsBeforeDay_12 rfl hl (by decide) rfl (fun ls hl => ?_)
  refine lv_sipush (v := nI 1970) hx hb d_Dy_secondsBeforeDay_13 (by decide) ?_
  refine lv_istore (lv' := [(4, .int (nI 1970)), (2, .long (lN (d % 32 - 1))), (1, .int (nI (1980 + d / 512))), (0, .int (nI d))]) hx hb d_Dy_secondsBeforeDay_16 hl (by decide) rfl (fun ls hl => ?_)
  have lp18 : ∀ (k : Nat) (i : Nat) (ls : Array Slot), (1970 + i + k = (1980 + d / 512)) → lv_has ls 6 [(0, .int (nI d)), (1, .int (nI (1980 + d / 512))), (2, .long (lN (d % 32 - 1 + ydN i))), (4, .int (nI (1970 + i)))] → W p l e ({ frames := 2, cells := 0, slots := 0, locals := 41 } : Room) s m ([.int (nI d)] : List Value).toArray below meth c s.heap [] 0 0 Q (F0 m 18 ls []) := by
    intro k
    induction k with
    | zero =>
      intro i ls hi hl
      obtain rfl : i = (1980 + d / 512) - 1970 := by omega
      have hl : lv_has ls 6 [(0, .int (nI d)), (1, .int (nI (1980 + d / 512))), (2, .long (lN (d % 32 - 1 + ydN ((1980 + d / 512) - 1970)))), (4, .int (nI (1970 + ((1980 + d / 512) - 1970))))] := hl
      refine lv_iload hx hb d_Dy_secondsBeforeDay_18 (lv_at hl 3 rfl) ?_
      refine lv_iload_n hx hb d_Dy_secondsBeforeDay_20 rfl (lv_at hl 1 rfl) ?_
      refine lv_icmp_ge (tgt := 50) hx hb d_Dy_secondsBeforeDay_21 (by decide) (fun c_1 => ?_) (fun c_1 => ?_)
      · skip
        rw [nI_leI (by omega) (by omega)] at c_1
        refine lv_iload_n hx hb d_Dy_secondsBeforeDay_50 rfl (lv_at hl 0 rfl) ?_
        refine mk_r1 (W.runS (As := [.int (nI d)]) (rest := []) S (c_Dy_monthOf l dC dI cI d (by first | assumption | omega)) (gS 1 hts k_241 k_242 k_38 k_243 (by decide +kernel) ⟨Nat.le_of_ble_eq_true rfl, Nat.le_of_ble_eq_true rfl⟩) (mk_sR hP hK hT hS [] rfl) rfl rfl hl.1 rfl (lv_room (Nat.le_of_ble_eq_true rfl)) d_Dy_secondsBeforeDay_51 ⟨Nat.zero_le _, Nat.zero_le _⟩) ?_
        refine lv_istore (lv' := [(4, .int (nI (d / 32 % 16))), (0, .int (nI d)), (1, .int (nI (1980 + d / 512))), (2, .long (lN (d % 32 - 1 + ydN ((1980 + d / 512) - 1970))))]) hx hb d_Dy_secondsBeforeDay_54 hl (by decide) rfl (fun ls hl => ?_)
        refine lv_iconst (v := nI 1) hx hb d_Dy_secondsBeforeDay_56 (by decide) ?_
        refine lv_istore (lv' := [(5, .int (nI 1)), (4, .int (nI (d / 32 % 16))), (0, .int (nI d)), (1, .int (nI (1980 + d / 512))), (2, .long (lN (d % 32 - 1 + ydN ((1980 + d / 512) - 1970))))]) hx hb d_Dy_secondsBeforeDay_57 hl (by decide) rfl (fun ls hl => ?_)
        have lp59 : ∀ (k2 : Nat) (j : Nat) (ls : Array Slot), (j + 1 + k2 = d / 32 % 16) → lv_has ls 6 [(0, .int (nI d)), (1, .int (nI (1980 + d / 512))), (2, .long (lN (d % 32 - 1 + ydN ((1980 + d / 512) - 1970) + mdN (1980 + d / 512) j))), (4, .int (nI (d / 32 % 16))), (5, .int (nI (j + 1)))] → W p l e ({ frames := 2, cells := 0, slots := 0, locals := 41 } : Room) s m ([.int (nI d)] : List Value).toArray below meth c s.heap [] 0 0 Q (F0 m 59 ls []) := by
          intro k2
          induction k2 with
          | zero =>
            intro j ls hj hl
            refine lv_iload hx hb d_Dy_secondsBeforeDay_59 (lv_at hl 4 rfl) ?_
            refine lv_iload hx hb d_Dy_secondsBeforeDay_61 (lv_at hl 3 rfl) ?_
            refine lv_icmp_ge (tgt := 82) hx hb d_Dy_secondsBeforeDay_63 (by decide) (fun c_2 => ?_) (fun c_2 => ?_)
            · skip
              rw [nI_leI (by omega) (by omega)] at c_2
              refine lv_lload_n hx hb d_Dy_secondsBeforeDay_82 rfl (lv_at hl 2 rfl) ?_
              refine lv_ldc2 (v := lN 86400) hx hb hown (hts _ (List.mem_cons_of_mem _ k_270)) d_Dy_secondsBeforeDay_83 ?_
              refine lv_lmul hx hb d_Dy_secondsBeforeDay_86 ?_
              refine mk_tl (y := lN ((d % 32 - 1 + ydN ((1980 + d / 512) - 1970) + mdN (1980 + d / 512) j) * 86400)) (lN_mul (d % 32 - 1 + ydN ((1980 + d / 512) - 1970) + mdN (1980 + d / 512) j) 86400) ?_
              exact mk_tl (by rw [sdN, show j = d / 32 % 16 - 1 by omega]) (hret _ _ d_Dy_secondsBeforeDay_87)
            · skip
              rw [nI_leI (by omega) (by omega)] at c_2
              first | omega | contradiction
          | succ k2 ih59 =>
            intro j ls hj hl
            refine lv_iload hx hb d_Dy_secondsBeforeDay_59 (lv_at hl 4 rfl) ?_
            refine lv_iload hx hb d_Dy_secondsBeforeDay_61 (lv_at hl 3 rfl) ?_
            refine lv_icmp_ge (tgt := 82) hx hb d_Dy_secondsBeforeDay_63 (by decide) (fun c_3 => ?_) (fun c_3 => ?_)
            · skip
              rw [nI_leI (by omega) (by omega)] at c_3
              first | omega | contradiction
            · skip
              rw [nI_leI (by omega) (by omega)] at c_3
              refine lv_lload_n hx hb d_Dy_secondsBeforeDay_66 rfl (lv_at hl 2 rfl) ?_
              refine lv_iload_n hx hb d_Dy_secondsBeforeDay_67 rfl (lv_at hl 1 rfl) ?_
              refine lv_iload hx hb d_Dy_secondsBeforeDay_68 (lv_at hl 4 rfl) ?_
              refine mk_r1 (W.runS (As := [.int (nI (1980 + d / 512)), .int (nI (j + 1))]) (rest := [.long (lN (d % 32 - 1 + ydN ((1980 + d / 512) - 1970) + mdN (1980 + d / 512) j))]) S (c_Dy_ml l dC dI cI (1980 + d / 512) (j + 1) (by first | assumption | omega) (by first | assumption | omega)) (gS 2 hts k_244 k_245 k_38 k_246 (by decide +kernel) ⟨Nat.le_of_ble_eq_true rfl, Nat.le_of_ble_eq_true rfl⟩) (mk_sR hP hK hT hS [] rfl) rfl rfl hl.1 rfl (lv_room (Nat.le_of_ble_eq_true rfl)) d_Dy_secondsBeforeDay_70 ⟨Nat.zero_le _, Nat.zero_le _⟩) ?_
              have b_4 := mlenN_le (1980 + d / 512) (j + 1)
              refine lv_i2l (v := lN (mlenN (1980 + d / 512) (j + 1))) hx hb d_Dy_secondsBeforeDay_73 (nI_l (by omega)) ?_
              refine lv_ladd hx hb d_Dy_secondsBeforeDay_74 ?_
              refine mk_tl (y := lN (d % 32 - 1 + ydN ((1980 + d / 512) - 1970) + mdN (1980 + d / 512) j + mlenN (1980 + d / 512) (j + 1))) (lN_add (d % 32 - 1 + ydN ((1980 + d / 512) - 1970) + mdN (1980 + d / 512) j) (mlenN (1980 + d / 512) (j + 1))) ?_
              refine lv_lstore_n (lv' := [(2, .long (lN (d % 32 - 1 + ydN ((1980 + d / 512) - 1970) + mdN (1980 + d / 512) j + mlenN (1980 + d / 512) (j + 1)))), (0, .int (nI d)), (1, .int (nI (1980 + d / 512))), (4, .int (nI (d / 32 % 16))), (5, .int (nI (j + 1)))]) hx hb d_Dy_secondsBeforeDay_75 rfl hl (by decide) rfl (fun ls hl => ?_)
              refine lv_iinc (v := nI (j + 1 + 1)) (lv' := [(5, .int (nI (j + 1 + 1))), (2, .long (lN (d % 32 - 1 + ydN ((1980 + d / 512) - 1970) + mdN (1980 + d / 512) j + mlenN (1980 + d / 512) (j + 1)))), (0, .int (nI d)), (1, .int (nI (1980 + d / 512))), (4, .int (nI (d / 32 % 16)))]) hx hb d_Dy_secondsBeforeDay_76 hl (k := 4) rfl (mk_i1 (j + 1)) (by decide) rfl (fun ls hl => ?_)
              refine lv_goto (tgt := 59) hx hb d_Dy_secondsBeforeDay_79 (by decide) ?_
              have hl : lv_has ls 6 [(0, .int (nI d)), (1, .int (nI (1980 + d / 512))), (2, .long (lN (d % 32 - 1 + ydN ((1980 + d / 512) - 1970) + mdN (1980 + d / 512) j + mlenN (1980 + d / 512) (j + 1)))), (4, .int (nI (d / 32 % 16))), (5, .int (nI (j + 1 + 1)))] := lv_sub hl [2, 3, 1, 4, 0] rfl
              have hl9 : ([(0, .int (nI d)), (1, .int (nI (1980 + d / 512))), (2, .long (lN (d % 32 - 1 + ydN ((1980 + d / 512) - 1970) + mdN (1980 + d / 512) j + mlenN (1980 + d / 512) (j + 1)))), (4, .int (nI (d / 32 % 16))), (5, .int (nI (j + 1 + 1)))] : List (Nat × Value)) = [(0, .int (nI d)), (1, .int (nI (1980 + d / 512))), (2, .long (lN (d % 32 - 1 + ydN ((1980 + d / 512) - 1970) + mdN (1980 + d / 512) (j + 1)))), (4, .int (nI (d / 32 % 16))), (5, .int (nI ((j + 1) + 1)))] := by rw [mdN, ← Nat.add_assoc]
              rw [hl9] at hl
              exact ih59 (j + 1) _ (by omega) hl
        have hl : lv_has ls 6 [(0, .int (nI d)), (1, .int (nI (1980 + d / 512))), (2, .long (lN (d % 32 - 1 + ydN ((1980 + d / 512) - 1970)))), (4, .int (nI (d / 32 % 16))), (5, .int (nI 1))] := lv_sub hl [2, 3, 4, 1, 0] rfl
        have hl9 : ([(0, .int (nI d)), (1, .int (nI (1980 + d / 512))), (2, .long (lN (d % 32 - 1 + ydN ((1980 + d / 512) - 1970)))), (4, .int (nI (d / 32 % 16))), (5, .int (nI 1))] : List (Nat × Value)) = [(0, .int (nI d)), (1, .int (nI (1980 + d / 512))), (2, .long (lN (d % 32 - 1 + ydN ((1980 + d / 512) - 1970) + mdN (1980 + d / 512) 0))), (4, .int (nI (d / 32 % 16))), (5, .int (nI (0 + 1)))] := by rfl
        rw [hl9] at hl
        exact lp59 (d / 32 % 16 - 1) 0 _ (by omega) hl
      · skip
        rw [nI_leI (by omega) (by omega)] at c_1
        first | omega | contradiction
    | succ k ih18 =>
      intro i ls hi hl
      refine lv_iload hx hb d_Dy_secondsBeforeDay_18 (lv_at hl 3 rfl) ?_
      refine lv_iload_n hx hb d_Dy_secondsBeforeDay_20 rfl (lv_at hl 1 rfl) ?_
      refine lv_icmp_ge (tgt := 50) hx hb d_Dy_secondsBeforeDay_21 (by decide) (fun c_5 => ?_) (fun c_5 => ?_)
      · skip
        rw [nI_leI (by omega) (by omega)] at c_5
        first | omega | contradiction
      · skip
        rw [nI_leI (by omega) (by omega)] at c_5
        refine lv_lload_n hx hb d_Dy_secondsBeforeDay_24 rfl (lv_at hl 2 rfl) ?_
        refine lv_iload hx hb d_Dy_secondsBeforeDay_25 (lv_at hl 3 rfl) ?_
        refine mk_r1 (W.runS (As := [.int (nI (1970 + i))]) (rest := [.long (lN (d % 32 - 1 + ydN i))]) S (c_Dy_leap l dC dI cI (1970 + i) (by first | assumption | omega)) (gS 1 hts k_247 k_248 k_38 k_249 (by decide +kernel) ⟨Nat.le_of_ble_eq_true rfl, Nat.le_of_ble_eq_true rfl⟩) (mk_sR hP hK hT hS [] rfl) rfl rfl hl.1 rfl (lv_room (Nat.le_of_ble_eq_true rfl)) d_Dy_secondsBeforeDay_27 ⟨Nat.zero_le _, Nat.zero_le _⟩) ?_
        refine lv_if_eq (tgt := 39) hx hb d_Dy_secondsBeforeDay_30 (by decide) (fun c_6 => ?_) (fun c_6 => ?_)
        · skip
          have c_6 := bI_0 c_6
          refine lv_ldc2 (v := lN 365) hx hb hown (hts _ (List.mem_cons_of_mem _ k_269)) d_Dy_secondsBeforeDay_39 ?_
          refine lv_ladd hx hb d_Dy_secondsBeforeDay_42 ?_
          refine mk_tl (y := lN (d % 32 - 1 + ydN i + 365)) (lN_add (d % 32 - 1 + ydN i) 365) ?_
          refine lv_lstore_n (lv' := [(2, .long (lN (d % 32 - 1 + ydN i + 365))), (0, .int (nI d)), (1, .int (nI (1980 + d / 512))), (4, .int (nI (1970 + i)))]) hx hb d_Dy_secondsBeforeDay_43 rfl hl (by decide) rfl (fun ls hl => ?_)
          refine lv_iinc (v := nI (1970 + i + 1)) (lv' := [(4, .int (nI (1970 + i + 1))), (2, .long (lN (d % 32 - 1 + ydN i + 365))), (0, .int (nI d)), (1, .int (nI (1980 + d / 512)))]) hx hb d_Dy_secondsBeforeDay_44 hl (k := 3) rfl (mk_i1 (1970 + i)) (by decide) rfl (fun ls hl => ?_)
          refine lv_goto (tgt := 18) hx hb d_Dy_secondsBeforeDay_47 (by decide) ?_
          have hl : lv_has ls 6 [(0, .int (nI d)), (1, .int (nI (1980 + d / 512))), (2, .long (lN (d % 32 - 1 + ydN i + 365))), (4, .int (nI (1970 + i + 1)))] := lv_sub hl [2, 3, 1, 0] rfl
          have hl9 : ([(0, .int (nI d)), (1, .int (nI (1980 + d / 512))), (2, .long (lN (d % 32 - 1 + ydN i + 365))), (4, .int (nI (1970 + i + 1)))] : List (Nat × Value)) = [(0, .int (nI d)), (1, .int (nI (1980 + d / 512))), (2, .long (lN (d % 32 - 1 + ydN (i + 1)))), (4, .int (nI (1970 + (i + 1))))] := by rw [ydN]; first | rw [if_pos (by assumption), ← Nat.add_assoc]; rfl | rw [if_neg (by simp [c_6]), ← Nat.add_assoc]; rfl
          rw [hl9] at hl
          exact ih18 (i + 1) _ (by omega) hl
        · skip
          have c_6 := bI_1 c_6
          refine lv_ldc2 (v := lN 366) hx hb hown (hts _ (List.mem_cons_of_mem _ k_268)) d_Dy_secondsBeforeDay_33 ?_
          refine lv_goto (tgt := 42) hx hb d_Dy_secondsBeforeDay_36 (by decide) ?_
          refine lv_ladd hx hb d_Dy_secondsBeforeDay_42 ?_
          refine mk_tl (y := lN (d % 32 - 1 + ydN i + 366)) (lN_add (d % 32 - 1 + ydN i) 366) ?_
          refine lv_lstore_n (lv' := [(2, .long (lN (d % 32 - 1 + ydN i + 366))), (0, .int (nI d)), (1, .int (nI (1980 + d / 512))), (4, .int (nI (1970 + i)))]) hx hb d_Dy_secondsBeforeDay_43 rfl hl (by decide) rfl (fun ls hl => ?_)
          refine lv_iinc (v := nI (1970 + i + 1)) (lv' := [(4, .int (nI (1970 + i + 1))), (2, .long (lN (d % 32 - 1 + ydN i + 366))), (0, .int (nI d)), (1, .int (nI (1980 + d / 512)))]) hx hb d_Dy_secondsBeforeDay_44 hl (k := 3) rfl (mk_i1 (1970 + i)) (by decide) rfl (fun ls hl => ?_)
          refine lv_goto (tgt := 18) hx hb d_Dy_secondsBeforeDay_47 (by decide) ?_
          have hl : lv_has ls 6 [(0, .int (nI d)), (1, .int (nI (1980 + d / 512))), (2, .long (lN (d % 32 - 1 + ydN i + 366))), (4, .int (nI (1970 + i + 1)))] := lv_sub hl [2, 3, 1, 0] rfl
          have hl9 : ([(0, .int (nI d)), (1, .int (nI (1980 + d / 512))), (2, .long (lN (d % 32 - 1 + ydN i + 366))), (4, .int (nI (1970 + i + 1)))] : List (Nat × Value)) = [(0, .int (nI d)), (1, .int (nI (1980 + d / 512))), (2, .long (lN (d % 32 - 1 + ydN (i + 1)))), (4, .int (nI (1970 + (i + 1))))] := by rw [ydN]; first | rw [if_pos (by assumption), ← Nat.add_assoc]; rfl | rw [if_neg (by simp [c_6]), ← Nat.add_assoc]; rfl
          rw [hl9] at hl
          exact ih18 (i + 1) _ (by omega) hl
  have hl : lv_has ls 6 [(0, .int (nI d)), (1, .int (nI (1980 + d / 512))), (2, .long (lN (d % 32 - 1))), (4, .int (nI 1970))] := lv_sub hl [3, 2, 1, 0] rfl
  have hl9 : ([(0, .int (nI d)), (1, .int (nI (1980 + d / 512))), (2, .long (lN (d % 32 - 1))), (4, .int (nI 1970))] : List (Nat × Value)) = [(0, .int (nI d)), (1, .int (nI (1980 + d / 512))), (2, .long (lN (d % 32 - 1 + ydN 0))), (4, .int (nI (1970 + 0)))] := by rfl
  rw [hl9] at hl
  exact lp18 ((1980 + d / 512) - 1970) 0 _ (by omega) hl

set_option maxHeartbeats 4000000 in
set_option maxRecDepth 100000 in
theorem c_Dy_sot (l : Launch) (dC : Nat → ClassId) (dI : Nat → Nat → Nat) (cI : ClassId) (d : Nat) (hd : d < 65536) : mR l y_Dy_secondsOfTime w_Dy_secondsOfTime ({ frames := 1, cells := 0, slots := 0, locals := 20 } : Room) [.int (nI d)] (dC, dI) vwCl [(cI, .int)] [] (some (.long (lN (stmN d)))) := by
  refine mk_Rl (cc := b_Dy_secondsOfTime) (maxL := 1) (by decide) rfl (Nat.le_of_ble_eq_true rfl) ?_
  intro p e s m below meth c Q A ls S hP hK hT hS hl hret
  obtain ⟨hx, hb, hml, hown, hts⟩ := id S
  have hl : lv_has ls 1 [(0, .int (nI d))] := hl
  refine lv_ldc2 (v := lN 3600) hx hb hown (hts _ (List.mem_cons_of_mem _ k_274)) d_Dy_secondsOfTime_0 ?_
  refine lv_iload_n hx hb d_Dy_secondsOfTime_3 rfl (lv_at hl 0 rfl) ?_
  refine mk_r1 (W.runS (As := [.int (nI d)]) (rest := [.long (lN 3600)]) S (c_Dy_hourOf l dC dI cI d (by first | assumption | omega)) (gS 1 hts k_255 k_256 k_38 k_257 (by decide +kernel) ⟨Nat.le_of_ble_eq_true rfl, Nat.le_of_ble_eq_true rfl⟩) (mk_sR hP hK hT hS [] rfl) rfl rfl hl.1 rfl (lv_room (Nat.le_of_ble_eq_true rfl)) d_Dy_secondsOfTime_4 ⟨Nat.zero_le _, Nat.zero_le _⟩) ?_
  refine lv_i2l (v := lN (d / 2048)) hx hb d_Dy_secondsOfTime_7 (nI_l (by omega)) ?_
  refine lv_lmul hx hb d_Dy_secondsOfTime_8 ?_
  refine mk_tl (y := lN (3600 * (d / 2048))) (lN_mul 3600 (d / 2048)) ?_
  refine lv_ldc2 (v := lN 60) hx hb hown (hts _ (List.mem_cons_of_mem _ k_275)) d_Dy_secondsOfTime_9 ?_
  refine lv_iload_n hx hb d_Dy_secondsOfTime_12 rfl (lv_at hl 0 rfl) ?_
  refine mk_r1 (W.runS (As := [.int (nI d)]) (rest := [.long (lN 60), .long (lN (3600 * (d / 2048)))]) S (c_Dy_minuteOf l dC dI cI d (by first | assumption | omega)) (gS 1 hts k_258 k_259 k_38 k_260 (by decide +kernel) ⟨Nat.le_of_ble_eq_true rfl, Nat.le_of_ble_eq_true rfl⟩) (mk_sR hP hK hT hS [] rfl) rfl rfl hl.1 rfl (lv_room (Nat.le_of_ble_eq_true rfl)) d_Dy_secondsOfTime_13 ⟨Nat.zero_le _, Nat.zero_le _⟩) ?_
  refine lv_i2l (v := lN (d / 32 % 64)) hx hb d_Dy_secondsOfTime_16 (nI_l (by omega)) ?_
  refine lv_lmul hx hb d_Dy_secondsOfTime_17 ?_
  refine mk_tl (y := lN (60 * (d / 32 % 64))) (lN_mul 60 (d / 32 % 64)) ?_
  refine lv_ladd hx hb d_Dy_secondsOfTime_18 ?_
  refine mk_tl (y := lN (3600 * (d / 2048) + 60 * (d / 32 % 64))) (lN_add (3600 * (d / 2048)) (60 * (d / 32 % 64))) ?_
  refine lv_ldc2 (v := lN 2) hx hb hown (hts _ (List.mem_cons_of_mem _ k_276)) d_Dy_secondsOfTime_19 ?_
  refine lv_iload_n hx hb d_Dy_secondsOfTime_22 rfl (lv_at hl 0 rfl) ?_
  refine mk_r1 (W.runS (As := [.int (nI d)]) (rest := [.long (lN 2), .long (lN (3600 * (d / 2048) + 60 * (d / 32 % 64)))]) S (c_Dy_halfOf l dC dI cI d (by first | assumption | omega)) (gS 1 hts k_261 k_262 k_38 k_263 (by decide +kernel) ⟨Nat.le_of_ble_eq_true rfl, Nat.le_of_ble_eq_true rfl⟩) (mk_sR hP hK hT hS [] rfl) rfl rfl hl.1 rfl (lv_room (Nat.le_of_ble_eq_true rfl)) d_Dy_secondsOfTime_23 ⟨Nat.zero_le _, Nat.zero_le _⟩) ?_
  refine lv_i2l (v := lN (d % 32)) hx hb d_Dy_secondsOfTime_26 (nI_l (by omega)) ?_
  refine lv_lmul hx hb d_Dy_secondsOfTime_27 ?_
  refine mk_tl (y := lN (2 * (d % 32))) (lN_mul 2 (d % 32)) ?_
  refine lv_ladd hx hb d_Dy_secondsOfTime_28 ?_
  refine mk_tl (y := lN (3600 * (d / 2048) + 60 * (d / 32 % 64) + 2 * (d % 32))) (lN_add (3600 * (d / 2048) + 60 * (d / 32 % 64)) (2 * (d % 32))) ?_
  exact mk_tl (by rfl) (hret _ _ d_Dy_secondsOfTime_29)
end
section
set_option maxHeartbeats 4000000 in
set_option maxRecDepth 100000 in
theorem c_LN_unit0 (l : Launch) (dC : Nat → ClassId) (dI : Nat → Nat → Nat) (cI : ClassId) (x f0 a0 n0 : Nat) (v0 : Nat → Nat) (f1 a1 n1 : Nat) (v1 : Nat → Nat) (h a : Nat) (b : Nat → Nat) (hp ap : Nat) (pb : Nat → Nat) (hs as : Nat) (B : Nat → Nat) (u : Nat) (hn0 : n0 ≤ 255) (hv0 : ∀ j, v0 j < 65536) (hn1 : n1 ≤ 255) (hv1 : ∀ j, v1 j < 65536) (hb9 : ∀ j, b j < 65536) (hpb : ∀ j, pb j < 65536) (hB : ∀ j, B j < 256) (hu : u < 65536) (hf : n0 < 255) : mM l y_LN_unit w_LN_unit ({ frames := 1, cells := 0, slots := 0, locals := 21 } : Room) [.ref x, .int (nI 0), .int (nI u)] (dC, dI) vwCl [(cI, .int)] [(x, .inr (0, [.ref f0, .ref f1, .ref h, .ref hp, .ref hs])), (f0, .inr (1, [.ref a0, .int (nI n0)])), (a0, .inl (cI, 255, .inl (nf v0))), (f1, .inr (1, [.ref a1, .int (nI n1)])), (a1, .inl (cI, 255, .inl (nf v1))), (h, .inr (2, [.ref a])), (a, .inl (cI, 11, .inl (nf b))), (hp, .inr (3, [.ref ap])), (ap, .inl (cI, 32, .inl (nf pb))), (hs, .inr (4, [.ref as])), (as, .inl (cI, 1024, .inl (nf B)))] (some (.int (nI 1))) [(x, .inr (0, [.ref f0, .ref f1, .ref h, .ref hp, .ref hs])), (f0, .inr (1, [.ref a0, .int (nI (n0 + 1))])), (a0, .inl (cI, 255, .inl (nf (uN v0 n0 u)))), (f1, .inr (1, [.ref a1, .int (nI n1)])), (a1, .inl (cI, 255, .inl (nf v1))), (h, .inr (2, [.ref a])), (a, .inl (cI, 11, .inl (nf b))), (hp, .inr (3, [.ref ap])), (ap, .inl (cI, 32, .inl (nf pb))), (hs, .inr (4, [.ref as])), (as, .inl (cI, 1024, .inl (nf B)))] := by
  refine mk_Mi (cc := b_LN_unit) (maxL := 4) (by decide) rfl (Nat.le_of_ble_eq_true rfl) (rfl) ?_
  intro p e s m below meth c Q A ls S hP hK hT hS hl hD hA hret
  obtain ⟨hx, hb, hml, hown, hts⟩ := id S
  have hl : lv_has ls 4 [(0, .ref x), (1, .int (nI 0)), (2, .int (nI u))] := hl
  refine lv_aload_n hx hb d_LN_unit_0 rfl (lv_at hl 0 rfl) ?_
  refine lv_iload_n hx hb d_LN_unit_1 rfl (lv_at hl 1 rfl) ?_
  refine mk_r1 (W.runV (As := [.int (nI 0)]) (rest := []) S (c_LN_row0 l dC dI cI x f0 f1 h hp hs) (gV 1 hts k_111 k_113 k_0 k_24 k_114 (by decide +kernel) ⟨Nat.le_of_ble_eq_true rfl, Nat.le_of_ble_eq_true rfl⟩) (mk_vR hP hK hT hS [0] rfl (q0 := 0) (ci := 0) rfl rfl) rfl rfl hl.1 rfl (lv_room (Nat.le_of_ble_eq_true rfl)) d_LN_unit_2 ⟨Nat.zero_le _, Nat.zero_le _⟩) ?_
  refine lv_astore_n (lv' := [(3, .ref f0), (0, .ref x), (1, .int (nI 0)), (2, .int (nI u))]) hx hb d_LN_unit_5 rfl hl (by decide) rfl (fun ls hl => ?_)
  refine lv_aload_n hx hb d_LN_unit_6 rfl (lv_at hl 0 rfl) ?_
  refine lv_ifnull hx hb d_LN_unit_7 ?_
  refine lv_iload_n hx hb d_LN_unit_10 rfl (lv_at hl 3 rfl) ?_
  refine lv_if_lt (tgt := 20) hx hb d_LN_unit_11 (by decide) (fun c_1 => ?_) (fun c_1 => ?_)
  · skip
    rw [mk_clt (by omega)] at c_1
    first | omega | contradiction
  · skip
    rw [mk_clt (by omega)] at c_1
    refine lv_iload_n hx hb d_LN_unit_14 rfl (lv_at hl 3 rfl) ?_
    refine lv_ldc (v := nI 65535) hx hb hown (hts _ (List.mem_cons_of_mem _ k_115)) d_LN_unit_15 ?_
    refine lv_icmp_le (tgt := 22) hx hb d_LN_unit_17 (by decide) (fun c_2 => ?_) (fun c_2 => ?_)
    · skip
      rw [nI_leI (by omega) (by omega)] at c_2
      refine lv_aload_n hx hb d_LN_unit_22 rfl (lv_at hl 0 rfl) ?_
      refine lv_iload_n hx hb d_LN_unit_23 rfl (lv_at hl 3 rfl) ?_
      refine mk_w1 (wr := [(x, .inr (0, [.ref f0, .ref f1, .ref h, .ref hp, .ref hs])), (f1, .inr (1, [.ref a1, .int (nI n1)])), (a1, .inl (cI, 255, .inl (nf v1))), (h, .inr (2, [.ref a])), (a, .inl (cI, 11, .inl (nf b))), (hp, .inr (3, [.ref ap])), (ap, .inl (cI, 32, .inl (nf pb))), (hs, .inr (4, [.ref as])), (as, .inl (cI, 1024, .inl (nf B)))]) (W.runV (As := [.int (nI u)]) (rest := []) S ((c_Ro_app l dC dI cI f0 a0 n0 v0 u (by first | assumption | omega)) _) (gV 1 hts k_116 k_117 k_118 k_25 k_119 (by decide +kernel) ⟨Nat.le_of_ble_eq_true rfl, Nat.le_of_ble_eq_true rfl⟩) (mk_vM hP hD hK hT hS hA [1, 2] rfl rfl (by decide) (q0 := 1) (ci := 1) rfl rfl) rfl rfl hl.1 rfl (lv_room (Nat.le_of_ble_eq_true rfl)) d_LN_unit_24 ⟨Nat.zero_le _, Nat.zero_le _⟩) hP hD hS hA [1, 2] [0, 3, 4, 5, 6, 7, 8, 9, 10] rfl rfl (by decide) (by decide) (fun H locs hP hD hS => ?_)
      have hP : va_P (dC, dI) vwCl [(x, .inr (0, [.ref f0, .ref f1, .ref h, .ref hp, .ref hs])), (f0, .inr (1, [.ref a0, .int (nI (n0 + 1))])), (a0, .inl (cI, 255, .inl (nf (uN v0 n0 u)))), (f1, .inr (1, [.ref a1, .int (nI n1)])), (a1, .inl (cI, 255, .inl (nf v1))), (h, .inr (2, [.ref a])), (a, .inl (cI, 11, .inl (nf b))), (hp, .inr (3, [.ref ap])), (ap, .inl (cI, 32, .inl (nf pb))), (hs, .inr (4, [.ref as])), (as, .inl (cI, 1024, .inl (nf B)))] H := hP.sub [0, 9, 10, 1, 2, 3, 4, 5, 6, 7, 8] rfl
      have hD : va_D A [(x, .inr (0, [.ref f0, .ref f1, .ref h, .ref hp, .ref hs])), (f0, .inr (1, [.ref a0, .int (nI (n0 + 1))])), (a0, .inl (cI, 255, .inl (nf (uN v0 n0 u)))), (f1, .inr (1, [.ref a1, .int (nI n1)])), (a1, .inl (cI, 255, .inl (nf v1))), (h, .inr (2, [.ref a])), (a, .inl (cI, 11, .inl (nf b))), (hp, .inr (3, [.ref ap])), (ap, .inl (cI, 32, .inl (nf pb))), (hs, .inr (4, [.ref as])), (as, .inl (cI, 1024, .inl (nf B)))] := hD.sub [0, 9, 10, 1, 2, 3, 4, 5, 6, 7, 8] (by decide) rfl
      exact hret _ _ _ _ d_LN_unit_27 hP hD hS
    · skip
      rw [nI_leI (by omega) (by omega)] at c_2
      first | omega | contradiction

set_option maxHeartbeats 4000000 in
set_option maxRecDepth 100000 in
theorem c_LN_unit0f (l : Launch) (dC : Nat → ClassId) (dI : Nat → Nat → Nat) (cI : ClassId) (x f0 a0 n0 : Nat) (v0 : Nat → Nat) (f1 a1 n1 : Nat) (v1 : Nat → Nat) (h a : Nat) (b : Nat → Nat) (hp ap : Nat) (pb : Nat → Nat) (hs as : Nat) (B : Nat → Nat) (u : Nat) (hn0 : n0 ≤ 255) (hv0 : ∀ j, v0 j < 65536) (hn1 : n1 ≤ 255) (hv1 : ∀ j, v1 j < 65536) (hb9 : ∀ j, b j < 65536) (hpb : ∀ j, pb j < 65536) (hB : ∀ j, B j < 256) (hu : u < 65536) (hf : n0 = 255) : mM l y_LN_unit w_LN_unit ({ frames := 1, cells := 0, slots := 0, locals := 21 } : Room) [.ref x, .int (nI 0), .int (nI u)] (dC, dI) vwCl [(cI, .int)] [(x, .inr (0, [.ref f0, .ref f1, .ref h, .ref hp, .ref hs])), (f0, .inr (1, [.ref a0, .int (nI n0)])), (a0, .inl (cI, 255, .inl (nf v0))), (f1, .inr (1, [.ref a1, .int (nI n1)])), (a1, .inl (cI, 255, .inl (nf v1))), (h, .inr (2, [.ref a])), (a, .inl (cI, 11, .inl (nf b))), (hp, .inr (3, [.ref ap])), (ap, .inl (cI, 32, .inl (nf pb))), (hs, .inr (4, [.ref as])), (as, .inl (cI, 1024, .inl (nf B)))] (some (.int (nI 0))) [(x, .inr (0, [.ref f0, .ref f1, .ref h, .ref hp, .ref hs])), (f0, .inr (1, [.ref a0, .int (nI n0)])), (a0, .inl (cI, 255, .inl (nf v0))), (f1, .inr (1, [.ref a1, .int (nI n1)])), (a1, .inl (cI, 255, .inl (nf v1))), (h, .inr (2, [.ref a])), (a, .inl (cI, 11, .inl (nf b))), (hp, .inr (3, [.ref ap])), (ap, .inl (cI, 32, .inl (nf pb))), (hs, .inr (4, [.ref as])), (as, .inl (cI, 1024, .inl (nf B)))] := by
  refine mk_Mi (cc := b_LN_unit) (maxL := 4) (by decide) rfl (Nat.le_of_ble_eq_true rfl) (rfl) ?_
  intro p e s m below meth c Q A ls S hP hK hT hS hl hD hA hret
  obtain ⟨hx, hb, hml, hown, hts⟩ := id S
  have hl : lv_has ls 4 [(0, .ref x), (1, .int (nI 0)), (2, .int (nI u))] := hl
  refine lv_aload_n hx hb d_LN_unit_0 rfl (lv_at hl 0 rfl) ?_
  refine lv_iload_n hx hb d_LN_unit_1 rfl (lv_at hl 1 rfl) ?_
  refine mk_r1 (W.runV (As := [.int (nI 0)]) (rest := []) S (c_LN_row0 l dC dI cI x f0 f1 h hp hs) (gV 1 hts k_111 k_113 k_0 k_24 k_114 (by decide +kernel) ⟨Nat.le_of_ble_eq_true rfl, Nat.le_of_ble_eq_true rfl⟩) (mk_vR hP hK hT hS [0] rfl (q0 := 0) (ci := 0) rfl rfl) rfl rfl hl.1 rfl (lv_room (Nat.le_of_ble_eq_true rfl)) d_LN_unit_2 ⟨Nat.zero_le _, Nat.zero_le _⟩) ?_
  refine lv_astore_n (lv' := [(3, .ref f0), (0, .ref x), (1, .int (nI 0)), (2, .int (nI u))]) hx hb d_LN_unit_5 rfl hl (by decide) rfl (fun ls hl => ?_)
  refine lv_aload_n hx hb d_LN_unit_6 rfl (lv_at hl 0 rfl) ?_
  refine lv_ifnull hx hb d_LN_unit_7 ?_
  refine lv_iload_n hx hb d_LN_unit_10 rfl (lv_at hl 3 rfl) ?_
  refine lv_if_lt (tgt := 20) hx hb d_LN_unit_11 (by decide) (fun c_1 => ?_) (fun c_1 => ?_)
  · skip
    rw [mk_clt (by omega)] at c_1
    first | omega | contradiction
  · skip
    rw [mk_clt (by omega)] at c_1
    refine lv_iload_n hx hb d_LN_unit_14 rfl (lv_at hl 3 rfl) ?_
    refine lv_ldc (v := nI 65535) hx hb hown (hts _ (List.mem_cons_of_mem _ k_115)) d_LN_unit_15 ?_
    refine lv_icmp_le (tgt := 22) hx hb d_LN_unit_17 (by decide) (fun c_2 => ?_) (fun c_2 => ?_)
    · skip
      rw [nI_leI (by omega) (by omega)] at c_2
      refine lv_aload_n hx hb d_LN_unit_22 rfl (lv_at hl 0 rfl) ?_
      refine lv_iload_n hx hb d_LN_unit_23 rfl (lv_at hl 3 rfl) ?_
      refine mk_w1 (wr := [(x, .inr (0, [.ref f0, .ref f1, .ref h, .ref hp, .ref hs])), (f1, .inr (1, [.ref a1, .int (nI n1)])), (a1, .inl (cI, 255, .inl (nf v1))), (h, .inr (2, [.ref a])), (a, .inl (cI, 11, .inl (nf b))), (hp, .inr (3, [.ref ap])), (ap, .inl (cI, 32, .inl (nf pb))), (hs, .inr (4, [.ref as])), (as, .inl (cI, 1024, .inl (nf B)))]) (W.runV (As := [.int (nI u)]) (rest := []) S ((c_Ro_full l dC dI cI f0 a0 n0 v0 (nI u) (by first | assumption | omega)) _) (gV 1 hts k_116 k_117 k_118 k_25 k_119 (by decide +kernel) ⟨Nat.le_of_ble_eq_true rfl, Nat.le_of_ble_eq_true rfl⟩) (mk_vM hP hD hK hT hS hA [1, 2] rfl rfl (by decide) (q0 := 1) (ci := 1) rfl rfl) rfl rfl hl.1 rfl (lv_room (Nat.le_of_ble_eq_true rfl)) d_LN_unit_24 ⟨Nat.zero_le _, Nat.zero_le _⟩) hP hD hS hA [1, 2] [0, 3, 4, 5, 6, 7, 8, 9, 10] rfl rfl (by decide) (by decide) (fun H locs hP hD hS => ?_)
      have hP : va_P (dC, dI) vwCl [(x, .inr (0, [.ref f0, .ref f1, .ref h, .ref hp, .ref hs])), (f0, .inr (1, [.ref a0, .int (nI n0)])), (a0, .inl (cI, 255, .inl (nf v0))), (f1, .inr (1, [.ref a1, .int (nI n1)])), (a1, .inl (cI, 255, .inl (nf v1))), (h, .inr (2, [.ref a])), (a, .inl (cI, 11, .inl (nf b))), (hp, .inr (3, [.ref ap])), (ap, .inl (cI, 32, .inl (nf pb))), (hs, .inr (4, [.ref as])), (as, .inl (cI, 1024, .inl (nf B)))] H := hP.sub [0, 9, 10, 1, 2, 3, 4, 5, 6, 7, 8] rfl
      have hD : va_D A [(x, .inr (0, [.ref f0, .ref f1, .ref h, .ref hp, .ref hs])), (f0, .inr (1, [.ref a0, .int (nI n0)])), (a0, .inl (cI, 255, .inl (nf v0))), (f1, .inr (1, [.ref a1, .int (nI n1)])), (a1, .inl (cI, 255, .inl (nf v1))), (h, .inr (2, [.ref a])), (a, .inl (cI, 11, .inl (nf b))), (hp, .inr (3, [.ref ap])), (ap, .inl (cI, 32, .inl (nf pb))), (hs, .inr (4, [.ref as])), (as, .inl (cI, 1024, .inl (nf B)))] := hD.sub [0, 9, 10, 1, 2, 3, 4, 5, 6, 7, 8] (by decide) rfl
      exact hret _ _ _ _ d_LN_unit_27 hP hD hS
    · skip
      rw [nI_leI (by omega) (by omega)] at c_2
      first | omega | contradiction

set_option maxHeartbeats 4000000 in
set_option maxRecDepth 100000 in
theorem c_LN_unit0b (l : Launch) (dC : Nat → ClassId) (dI : Nat → Nat → Nat) (cI : ClassId) (x f0 a0 n0 : Nat) (v0 : Nat → Nat) (f1 a1 n1 : Nat) (v1 : Nat → Nat) (h a : Nat) (b : Nat → Nat) (hp ap : Nat) (pb : Nat → Nat) (hs as : Nat) (B : Nat → Nat) (u : Int32) (hn0 : n0 ≤ 255) (hv0 : ∀ j, v0 j < 65536) (hn1 : n1 ≤ 255) (hv1 : ∀ j, v1 j < 65536) (hb9 : ∀ j, b j < 65536) (hpb : ∀ j, pb j < 65536) (hB : ∀ j, B j < 256) (hu : u < 0 ∨ ¬ u ≤ nI 65535) : mM l y_LN_unit w_LN_unit ({ frames := 1, cells := 0, slots := 0, locals := 21 } : Room) [.ref x, .int (nI 0), .int u] (dC, dI) vwCl [(cI, .int)] [(x, .inr (0, [.ref f0, .ref f1, .ref h, .ref hp, .ref hs])), (f0, .inr (1, [.ref a0, .int (nI n0)])), (a0, .inl (cI, 255, .inl (nf v0))), (f1, .inr (1, [.ref a1, .int (nI n1)])), (a1, .inl (cI, 255, .inl (nf v1))), (h, .inr (2, [.ref a])), (a, .inl (cI, 11, .inl (nf b))), (hp, .inr (3, [.ref ap])), (ap, .inl (cI, 32, .inl (nf pb))), (hs, .inr (4, [.ref as])), (as, .inl (cI, 1024, .inl (nf B)))] (some (.int (nI 0))) [(x, .inr (0, [.ref f0, .ref f1, .ref h, .ref hp, .ref hs])), (f0, .inr (1, [.ref a0, .int (nI n0)])), (a0, .inl (cI, 255, .inl (nf v0))), (f1, .inr (1, [.ref a1, .int (nI n1)])), (a1, .inl (cI, 255, .inl (nf v1))), (h, .inr (2, [.ref a])), (a, .inl (cI, 11, .inl (nf b))), (hp, .inr (3, [.ref ap])), (ap, .inl (cI, 32, .inl (nf pb))), (hs, .inr (4, [.ref as])), (as, .inl (cI, 1024, .inl (nf B)))] := by
  refine mk_Mi (cc := b_LN_unit) (maxL := 4) (by decide) rfl (Nat.le_of_ble_eq_true rfl) (rfl) ?_
  intro p e s m below meth c Q A ls S hP hK hT hS hl hD hA hret
  obtain ⟨hx, hb, hml, hown, hts⟩ := id S
  have hl : lv_has ls 4 [(0, .ref x), (1, .int (nI 0)), (2, .int u)] := hl
  refine lv_aload_n hx hb d_LN_unit_0 rfl (lv_at hl 0 rfl) ?_
  refine lv_iload_n hx hb d_LN_unit_1 rfl (lv_at hl 1 rfl) ?_
  refine mk_r1 (W.runV (As := [.int (nI 0)]) (rest := []) S (c_LN_row0 l dC dI cI x f0 f1 h hp hs) (gV 1 hts k_111 k_113 k_0 k_24 k_114 (by decide +kernel) ⟨Nat.le_of_ble_eq_true rfl, Nat.le_of_ble_eq_true rfl⟩) (mk_vR hP hK hT hS [0] rfl (q0 := 0) (ci := 0) rfl rfl) rfl rfl hl.1 rfl (lv_room (Nat.le_of_ble_eq_true rfl)) d_LN_unit_2 ⟨Nat.zero_le _, Nat.zero_le _⟩) ?_
  refine lv_astore_n (lv' := [(3, .ref f0), (0, .ref x), (1, .int (nI 0)), (2, .int u)]) hx hb d_LN_unit_5 rfl hl (by decide) rfl (fun ls hl => ?_)
  refine lv_aload_n hx hb d_LN_unit_6 rfl (lv_at hl 0 rfl) ?_
  refine lv_ifnull hx hb d_LN_unit_7 ?_
  refine lv_iload_n hx hb d_LN_unit_10 rfl (lv_at hl 3 rfl) ?_
  refine lv_if_lt (tgt := 20) hx hb d_LN_unit_11 (by decide) (fun c_1 => ?_) (fun c_1 => ?_)
  · skip
    refine lv_iconst (v := nI 0) hx hb d_LN_unit_20 (by decide) ?_
    exact hret _ _ _ _ d_LN_unit_21 hP hD hS
  · skip
    refine lv_iload_n hx hb d_LN_unit_14 rfl (lv_at hl 3 rfl) ?_
    refine lv_ldc (v := nI 65535) hx hb hown (hts _ (List.mem_cons_of_mem _ k_115)) d_LN_unit_15 ?_
    refine lv_icmp_le (tgt := 22) hx hb d_LN_unit_17 (by decide) (fun c_2 => ?_) (fun c_2 => ?_)
    · skip
      rcases hu with h9 | h9 <;> contradiction
    · skip
      refine lv_iconst (v := nI 0) hx hb d_LN_unit_20 (by decide) ?_
      exact hret _ _ _ _ d_LN_unit_21 hP hD hS

set_option maxHeartbeats 4000000 in
set_option maxRecDepth 100000 in
theorem c_LN_clear0 (l : Launch) (dC : Nat → ClassId) (dI : Nat → Nat → Nat) (cI : ClassId) (x f0 a0 n0 : Nat) (v0 : Nat → Nat) (f1 a1 n1 : Nat) (v1 : Nat → Nat) (h a : Nat) (b : Nat → Nat) (hp ap : Nat) (pb : Nat → Nat) (hs as : Nat) (B : Nat → Nat) (hn0 : n0 ≤ 255) (hv0 : ∀ j, v0 j < 65536) (hn1 : n1 ≤ 255) (hv1 : ∀ j, v1 j < 65536) (hb9 : ∀ j, b j < 65536) (hpb : ∀ j, pb j < 65536) (hB : ∀ j, B j < 256)  : mM l y_LN_clear w_LN_clear ({ frames := 1, cells := 0, slots := 0, locals := 21 } : Room) [.ref x, .int (nI 0)] (dC, dI) vwCl [(cI, .int)] [(x, .inr (0, [.ref f0, .ref f1, .ref h, .ref hp, .ref hs])), (f0, .inr (1, [.ref a0, .int (nI n0)])), (a0, .inl (cI, 255, .inl (nf v0))), (f1, .inr (1, [.ref a1, .int (nI n1)])), (a1, .inl (cI, 255, .inl (nf v1))), (h, .inr (2, [.ref a])), (a, .inl (cI, 11, .inl (nf b))), (hp, .inr (3, [.ref ap])), (ap, .inl (cI, 32, .inl (nf pb))), (hs, .inr (4, [.ref as])), (as, .inl (cI, 1024, .inl (nf B)))] (some (.int (nI n0))) [(x, .inr (0, [.ref f0, .ref f1, .ref h, .ref hp, .ref hs])), (f0, .inr (1, [.ref a0, .int (nI 0)])), (a0, .inl (cI, 255, .inl (nf v0))), (f1, .inr (1, [.ref a1, .int (nI n1)])), (a1, .inl (cI, 255, .inl (nf v1))), (h, .inr (2, [.ref a])), (a, .inl (cI, 11, .inl (nf b))), (hp, .inr (3, [.ref ap])), (ap, .inl (cI, 32, .inl (nf pb))), (hs, .inr (4, [.ref as])), (as, .inl (cI, 1024, .inl (nf B)))] := by
  refine mk_Mi (cc := b_LN_clear) (maxL := 4) (by decide) rfl (Nat.le_of_ble_eq_true rfl) rfl ?_
  intro p e s m below meth c Q A ls S hP hK hT hS hl hD hA hret
  obtain ⟨hx, hb, hml, hown, hts⟩ := id S
  have hl : lv_has ls 4 [(0, .ref x), (1, .int (nI 0))] := hl
  refine lv_aload_n hx hb d_LN_clear_0 rfl (lv_at hl 0 rfl) ?_
  refine lv_iload_n hx hb d_LN_clear_1 rfl (lv_at hl 1 rfl) ?_
  refine mk_r1 (W.runV (As := [.int (nI 0)]) (rest := []) S (c_LN_row0 l dC dI cI x f0 f1 h hp hs) (gV 1 hts k_111 k_113 k_0 k_24 k_114 (by decide +kernel) ⟨Nat.le_of_ble_eq_true rfl, Nat.le_of_ble_eq_true rfl⟩) (mk_vR hP hK hT hS [0] rfl (q0 := 0) (ci := 0) rfl rfl) rfl rfl hl.1 rfl (lv_room (Nat.le_of_ble_eq_true rfl)) d_LN_clear_2 ⟨Nat.zero_le _, Nat.zero_le _⟩) ?_
  refine lv_astore_n (lv' := [(2, .ref f0), (0, .ref x), (1, .int (nI 0))]) hx hb d_LN_clear_5 rfl hl (by decide) rfl (fun ls hl => ?_)
  refine lv_aload_n hx hb d_LN_clear_6 rfl (lv_at hl 0 rfl) ?_
  refine lv_ifnonnull (tgt := 12) hx hb d_LN_clear_7 (by decide) ?_
  refine lv_aload_n hx hb d_LN_clear_12 rfl (lv_at hl 0 rfl) ?_
  refine mk_r1 (W.runV (As := []) (rest := []) S (c_Ro_size l dC dI cI f0 a0 n0 v0) (gV 0 hts k_124 k_125 k_126 k_25 k_127 (by decide +kernel) ⟨Nat.le_of_ble_eq_true rfl, Nat.le_of_ble_eq_true rfl⟩) (mk_vR hP hK hT hS [1, 2] rfl (q0 := 1) (ci := 1) rfl rfl) rfl rfl hl.1 rfl (lv_room (Nat.le_of_ble_eq_true rfl)) d_LN_clear_13 ⟨Nat.zero_le _, Nat.zero_le _⟩) ?_
  refine lv_istore_n (lv' := [(3, .int (nI n0)), (2, .ref f0), (0, .ref x), (1, .int (nI 0))]) hx hb d_LN_clear_16 rfl hl (by decide) rfl (fun ls hl => ?_)
  refine lv_aload_n hx hb d_LN_clear_17 rfl (lv_at hl 1 rfl) ?_
  refine mk_w0 (wr := [(x, .inr (0, [.ref f0, .ref f1, .ref h, .ref hp, .ref hs])), (f1, .inr (1, [.ref a1, .int (nI n1)])), (a1, .inl (cI, 255, .inl (nf v1))), (h, .inr (2, [.ref a])), (a, .inl (cI, 11, .inl (nf b))), (hp, .inr (3, [.ref ap])), (ap, .inl (cI, 32, .inl (nf pb))), (hs, .inr (4, [.ref as])), (as, .inl (cI, 1024, .inl (nf B)))]) (W.runV (As := []) (rest := []) S ((c_Ro_empty l dC dI cI f0 a0 n0 v0) _) (gV 0 hts k_128 k_129 k_130 k_25 k_131 (by decide +kernel) ⟨Nat.le_of_ble_eq_true rfl, Nat.le_of_ble_eq_true rfl⟩) (mk_vM hP hD hK hT hS hA [1, 2] rfl rfl (by decide) (q0 := 1) (ci := 1) rfl rfl) rfl rfl hl.1 rfl (lv_room (Nat.le_of_ble_eq_true rfl)) d_LN_clear_18 ⟨Nat.zero_le _, Nat.zero_le _⟩) hP hD hS hA [1, 2] [0, 3, 4, 5, 6, 7, 8, 9, 10] rfl rfl (by decide) (by decide) (fun H locs hP hD hS => ?_)
  have hP : va_P (dC, dI) vwCl [(x, .inr (0, [.ref f0, .ref f1, .ref h, .ref hp, .ref hs])), (f0, .inr (1, [.ref a0, .int (nI 0)])), (a0, .inl (cI, 255, .inl (nf v0))), (f1, .inr (1, [.ref a1, .int (nI n1)])), (a1, .inl (cI, 255, .inl (nf v1))), (h, .inr (2, [.ref a])), (a, .inl (cI, 11, .inl (nf b))), (hp, .inr (3, [.ref ap])), (ap, .inl (cI, 32, .inl (nf pb))), (hs, .inr (4, [.ref as])), (as, .inl (cI, 1024, .inl (nf B)))] H := hP.sub [0, 9, 10, 1, 2, 3, 4, 5, 6, 7, 8] rfl
  have hD : va_D A [(x, .inr (0, [.ref f0, .ref f1, .ref h, .ref hp, .ref hs])), (f0, .inr (1, [.ref a0, .int (nI 0)])), (a0, .inl (cI, 255, .inl (nf v0))), (f1, .inr (1, [.ref a1, .int (nI n1)])), (a1, .inl (cI, 255, .inl (nf v1))), (h, .inr (2, [.ref a])), (a, .inl (cI, 11, .inl (nf b))), (hp, .inr (3, [.ref ap])), (ap, .inl (cI, 32, .inl (nf pb))), (hs, .inr (4, [.ref as])), (as, .inl (cI, 1024, .inl (nf B)))] := hD.sub [0, 9, 10, 1, 2, 3, 4, 5, 6, 7, 8] (by decide) rfl
  refine lv_iload_n hx hb d_LN_clear_21 rfl (lv_at hl 0 rfl) ?_
  exact hret _ _ _ _ d_LN_clear_22 hP hD hS

set_option maxHeartbeats 4000000 in
set_option maxRecDepth 100000 in
theorem c_LN_about00 (l : Launch) (dC : Nat → ClassId) (dI : Nat → Nat → Nat) (cI : ClassId) (x f0 a0 n0 : Nat) (v0 : Nat → Nat) (f1 a1 n1 : Nat) (v1 : Nat → Nat) (h a : Nat) (b : Nat → Nat) (hp ap : Nat) (pb : Nat → Nat) (hs as : Nat) (B : Nat → Nat) (hn0 : n0 ≤ 255) (hv0 : ∀ j, v0 j < 65536) (hn1 : n1 ≤ 255) (hv1 : ∀ j, v1 j < 65536) (hb9 : ∀ j, b j < 65536) (hpb : ∀ j, pb j < 65536) (hB : ∀ j, B j < 256)  : mR l y_LN_about w_LN_about ({ frames := 1, cells := 0, slots := 0, locals := 21 } : Room) [.ref x, .int (nI 0), .int (nI 0)] (dC, dI) vwCl [(cI, .int)] [(x, .inr (0, [.ref f0, .ref f1, .ref h, .ref hp, .ref hs])), (f0, .inr (1, [.ref a0, .int (nI n0)])), (a0, .inl (cI, 255, .inl (nf v0))), (f1, .inr (1, [.ref a1, .int (nI n1)])), (a1, .inl (cI, 255, .inl (nf v1))), (h, .inr (2, [.ref a])), (a, .inl (cI, 11, .inl (nf b))), (hp, .inr (3, [.ref ap])), (ap, .inl (cI, 32, .inl (nf pb))), (hs, .inr (4, [.ref as])), (as, .inl (cI, 1024, .inl (nf B)))] (some (.int (nI n0))) := by
  refine mk_Ri (cc := b_LN_about) (maxL := 4) (by decide) rfl (Nat.le_of_ble_eq_true rfl) rfl ?_
  intro p e s m below meth c Q A ls S hP hK hT hS hl hret
  obtain ⟨hx, hb, hml, hown, hts⟩ := id S
  have hl : lv_has ls 4 [(0, .ref x), (1, .int (nI 0)), (2, .int (nI 0))] := hl
  refine lv_aload_n hx hb d_LN_about_0 rfl (lv_at hl 0 rfl) ?_
  refine lv_iload_n hx hb d_LN_about_1 rfl (lv_at hl 1 rfl) ?_
  refine mk_r1 (W.runV (As := [.int (nI 0)]) (rest := []) S (c_LN_row0 l dC dI cI x f0 f1 h hp hs) (gV 1 hts k_111 k_113 k_0 k_24 k_114 (by decide +kernel) ⟨Nat.le_of_ble_eq_true rfl, Nat.le_of_ble_eq_true rfl⟩) (mk_vR hP hK hT hS [0] rfl (q0 := 0) (ci := 0) rfl rfl) rfl rfl hl.1 rfl (lv_room (Nat.le_of_ble_eq_true rfl)) d_LN_about_2 ⟨Nat.zero_le _, Nat.zero_le _⟩) ?_
  refine lv_astore_n (lv' := [(3, .ref f0), (0, .ref x), (1, .int (nI 0)), (2, .int (nI 0))]) hx hb d_LN_about_5 rfl hl (by decide) rfl (fun ls hl => ?_)
  refine lv_aload_n hx hb d_LN_about_6 rfl (lv_at hl 0 rfl) ?_
  refine lv_ifnonnull (tgt := 12) hx hb d_LN_about_7 (by decide) ?_
  refine lv_iload_n hx hb d_LN_about_12 rfl (lv_at hl 3 rfl) ?_
  refine lv_tableIn (tgt := 48) (off := 35) hx hb d_LN_about_13 (by decide) (by decide) (by rfl) (by decide) ?_
  refine lv_aload_n hx hb d_LN_about_48 rfl (lv_at hl 0 rfl) ?_
  refine mk_r1 (W.runV (As := []) (rest := []) S (c_Ro_size l dC dI cI f0 a0 n0 v0) (gV 0 hts k_124 k_125 k_126 k_25 k_127 (by decide +kernel) ⟨Nat.le_of_ble_eq_true rfl, Nat.le_of_ble_eq_true rfl⟩) (mk_vR hP hK hT hS [1, 2] rfl (q0 := 1) (ci := 1) rfl rfl) rfl rfl hl.1 rfl (lv_room (Nat.le_of_ble_eq_true rfl)) d_LN_about_49 ⟨Nat.zero_le _, Nat.zero_le _⟩) ?_
  exact hret _ _ d_LN_about_52

set_option maxHeartbeats 4000000 in
set_option maxRecDepth 100000 in
theorem c_LN_about01 (l : Launch) (dC : Nat → ClassId) (dI : Nat → Nat → Nat) (cI : ClassId) (x f0 a0 n0 : Nat) (v0 : Nat → Nat) (f1 a1 n1 : Nat) (v1 : Nat → Nat) (h a : Nat) (b : Nat → Nat) (hp ap : Nat) (pb : Nat → Nat) (hs as : Nat) (B : Nat → Nat) (hn0 : n0 ≤ 255) (hv0 : ∀ j, v0 j < 65536) (hn1 : n1 ≤ 255) (hv1 : ∀ j, v1 j < 65536) (hb9 : ∀ j, b j < 65536) (hpb : ∀ j, pb j < 65536) (hB : ∀ j, B j < 256)  : mR l y_LN_about w_LN_about ({ frames := 2, cells := 0, slots := 0, locals := 42 } : Room) [.ref x, .int (nI 0), .int (nI 1)] (dC, dI) vwCl [(cI, .int)] [(x, .inr (0, [.ref f0, .ref f1, .ref h, .ref hp, .ref hs])), (f0, .inr (1, [.ref a0, .int (nI n0)])), (a0, .inl (cI, 255, .inl (nf v0))), (f1, .inr (1, [.ref a1, .int (nI n1)])), (a1, .inl (cI, 255, .inl (nf v1))), (h, .inr (2, [.ref a])), (a, .inl (cI, 11, .inl (nf b))), (hp, .inr (3, [.ref ap])), (ap, .inl (cI, 32, .inl (nf pb))), (hs, .inr (4, [.ref as])), (as, .inl (cI, 1024, .inl (nf B)))] (some (.int (bI (nameN v0 n0)))) := by
  refine mk_Ri (cc := b_LN_about) (maxL := 4) (by decide) rfl (Nat.le_of_ble_eq_true rfl) rfl ?_
  intro p e s m below meth c Q A ls S hP hK hT hS hl hret
  obtain ⟨hx, hb, hml, hown, hts⟩ := id S
  have hl : lv_has ls 4 [(0, .ref x), (1, .int (nI 0)), (2, .int (nI 1))] := hl
  refine lv_aload_n hx hb d_LN_about_0 rfl (lv_at hl 0 rfl) ?_
  refine lv_iload_n hx hb d_LN_about_1 rfl (lv_at hl 1 rfl) ?_
  refine mk_r1 (W.runV (As := [.int (nI 0)]) (rest := []) S (c_LN_row0 l dC dI cI x f0 f1 h hp hs) (gV 1 hts k_111 k_113 k_0 k_24 k_114 (by decide +kernel) ⟨Nat.le_of_ble_eq_true rfl, Nat.le_of_ble_eq_true rfl⟩) (mk_vR hP hK hT hS [0] rfl (q0 := 0) (ci := 0) rfl rfl) rfl rfl hl.1 rfl (lv_room (Nat.le_of_ble_eq_true rfl)) d_LN_about_2 ⟨Nat.zero_le _, Nat.zero_le _⟩) ?_
  refine lv_astore_n (lv' := [(3, .ref f0), (0, .ref x), (1, .int (nI 0)), (2, .int (nI 1))]) hx hb d_LN_about_5 rfl hl (by decide) rfl (fun ls hl => ?_)
  refine lv_aload_n hx hb d_LN_about_6 rfl (lv_at hl 0 rfl) ?_
  refine lv_ifnonnull (tgt := 12) hx hb d_LN_about_7 (by decide) ?_
  refine lv_iload_n hx hb d_LN_about_12 rfl (lv_at hl 3 rfl) ?_
  refine lv_tableIn (tgt := 53) (off := 40) hx hb d_LN_about_13 (by decide) (by decide) (by rfl) (by decide) ?_
  refine lv_aload_n hx hb d_LN_about_53 rfl (lv_at hl 0 rfl) ?_
  refine mk_r1 (W.runV (As := []) (rest := []) S (c_Ro_name l dC dI cI f0 a0 n0 v0 (by first | assumption | omega) (by first | assumption | omega)) (gV 0 hts k_136 k_137 k_138 k_25 k_139 (by decide +kernel) ⟨Nat.le_of_ble_eq_true rfl, Nat.le_of_ble_eq_true rfl⟩) (mk_vR hP hK hT hS [1, 2] rfl (q0 := 1) (ci := 1) rfl rfl) rfl rfl hl.1 rfl (lv_room (Nat.le_of_ble_eq_true rfl)) d_LN_about_54 ⟨Nat.zero_le _, Nat.zero_le _⟩) ?_
  refine lv_if_eq (tgt := 64) hx hb d_LN_about_57 (by decide) (fun c_1 => ?_) (fun c_1 => ?_)
  · skip
    have c_1 := bI_0 c_1
    refine lv_iconst (v := nI 0) hx hb d_LN_about_64 (by decide) ?_
    exact mk_ti (by exact mk_bf (by assumption)) (hret _ _ d_LN_about_65)
  · skip
    have c_1 := bI_1 c_1
    refine lv_iconst (v := nI 1) hx hb d_LN_about_60 (by decide) ?_
    refine lv_goto (tgt := 65) hx hb d_LN_about_61 (by decide) ?_
    exact mk_ti (by exact mk_bt (by assumption)) (hret _ _ d_LN_about_65)

set_option maxHeartbeats 4000000 in
set_option maxRecDepth 100000 in
theorem c_LN_about02 (l : Launch) (dC : Nat → ClassId) (dI : Nat → Nat → Nat) (cI : ClassId) (x f0 a0 n0 : Nat) (v0 : Nat → Nat) (f1 a1 n1 : Nat) (v1 : Nat → Nat) (h a : Nat) (b : Nat → Nat) (hp ap : Nat) (pb : Nat → Nat) (hs as : Nat) (B : Nat → Nat) (hn0 : n0 ≤ 255) (hv0 : ∀ j, v0 j < 65536) (hn1 : n1 ≤ 255) (hv1 : ∀ j, v1 j < 65536) (hb9 : ∀ j, b j < 65536) (hpb : ∀ j, pb j < 65536) (hB : ∀ j, B j < 256)  : mR l y_LN_about w_LN_about ({ frames := 3, cells := 0, slots := 0, locals := 66 } : Room) [.ref x, .int (nI 0), .int (nI 2)] (dC, dI) vwCl [(cI, .int)] [(x, .inr (0, [.ref f0, .ref f1, .ref h, .ref hp, .ref hs])), (f0, .inr (1, [.ref a0, .int (nI n0)])), (a0, .inl (cI, 255, .inl (nf v0))), (f1, .inr (1, [.ref a1, .int (nI n1)])), (a1, .inl (cI, 255, .inl (nf v1))), (h, .inr (2, [.ref a])), (a, .inl (cI, 11, .inl (nf b))), (hp, .inr (3, [.ref ap])), (ap, .inl (cI, 32, .inl (nf pb))), (hs, .inr (4, [.ref as])), (as, .inl (cI, 1024, .inl (nf B)))] (some (.int (bI (shortN v0 n0)))) := by
  refine mk_Ri (cc := b_LN_about) (maxL := 4) (by decide) rfl (Nat.le_of_ble_eq_true rfl) rfl ?_
  intro p e s m below meth c Q A ls S hP hK hT hS hl hret
  obtain ⟨hx, hb, hml, hown, hts⟩ := id S
  have hl : lv_has ls 4 [(0, .ref x), (1, .int (nI 0)), (2, .int (nI 2))] := hl
  refine lv_aload_n hx hb d_LN_about_0 rfl (lv_at hl 0 rfl) ?_
  refine lv_iload_n hx hb d_LN_about_1 rfl (lv_at hl 1 rfl) ?_
  refine mk_r1 (W.runV (As := [.int (nI 0)]) (rest := []) S (c_LN_row0 l dC dI cI x f0 f1 h hp hs) (gV 1 hts k_111 k_113 k_0 k_24 k_114 (by decide +kernel) ⟨Nat.le_of_ble_eq_true rfl, Nat.le_of_ble_eq_true rfl⟩) (mk_vR hP hK hT hS [0] rfl (q0 := 0) (ci := 0) rfl rfl) rfl rfl hl.1 rfl (lv_room (Nat.le_of_ble_eq_true rfl)) d_LN_about_2 ⟨Nat.zero_le _, Nat.zero_le _⟩) ?_
  refine lv_astore_n (lv' := [(3, .ref f0), (0, .ref x), (1, .int (nI 0)), (2, .int (nI 2))]) hx hb d_LN_about_5 rfl hl (by decide) rfl (fun ls hl => ?_)
  refine lv_aload_n hx hb d_LN_about_6 rfl (lv_at hl 0 rfl) ?_
  refine lv_ifnonnull (tgt := 12) hx hb d_LN_about_7 (by decide) ?_
  refine lv_iload_n hx hb d_LN_about_12 rfl (lv_at hl 3 rfl) ?_
  refine lv_tableIn (tgt := 66) (off := 53) hx hb d_LN_about_13 (by decide) (by decide) (by rfl) (by decide) ?_
  refine lv_aload_n hx hb d_LN_about_66 rfl (lv_at hl 0 rfl) ?_
  refine mk_r1 (W.runV (As := []) (rest := []) S (c_Ro_short l dC dI cI f0 a0 n0 v0 (by first | assumption | omega) (by first | assumption | omega)) (gV 0 hts k_150 k_151 k_152 k_25 k_153 (by decide +kernel) ⟨Nat.le_of_ble_eq_true rfl, Nat.le_of_ble_eq_true rfl⟩) (mk_vR hP hK hT hS [1, 2] rfl (q0 := 1) (ci := 1) rfl rfl) rfl rfl hl.1 rfl (lv_room (Nat.le_of_ble_eq_true rfl)) d_LN_about_67 ⟨Nat.zero_le _, Nat.zero_le _⟩) ?_
  refine lv_if_eq (tgt := 77) hx hb d_LN_about_70 (by decide) (fun c_1 => ?_) (fun c_1 => ?_)
  · skip
    have c_1 := bI_0 c_1
    refine lv_iconst (v := nI 0) hx hb d_LN_about_77 (by decide) ?_
    exact mk_ti (by exact mk_bf (by assumption)) (hret _ _ d_LN_about_78)
  · skip
    have c_1 := bI_1 c_1
    refine lv_iconst (v := nI 1) hx hb d_LN_about_73 (by decide) ?_
    refine lv_goto (tgt := 78) hx hb d_LN_about_74 (by decide) ?_
    exact mk_ti (by exact mk_bt (by assumption)) (hret _ _ d_LN_about_78)

set_option maxHeartbeats 4000000 in
set_option maxRecDepth 100000 in
theorem c_LN_about03 (l : Launch) (dC : Nat → ClassId) (dI : Nat → Nat → Nat) (cI : ClassId) (x f0 a0 n0 : Nat) (v0 : Nat → Nat) (f1 a1 n1 : Nat) (v1 : Nat → Nat) (h a : Nat) (b : Nat → Nat) (hp ap : Nat) (pb : Nat → Nat) (hs as : Nat) (B : Nat → Nat) (hn0 : n0 ≤ 255) (hv0 : ∀ j, v0 j < 65536) (hn1 : n1 ≤ 255) (hv1 : ∀ j, v1 j < 65536) (hb9 : ∀ j, b j < 65536) (hpb : ∀ j, pb j < 65536) (hB : ∀ j, B j < 256)  : mR l y_LN_about w_LN_about ({ frames := 1, cells := 0, slots := 0, locals := 21 } : Room) [.ref x, .int (nI 0), .int (nI 3)] (dC, dI) vwCl [(cI, .int)] [(x, .inr (0, [.ref f0, .ref f1, .ref h, .ref hp, .ref hs])), (f0, .inr (1, [.ref a0, .int (nI n0)])), (a0, .inl (cI, 255, .inl (nf v0))), (f1, .inr (1, [.ref a1, .int (nI n1)])), (a1, .inl (cI, 255, .inl (nf v1))), (h, .inr (2, [.ref a])), (a, .inl (cI, 11, .inl (nf b))), (hp, .inr (3, [.ref ap])), (ap, .inl (cI, 32, .inl (nf pb))), (hs, .inr (4, [.ref as])), (as, .inl (cI, 1024, .inl (nf B)))] (some (.int (nI (pnN n0)))) := by
  refine mk_Ri (cc := b_LN_about) (maxL := 4) (by decide) rfl (Nat.le_of_ble_eq_true rfl) rfl ?_
  intro p e s m below meth c Q A ls S hP hK hT hS hl hret
  obtain ⟨hx, hb, hml, hown, hts⟩ := id S
  have hl : lv_has ls 4 [(0, .ref x), (1, .int (nI 0)), (2, .int (nI 3))] := hl
  refine lv_aload_n hx hb d_LN_about_0 rfl (lv_at hl 0 rfl) ?_
  refine lv_iload_n hx hb d_LN_about_1 rfl (lv_at hl 1 rfl) ?_
  refine mk_r1 (W.runV (As := [.int (nI 0)]) (rest := []) S (c_LN_row0 l dC dI cI x f0 f1 h hp hs) (gV 1 hts k_111 k_113 k_0 k_24 k_114 (by decide +kernel) ⟨Nat.le_of_ble_eq_true rfl, Nat.le_of_ble_eq_true rfl⟩) (mk_vR hP hK hT hS [0] rfl (q0 := 0) (ci := 0) rfl rfl) rfl rfl hl.1 rfl (lv_room (Nat.le_of_ble_eq_true rfl)) d_LN_about_2 ⟨Nat.zero_le _, Nat.zero_le _⟩) ?_
  refine lv_astore_n (lv' := [(3, .ref f0), (0, .ref x), (1, .int (nI 0)), (2, .int (nI 3))]) hx hb d_LN_about_5 rfl hl (by decide) rfl (fun ls hl => ?_)
  refine lv_aload_n hx hb d_LN_about_6 rfl (lv_at hl 0 rfl) ?_
  refine lv_ifnonnull (tgt := 12) hx hb d_LN_about_7 (by decide) ?_
  refine lv_iload_n hx hb d_LN_about_12 rfl (lv_at hl 3 rfl) ?_
  refine lv_tableIn (tgt := 79) (off := 66) hx hb d_LN_about_13 (by decide) (by decide) (by rfl) (by decide) ?_
  refine lv_aload_n hx hb d_LN_about_79 rfl (lv_at hl 0 rfl) ?_
  refine mk_r1 (W.runV (As := []) (rest := []) S (c_Ro_parts l dC dI cI f0 a0 n0 v0 (by first | assumption | omega)) (gV 0 hts k_161 k_162 k_163 k_25 k_164 (by decide +kernel) ⟨Nat.le_of_ble_eq_true rfl, Nat.le_of_ble_eq_true rfl⟩) (mk_vR hP hK hT hS [1, 2] rfl (q0 := 1) (ci := 1) rfl rfl) rfl rfl hl.1 rfl (lv_room (Nat.le_of_ble_eq_true rfl)) d_LN_about_80 ⟨Nat.zero_le _, Nat.zero_le _⟩) ?_
  have b_1 := pnN_le (show n0 ≤ 255 by omega)
  exact hret _ _ d_LN_about_83

set_option maxHeartbeats 4000000 in
set_option maxRecDepth 100000 in
theorem c_LN_about04 (l : Launch) (dC : Nat → ClassId) (dI : Nat → Nat → Nat) (cI : ClassId) (x f0 a0 n0 : Nat) (v0 : Nat → Nat) (f1 a1 n1 : Nat) (v1 : Nat → Nat) (h a : Nat) (b : Nat → Nat) (hp ap : Nat) (pb : Nat → Nat) (hs as : Nat) (B : Nat → Nat) (hn0 : n0 ≤ 255) (hv0 : ∀ j, v0 j < 65536) (hn1 : n1 ≤ 255) (hv1 : ∀ j, v1 j < 65536) (hb9 : ∀ j, b j < 65536) (hpb : ∀ j, pb j < 65536) (hB : ∀ j, B j < 256)  : mR l y_LN_about w_LN_about ({ frames := 2, cells := 0, slots := 0, locals := 43 } : Room) [.ref x, .int (nI 0), .int (nI 4)] (dC, dI) vwCl [(cI, .int)] [(x, .inr (0, [.ref f0, .ref f1, .ref h, .ref hp, .ref hs])), (f0, .inr (1, [.ref a0, .int (nI n0)])), (a0, .inl (cI, 255, .inl (nf v0))), (f1, .inr (1, [.ref a1, .int (nI n1)])), (a1, .inl (cI, 255, .inl (nf v1))), (h, .inr (2, [.ref a])), (a, .inl (cI, 11, .inl (nf b))), (hp, .inr (3, [.ref ap])), (ap, .inl (cI, 32, .inl (nf pb))), (hs, .inr (4, [.ref as])), (as, .inl (cI, 1024, .inl (nf B)))] (some (.int (nI (esN v0 n0)))) := by
  refine mk_Ri (cc := b_LN_about) (maxL := 4) (by decide) rfl (Nat.le_of_ble_eq_true rfl) rfl ?_
  intro p e s m below meth c Q A ls S hP hK hT hS hl hret
  obtain ⟨hx, hb, hml, hown, hts⟩ := id S
  have hl : lv_has ls 4 [(0, .ref x), (1, .int (nI 0)), (2, .int (nI 4))] := hl
  refine lv_aload_n hx hb d_LN_about_0 rfl (lv_at hl 0 rfl) ?_
  refine lv_iload_n hx hb d_LN_about_1 rfl (lv_at hl 1 rfl) ?_
  refine mk_r1 (W.runV (As := [.int (nI 0)]) (rest := []) S (c_LN_row0 l dC dI cI x f0 f1 h hp hs) (gV 1 hts k_111 k_113 k_0 k_24 k_114 (by decide +kernel) ⟨Nat.le_of_ble_eq_true rfl, Nat.le_of_ble_eq_true rfl⟩) (mk_vR hP hK hT hS [0] rfl (q0 := 0) (ci := 0) rfl rfl) rfl rfl hl.1 rfl (lv_room (Nat.le_of_ble_eq_true rfl)) d_LN_about_2 ⟨Nat.zero_le _, Nat.zero_le _⟩) ?_
  refine lv_astore_n (lv' := [(3, .ref f0), (0, .ref x), (1, .int (nI 0)), (2, .int (nI 4))]) hx hb d_LN_about_5 rfl hl (by decide) rfl (fun ls hl => ?_)
  refine lv_aload_n hx hb d_LN_about_6 rfl (lv_at hl 0 rfl) ?_
  refine lv_ifnonnull (tgt := 12) hx hb d_LN_about_7 (by decide) ?_
  refine lv_iload_n hx hb d_LN_about_12 rfl (lv_at hl 3 rfl) ?_
  refine lv_tableIn (tgt := 84) (off := 71) hx hb d_LN_about_13 (by decide) (by decide) (by rfl) (by decide) ?_
  refine lv_aload_n hx hb d_LN_about_84 rfl (lv_at hl 0 rfl) ?_
  refine mk_r1 (W.runV (As := []) (rest := []) S (c_Ro_es l dC dI cI f0 a0 n0 v0 (by first | assumption | omega) (by first | assumption | omega)) (gV 0 hts k_165 k_166 k_167 k_25 k_168 (by decide +kernel) ⟨Nat.le_of_ble_eq_true rfl, Nat.le_of_ble_eq_true rfl⟩) (mk_vR hP hK hT hS [1, 2] rfl (q0 := 1) (ci := 1) rfl rfl) rfl rfl hl.1 rfl (lv_room (Nat.le_of_ble_eq_true rfl)) d_LN_about_85 ⟨Nat.zero_le _, Nat.zero_le _⟩) ?_
  exact hret _ _ d_LN_about_88

set_option maxHeartbeats 4000000 in
set_option maxRecDepth 100000 in
theorem c_LN_about0x (l : Launch) (dC : Nat → ClassId) (dI : Nat → Nat → Nat) (cI : ClassId) (x f0 a0 n0 : Nat) (v0 : Nat → Nat) (f1 a1 n1 : Nat) (v1 : Nat → Nat) (h a : Nat) (b : Nat → Nat) (hp ap : Nat) (pb : Nat → Nat) (hs as : Nat) (B : Nat → Nat) (w : Int32) (hn0 : n0 ≤ 255) (hv0 : ∀ j, v0 j < 65536) (hn1 : n1 ≤ 255) (hv1 : ∀ j, v1 j < 65536) (hb9 : ∀ j, b j < 65536) (hpb : ∀ j, pb j < 65536) (hB : ∀ j, B j < 256) (hw : w < 0 ∨ nI 4 < w) : mR l y_LN_about w_LN_about ({ frames := 1, cells := 0, slots := 0, locals := 21 } : Room) [.ref x, .int (nI 0), .int w] (dC, dI) vwCl [(cI, .int)] [(x, .inr (0, [.ref f0, .ref f1, .ref h, .ref hp, .ref hs])), (f0, .inr (1, [.ref a0, .int (nI n0)])), (a0, .inl (cI, 255, .inl (nf v0))), (f1, .inr (1, [.ref a1, .int (nI n1)])), (a1, .inl (cI, 255, .inl (nf v1))), (h, .inr (2, [.ref a])), (a, .inl (cI, 11, .inl (nf b))), (hp, .inr (3, [.ref ap])), (ap, .inl (cI, 32, .inl (nf pb))), (hs, .inr (4, [.ref as])), (as, .inl (cI, 1024, .inl (nf B)))] (some (.int (-1))) := by
  refine mk_Ri (cc := b_LN_about) (maxL := 4) (by decide) rfl (Nat.le_of_ble_eq_true rfl) rfl ?_
  intro p e s m below meth c Q A ls S hP hK hT hS hl hret
  obtain ⟨hx, hb, hml, hown, hts⟩ := id S
  have hl : lv_has ls 4 [(0, .ref x), (1, .int (nI 0)), (2, .int w)] := hl
  refine lv_aload_n hx hb d_LN_about_0 rfl (lv_at hl 0 rfl) ?_
  refine lv_iload_n hx hb d_LN_about_1 rfl (lv_at hl 1 rfl) ?_
  refine mk_r1 (W.runV (As := [.int (nI 0)]) (rest := []) S (c_LN_row0 l dC dI cI x f0 f1 h hp hs) (gV 1 hts k_111 k_113 k_0 k_24 k_114 (by decide +kernel) ⟨Nat.le_of_ble_eq_true rfl, Nat.le_of_ble_eq_true rfl⟩) (mk_vR hP hK hT hS [0] rfl (q0 := 0) (ci := 0) rfl rfl) rfl rfl hl.1 rfl (lv_room (Nat.le_of_ble_eq_true rfl)) d_LN_about_2 ⟨Nat.zero_le _, Nat.zero_le _⟩) ?_
  refine lv_astore_n (lv' := [(3, .ref f0), (0, .ref x), (1, .int (nI 0)), (2, .int w)]) hx hb d_LN_about_5 rfl hl (by decide) rfl (fun ls hl => ?_)
  refine lv_aload_n hx hb d_LN_about_6 rfl (lv_at hl 0 rfl) ?_
  refine lv_ifnonnull (tgt := 12) hx hb d_LN_about_7 (by decide) ?_
  refine lv_iload_n hx hb d_LN_about_12 rfl (lv_at hl 3 rfl) ?_
  refine lv_tableOut (tgt := 89) hx hb d_LN_about_13 (mk_tout hw (by decide)) (by decide) ?_
  refine lv_iconst (v := (-1)) hx hb d_LN_about_89 (by decide) ?_
  exact hret _ _ d_LN_about_90

set_option maxHeartbeats 4000000 in
set_option maxRecDepth 100000 in
theorem c_LN_letter0 (l : Launch) (dC : Nat → ClassId) (dI : Nat → Nat → Nat) (cI : ClassId) (x f0 a0 n0 : Nat) (v0 : Nat → Nat) (f1 a1 n1 : Nat) (v1 : Nat → Nat) (h a : Nat) (b : Nat → Nat) (hp ap : Nat) (pb : Nat → Nat) (hs as : Nat) (B : Nat → Nat) (t : Nat) (hn0 : n0 ≤ 255) (hv0 : ∀ j, v0 j < 65536) (hn1 : n1 ≤ 255) (hv1 : ∀ j, v1 j < 65536) (hb9 : ∀ j, b j < 65536) (hpb : ∀ j, pb j < 65536) (hB : ∀ j, B j < 256) (ht : t < 2 ^ 31) : mR l y_LN_letter w_LN_letter ({ frames := 3, cells := 0, slots := 0, locals := 67 } : Room) [.ref x, .int (nI 0), .int (nI t)] (dC, dI) vwCl [(cI, .int)] [(x, .inr (0, [.ref f0, .ref f1, .ref h, .ref hp, .ref hs])), (f0, .inr (1, [.ref a0, .int (nI n0)])), (a0, .inl (cI, 255, .inl (nf v0))), (f1, .inr (1, [.ref a1, .int (nI n1)])), (a1, .inl (cI, 255, .inl (nf v1))), (h, .inr (2, [.ref a])), (a, .inl (cI, 11, .inl (nf b))), (hp, .inr (3, [.ref ap])), (ap, .inl (cI, 32, .inl (nf pb))), (hs, .inr (4, [.ref as])), (as, .inl (cI, 1024, .inl (nf B)))] (some (.int (ebL v0 n0 0 t))) := by
  refine mk_Ri (cc := b_LN_letter) (maxL := 4) (by decide) rfl (Nat.le_of_ble_eq_true rfl) rfl ?_
  intro p e s m below meth c Q A ls S hP hK hT hS hl hret
  obtain ⟨hx, hb, hml, hown, hts⟩ := id S
  have hl : lv_has ls 4 [(0, .ref x), (1, .int (nI 0)), (2, .int (nI t))] := hl
  refine lv_aload_n hx hb d_LN_letter_0 rfl (lv_at hl 0 rfl) ?_
  refine lv_iload_n hx hb d_LN_letter_1 rfl (lv_at hl 1 rfl) ?_
  refine mk_r1 (W.runV (As := [.int (nI 0)]) (rest := []) S (c_LN_row0 l dC dI cI x f0 f1 h hp hs) (gV 1 hts k_111 k_113 k_0 k_24 k_114 (by decide +kernel) ⟨Nat.le_of_ble_eq_true rfl, Nat.le_of_ble_eq_true rfl⟩) (mk_vR hP hK hT hS [0] rfl (q0 := 0) (ci := 0) rfl rfl) rfl rfl hl.1 rfl (lv_room (Nat.le_of_ble_eq_true rfl)) d_LN_letter_2 ⟨Nat.zero_le _, Nat.zero_le _⟩) ?_
  refine lv_astore_n (lv' := [(3, .ref f0), (0, .ref x), (1, .int (nI 0)), (2, .int (nI t))]) hx hb d_LN_letter_5 rfl hl (by decide) rfl (fun ls hl => ?_)
  refine lv_aload_n hx hb d_LN_letter_6 rfl (lv_at hl 0 rfl) ?_
  refine lv_ifnonnull (tgt := 14) hx hb d_LN_letter_7 (by decide) ?_
  refine lv_aload_n hx hb d_LN_letter_14 rfl (lv_at hl 0 rfl) ?_
  refine lv_iload_n hx hb d_LN_letter_15 rfl (lv_at hl 3 rfl) ?_
  refine mk_r1 (W.runV (As := [.int (nI t)]) (rest := []) S (c_Ro_ebN l dC dI cI f0 a0 n0 v0 t (by first | assumption | omega) (by first | assumption | omega) (by first | assumption | omega)) (gV 1 hts k_176 k_177 k_178 k_25 k_179 (by decide +kernel) ⟨Nat.le_of_ble_eq_true rfl, Nat.le_of_ble_eq_true rfl⟩) (mk_vR hP hK hT hS [1, 2] rfl (q0 := 1) (ci := 1) rfl rfl) rfl rfl hl.1 rfl (lv_room (Nat.le_of_ble_eq_true rfl)) d_LN_letter_16 ⟨Nat.zero_le _, Nat.zero_le _⟩) ?_
  exact hret _ _ d_LN_letter_19

set_option maxHeartbeats 4000000 in
set_option maxRecDepth 100000 in
theorem c_LN_letter0x (l : Launch) (dC : Nat → ClassId) (dI : Nat → Nat → Nat) (cI : ClassId) (x f0 a0 n0 : Nat) (v0 : Nat → Nat) (f1 a1 n1 : Nat) (v1 : Nat → Nat) (h a : Nat) (b : Nat → Nat) (hp ap : Nat) (pb : Nat → Nat) (hs as : Nat) (B : Nat → Nat) (t : Int32) (hn0 : n0 ≤ 255) (hv0 : ∀ j, v0 j < 65536) (hn1 : n1 ≤ 255) (hv1 : ∀ j, v1 j < 65536) (hb9 : ∀ j, b j < 65536) (hpb : ∀ j, pb j < 65536) (hB : ∀ j, B j < 256) (ht : t < 0) : mR l y_LN_letter w_LN_letter ({ frames := 1, cells := 0, slots := 0, locals := 24 } : Room) [.ref x, .int (nI 0), .int t] (dC, dI) vwCl [(cI, .int)] [(x, .inr (0, [.ref f0, .ref f1, .ref h, .ref hp, .ref hs])), (f0, .inr (1, [.ref a0, .int (nI n0)])), (a0, .inl (cI, 255, .inl (nf v0))), (f1, .inr (1, [.ref a1, .int (nI n1)])), (a1, .inl (cI, 255, .inl (nf v1))), (h, .inr (2, [.ref a])), (a, .inl (cI, 11, .inl (nf b))), (hp, .inr (3, [.ref ap])), (ap, .inl (cI, 32, .inl (nf pb))), (hs, .inr (4, [.ref as])), (as, .inl (cI, 1024, .inl (nf B)))] (some (.int (-1))) := by
  refine mk_Ri (cc := b_LN_letter) (maxL := 4) (by decide) rfl (Nat.le_of_ble_eq_true rfl) rfl ?_
  intro p e s m below meth c Q A ls S hP hK hT hS hl hret
  obtain ⟨hx, hb, hml, hown, hts⟩ := id S
  have hl : lv_has ls 4 [(0, .ref x), (1, .int (nI 0)), (2, .int t)] := hl
  refine lv_aload_n hx hb d_LN_letter_0 rfl (lv_at hl 0 rfl) ?_
  refine lv_iload_n hx hb d_LN_letter_1 rfl (lv_at hl 1 rfl) ?_
  refine mk_r1 (W.runV (As := [.int (nI 0)]) (rest := []) S (c_LN_row0 l dC dI cI x f0 f1 h hp hs) (gV 1 hts k_111 k_113 k_0 k_24 k_114 (by decide +kernel) ⟨Nat.le_of_ble_eq_true rfl, Nat.le_of_ble_eq_true rfl⟩) (mk_vR hP hK hT hS [0] rfl (q0 := 0) (ci := 0) rfl rfl) rfl rfl hl.1 rfl (lv_room (Nat.le_of_ble_eq_true rfl)) d_LN_letter_2 ⟨Nat.zero_le _, Nat.zero_le _⟩) ?_
  refine lv_astore_n (lv' := [(3, .ref f0), (0, .ref x), (1, .int (nI 0)), (2, .int t)]) hx hb d_LN_letter_5 rfl hl (by decide) rfl (fun ls hl => ?_)
  refine lv_aload_n hx hb d_LN_letter_6 rfl (lv_at hl 0 rfl) ?_
  refine lv_ifnonnull (tgt := 14) hx hb d_LN_letter_7 (by decide) ?_
  refine lv_aload_n hx hb d_LN_letter_14 rfl (lv_at hl 0 rfl) ?_
  refine lv_iload_n hx hb d_LN_letter_15 rfl (lv_at hl 3 rfl) ?_
  refine mk_r1 (W.runV (As := [.int t]) (rest := []) S (c_Ro_ebX l dC dI cI f0 a0 n0 v0 t (by first | assumption | omega)) (gV 1 hts k_176 k_177 k_178 k_25 k_179 (by decide +kernel) ⟨Nat.le_of_ble_eq_true rfl, Nat.le_of_ble_eq_true rfl⟩) (mk_vR hP hK hT hS [1, 2] rfl (q0 := 1) (ci := 1) rfl rfl) rfl rfl hl.1 rfl (lv_room (Nat.le_of_ble_eq_true rfl)) d_LN_letter_16 ⟨Nat.zero_le _, Nat.zero_le _⟩) ?_
  exact hret _ _ d_LN_letter_19

set_option maxHeartbeats 4000000 in
set_option maxRecDepth 100000 in
theorem c_LN_unit1 (l : Launch) (dC : Nat → ClassId) (dI : Nat → Nat → Nat) (cI : ClassId) (x f0 a0 n0 : Nat) (v0 : Nat → Nat) (f1 a1 n1 : Nat) (v1 : Nat → Nat) (h a : Nat) (b : Nat → Nat) (hp ap : Nat) (pb : Nat → Nat) (hs as : Nat) (B : Nat → Nat) (u : Nat) (hn0 : n0 ≤ 255) (hv0 : ∀ j, v0 j < 65536) (hn1 : n1 ≤ 255) (hv1 : ∀ j, v1 j < 65536) (hb9 : ∀ j, b j < 65536) (hpb : ∀ j, pb j < 65536) (hB : ∀ j, B j < 256) (hu : u < 65536) (hf : n1 < 255) : mM l y_LN_unit w_LN_unit ({ frames := 1, cells := 0, slots := 0, locals := 21 } : Room) [.ref x, .int (nI 1), .int (nI u)] (dC, dI) vwCl [(cI, .int)] [(x, .inr (0, [.ref f0, .ref f1, .ref h, .ref hp, .ref hs])), (f0, .inr (1, [.ref a0, .int (nI n0)])), (a0, .inl (cI, 255, .inl (nf v0))), (f1, .inr (1, [.ref a1, .int (nI n1)])), (a1, .inl (cI, 255, .inl (nf v1))), (h, .inr (2, [.ref a])), (a, .inl (cI, 11, .inl (nf b))), (hp, .inr (3, [.ref ap])), (ap, .inl (cI, 32, .inl (nf pb))), (hs, .inr (4, [.ref as])), (as, .inl (cI, 1024, .inl (nf B)))] (some (.int (nI 1))) [(x, .inr (0, [.ref f0, .ref f1, .ref h, .ref hp, .ref hs])), (f0, .inr (1, [.ref a0, .int (nI n0)])), (a0, .inl (cI, 255, .inl (nf v0))), (f1, .inr (1, [.ref a1, .int (nI (n1 + 1))])), (a1, .inl (cI, 255, .inl (nf (uN v1 n1 u)))), (h, .inr (2, [.ref a])), (a, .inl (cI, 11, .inl (nf b))), (hp, .inr (3, [.ref ap])), (ap, .inl (cI, 32, .inl (nf pb))), (hs, .inr (4, [.ref as])), (as, .inl (cI, 1024, .inl (nf B)))] := by
  refine mk_Mi (cc := b_LN_unit) (maxL := 4) (by decide) rfl (Nat.le_of_ble_eq_true rfl) (rfl) ?_
  intro p e s m below meth c Q A ls S hP hK hT hS hl hD hA hret
  obtain ⟨hx, hb, hml, hown, hts⟩ := id S
  have hl : lv_has ls 4 [(0, .ref x), (1, .int (nI 1)), (2, .int (nI u))] := hl
  refine lv_aload_n hx hb d_LN_unit_0 rfl (lv_at hl 0 rfl) ?_
  refine lv_iload_n hx hb d_LN_unit_1 rfl (lv_at hl 1 rfl) ?_
  refine mk_r1 (W.runV (As := [.int (nI 1)]) (rest := []) S (c_LN_row1 l dC dI cI x f0 f1 h hp hs) (gV 1 hts k_111 k_113 k_0 k_24 k_114 (by decide +kernel) ⟨Nat.le_of_ble_eq_true rfl, Nat.le_of_ble_eq_true rfl⟩) (mk_vR hP hK hT hS [0] rfl (q0 := 0) (ci := 0) rfl rfl) rfl rfl hl.1 rfl (lv_room (Nat.le_of_ble_eq_true rfl)) d_LN_unit_2 ⟨Nat.zero_le _, Nat.zero_le _⟩) ?_
  refine lv_astore_n (lv' := [(3, .ref f1), (0, .ref x), (1, .int (nI 1)), (2, .int (nI u))]) hx hb d_LN_unit_5 rfl hl (by decide) rfl (fun ls hl => ?_)
  refine lv_aload_n hx hb d_LN_unit_6 rfl (lv_at hl 0 rfl) ?_
  refine lv_ifnull hx hb d_LN_unit_7 ?_
  refine lv_iload_n hx hb d_LN_unit_10 rfl (lv_at hl 3 rfl) ?_
  refine lv_if_lt (tgt := 20) hx hb d_LN_unit_11 (by decide) (fun c_1 => ?_) (fun c_1 => ?_)
  · skip
    rw [mk_clt (by omega)] at c_1
    first | omega | contradiction
  · skip
    rw [mk_clt (by omega)] at c_1
    refine lv_iload_n hx hb d_LN_unit_14 rfl (lv_at hl 3 rfl) ?_
    refine lv_ldc (v := nI 65535) hx hb hown (hts _ (List.mem_cons_of_mem _ k_115)) d_LN_unit_15 ?_
    refine lv_icmp_le (tgt := 22) hx hb d_LN_unit_17 (by decide) (fun c_2 => ?_) (fun c_2 => ?_)
    · skip
      rw [nI_leI (by omega) (by omega)] at c_2
      refine lv_aload_n hx hb d_LN_unit_22 rfl (lv_at hl 0 rfl) ?_
      refine lv_iload_n hx hb d_LN_unit_23 rfl (lv_at hl 3 rfl) ?_
      refine mk_w1 (wr := [(x, .inr (0, [.ref f0, .ref f1, .ref h, .ref hp, .ref hs])), (f0, .inr (1, [.ref a0, .int (nI n0)])), (a0, .inl (cI, 255, .inl (nf v0))), (h, .inr (2, [.ref a])), (a, .inl (cI, 11, .inl (nf b))), (hp, .inr (3, [.ref ap])), (ap, .inl (cI, 32, .inl (nf pb))), (hs, .inr (4, [.ref as])), (as, .inl (cI, 1024, .inl (nf B)))]) (W.runV (As := [.int (nI u)]) (rest := []) S ((c_Ro_app l dC dI cI f1 a1 n1 v1 u (by first | assumption | omega)) _) (gV 1 hts k_116 k_117 k_118 k_25 k_119 (by decide +kernel) ⟨Nat.le_of_ble_eq_true rfl, Nat.le_of_ble_eq_true rfl⟩) (mk_vM hP hD hK hT hS hA [3, 4] rfl rfl (by decide) (q0 := 3) (ci := 1) rfl rfl) rfl rfl hl.1 rfl (lv_room (Nat.le_of_ble_eq_true rfl)) d_LN_unit_24 ⟨Nat.zero_le _, Nat.zero_le _⟩) hP hD hS hA [3, 4] [0, 1, 2, 5, 6, 7, 8, 9, 10] rfl rfl (by decide) (by decide) (fun H locs hP hD hS => ?_)
      have hP : va_P (dC, dI) vwCl [(x, .inr (0, [.ref f0, .ref f1, .ref h, .ref hp, .ref hs])), (f0, .inr (1, [.ref a0, .int (nI n0)])), (a0, .inl (cI, 255, .inl (nf v0))), (f1, .inr (1, [.ref a1, .int (nI (n1 + 1))])), (a1, .inl (cI, 255, .inl (nf (uN v1 n1 u)))), (h, .inr (2, [.ref a])), (a, .inl (cI, 11, .inl (nf b))), (hp, .inr (3, [.ref ap])), (ap, .inl (cI, 32, .inl (nf pb))), (hs, .inr (4, [.ref as])), (as, .inl (cI, 1024, .inl (nf B)))] H := hP.sub [0, 1, 2, 9, 10, 3, 4, 5, 6, 7, 8] rfl
      have hD : va_D A [(x, .inr (0, [.ref f0, .ref f1, .ref h, .ref hp, .ref hs])), (f0, .inr (1, [.ref a0, .int (nI n0)])), (a0, .inl (cI, 255, .inl (nf v0))), (f1, .inr (1, [.ref a1, .int (nI (n1 + 1))])), (a1, .inl (cI, 255, .inl (nf (uN v1 n1 u)))), (h, .inr (2, [.ref a])), (a, .inl (cI, 11, .inl (nf b))), (hp, .inr (3, [.ref ap])), (ap, .inl (cI, 32, .inl (nf pb))), (hs, .inr (4, [.ref as])), (as, .inl (cI, 1024, .inl (nf B)))] := hD.sub [0, 1, 2, 9, 10, 3, 4, 5, 6, 7, 8] (by decide) rfl
      exact hret _ _ _ _ d_LN_unit_27 hP hD hS
    · skip
      rw [nI_leI (by omega) (by omega)] at c_2
      first | omega | contradiction

set_option maxHeartbeats 4000000 in
set_option maxRecDepth 100000 in
theorem c_LN_unit1f (l : Launch) (dC : Nat → ClassId) (dI : Nat → Nat → Nat) (cI : ClassId) (x f0 a0 n0 : Nat) (v0 : Nat → Nat) (f1 a1 n1 : Nat) (v1 : Nat → Nat) (h a : Nat) (b : Nat → Nat) (hp ap : Nat) (pb : Nat → Nat) (hs as : Nat) (B : Nat → Nat) (u : Nat) (hn0 : n0 ≤ 255) (hv0 : ∀ j, v0 j < 65536) (hn1 : n1 ≤ 255) (hv1 : ∀ j, v1 j < 65536) (hb9 : ∀ j, b j < 65536) (hpb : ∀ j, pb j < 65536) (hB : ∀ j, B j < 256) (hu : u < 65536) (hf : n1 = 255) : mM l y_LN_unit w_LN_unit ({ frames := 1, cells := 0, slots := 0, locals := 21 } : Room) [.ref x, .int (nI 1), .int (nI u)] (dC, dI) vwCl [(cI, .int)] [(x, .inr (0, [.ref f0, .ref f1, .ref h, .ref hp, .ref hs])), (f0, .inr (1, [.ref a0, .int (nI n0)])), (a0, .inl (cI, 255, .inl (nf v0))), (f1, .inr (1, [.ref a1, .int (nI n1)])), (a1, .inl (cI, 255, .inl (nf v1))), (h, .inr (2, [.ref a])), (a, .inl (cI, 11, .inl (nf b))), (hp, .inr (3, [.ref ap])), (ap, .inl (cI, 32, .inl (nf pb))), (hs, .inr (4, [.ref as])), (as, .inl (cI, 1024, .inl (nf B)))] (some (.int (nI 0))) [(x, .inr (0, [.ref f0, .ref f1, .ref h, .ref hp, .ref hs])), (f0, .inr (1, [.ref a0, .int (nI n0)])), (a0, .inl (cI, 255, .inl (nf v0))), (f1, .inr (1, [.ref a1, .int (nI n1)])), (a1, .inl (cI, 255, .inl (nf v1))), (h, .inr (2, [.ref a])), (a, .inl (cI, 11, .inl (nf b))), (hp, .inr (3, [.ref ap])), (ap, .inl (cI, 32, .inl (nf pb))), (hs, .inr (4, [.ref as])), (as, .inl (cI, 1024, .inl (nf B)))] := by
  refine mk_Mi (cc := b_LN_unit) (maxL := 4) (by decide) rfl (Nat.le_of_ble_eq_true rfl) (rfl) ?_
  intro p e s m below meth c Q A ls S hP hK hT hS hl hD hA hret
  obtain ⟨hx, hb, hml, hown, hts⟩ := id S
  have hl : lv_has ls 4 [(0, .ref x), (1, .int (nI 1)), (2, .int (nI u))] := hl
  refine lv_aload_n hx hb d_LN_unit_0 rfl (lv_at hl 0 rfl) ?_
  refine lv_iload_n hx hb d_LN_unit_1 rfl (lv_at hl 1 rfl) ?_
  refine mk_r1 (W.runV (As := [.int (nI 1)]) (rest := []) S (c_LN_row1 l dC dI cI x f0 f1 h hp hs) (gV 1 hts k_111 k_113 k_0 k_24 k_114 (by decide +kernel) ⟨Nat.le_of_ble_eq_true rfl, Nat.le_of_ble_eq_true rfl⟩) (mk_vR hP hK hT hS [0] rfl (q0 := 0) (ci := 0) rfl rfl) rfl rfl hl.1 rfl (lv_room (Nat.le_of_ble_eq_true rfl)) d_LN_unit_2 ⟨Nat.zero_le _, Nat.zero_le _⟩) ?_
  refine lv_astore_n (lv' := [(3, .ref f1), (0, .ref x), (1, .int (nI 1)), (2, .int (nI u))]) hx hb d_LN_unit_5 rfl hl (by decide) rfl (fun ls hl => ?_)
  refine lv_aload_n hx hb d_LN_unit_6 rfl (lv_at hl 0 rfl) ?_
  refine lv_ifnull hx hb d_LN_unit_7 ?_
  refine lv_iload_n hx hb d_LN_unit_10 rfl (lv_at hl 3 rfl) ?_
  refine lv_if_lt (tgt := 20) hx hb d_LN_unit_11 (by decide) (fun c_1 => ?_) (fun c_1 => ?_)
  · skip
    rw [mk_clt (by omega)] at c_1
    first | omega | contradiction
  · skip
    rw [mk_clt (by omega)] at c_1
    refine lv_iload_n hx hb d_LN_unit_14 rfl (lv_at hl 3 rfl) ?_
    refine lv_ldc (v := nI 65535) hx hb hown (hts _ (List.mem_cons_of_mem _ k_115)) d_LN_unit_15 ?_
    refine lv_icmp_le (tgt := 22) hx hb d_LN_unit_17 (by decide) (fun c_2 => ?_) (fun c_2 => ?_)
    · skip
      rw [nI_leI (by omega) (by omega)] at c_2
      refine lv_aload_n hx hb d_LN_unit_22 rfl (lv_at hl 0 rfl) ?_
      refine lv_iload_n hx hb d_LN_unit_23 rfl (lv_at hl 3 rfl) ?_
      refine mk_w1 (wr := [(x, .inr (0, [.ref f0, .ref f1, .ref h, .ref hp, .ref hs])), (f0, .inr (1, [.ref a0, .int (nI n0)])), (a0, .inl (cI, 255, .inl (nf v0))), (h, .inr (2, [.ref a])), (a, .inl (cI, 11, .inl (nf b))), (hp, .inr (3, [.ref ap])), (ap, .inl (cI, 32, .inl (nf pb))), (hs, .inr (4, [.ref as])), (as, .inl (cI, 1024, .inl (nf B)))]) (W.runV (As := [.int (nI u)]) (rest := []) S ((c_Ro_full l dC dI cI f1 a1 n1 v1 (nI u) (by first | assumption | omega)) _) (gV 1 hts k_116 k_117 k_118 k_25 k_119 (by decide +kernel) ⟨Nat.le_of_ble_eq_true rfl, Nat.le_of_ble_eq_true rfl⟩) (mk_vM hP hD hK hT hS hA [3, 4] rfl rfl (by decide) (q0 := 3) (ci := 1) rfl rfl) rfl rfl hl.1 rfl (lv_room (Nat.le_of_ble_eq_true rfl)) d_LN_unit_24 ⟨Nat.zero_le _, Nat.zero_le _⟩) hP hD hS hA [3, 4] [0, 1, 2, 5, 6, 7, 8, 9, 10] rfl rfl (by decide) (by decide) (fun H locs hP hD hS => ?_)
      have hP : va_P (dC, dI) vwCl [(x, .inr (0, [.ref f0, .ref f1, .ref h, .ref hp, .ref hs])), (f0, .inr (1, [.ref a0, .int (nI n0)])), (a0, .inl (cI, 255, .inl (nf v0))), (f1, .inr (1, [.ref a1, .int (nI n1)])), (a1, .inl (cI, 255, .inl (nf v1))), (h, .inr (2, [.ref a])), (a, .inl (cI, 11, .inl (nf b))), (hp, .inr (3, [.ref ap])), (ap, .inl (cI, 32, .inl (nf pb))), (hs, .inr (4, [.ref as])), (as, .inl (cI, 1024, .inl (nf B)))] H := hP.sub [0, 1, 2, 9, 10, 3, 4, 5, 6, 7, 8] rfl
      have hD : va_D A [(x, .inr (0, [.ref f0, .ref f1, .ref h, .ref hp, .ref hs])), (f0, .inr (1, [.ref a0, .int (nI n0)])), (a0, .inl (cI, 255, .inl (nf v0))), (f1, .inr (1, [.ref a1, .int (nI n1)])), (a1, .inl (cI, 255, .inl (nf v1))), (h, .inr (2, [.ref a])), (a, .inl (cI, 11, .inl (nf b))), (hp, .inr (3, [.ref ap])), (ap, .inl (cI, 32, .inl (nf pb))), (hs, .inr (4, [.ref as])), (as, .inl (cI, 1024, .inl (nf B)))] := hD.sub [0, 1, 2, 9, 10, 3, 4, 5, 6, 7, 8] (by decide) rfl
      exact hret _ _ _ _ d_LN_unit_27 hP hD hS
    · skip
      rw [nI_leI (by omega) (by omega)] at c_2
      first | omega | contradiction

set_option maxHeartbeats 4000000 in
set_option maxRecDepth 100000 in
theorem c_LN_unit1b (l : Launch) (dC : Nat → ClassId) (dI : Nat → Nat → Nat) (cI : ClassId) (x f0 a0 n0 : Nat) (v0 : Nat → Nat) (f1 a1 n1 : Nat) (v1 : Nat → Nat) (h a : Nat) (b : Nat → Nat) (hp ap : Nat) (pb : Nat → Nat) (hs as : Nat) (B : Nat → Nat) (u : Int32) (hn0 : n0 ≤ 255) (hv0 : ∀ j, v0 j < 65536) (hn1 : n1 ≤ 255) (hv1 : ∀ j, v1 j < 65536) (hb9 : ∀ j, b j < 65536) (hpb : ∀ j, pb j < 65536) (hB : ∀ j, B j < 256) (hu : u < 0 ∨ ¬ u ≤ nI 65535) : mM l y_LN_unit w_LN_unit ({ frames := 1, cells := 0, slots := 0, locals := 21 } : Room) [.ref x, .int (nI 1), .int u] (dC, dI) vwCl [(cI, .int)] [(x, .inr (0, [.ref f0, .ref f1, .ref h, .ref hp, .ref hs])), (f0, .inr (1, [.ref a0, .int (nI n0)])), (a0, .inl (cI, 255, .inl (nf v0))), (f1, .inr (1, [.ref a1, .int (nI n1)])), (a1, .inl (cI, 255, .inl (nf v1))), (h, .inr (2, [.ref a])), (a, .inl (cI, 11, .inl (nf b))), (hp, .inr (3, [.ref ap])), (ap, .inl (cI, 32, .inl (nf pb))), (hs, .inr (4, [.ref as])), (as, .inl (cI, 1024, .inl (nf B)))] (some (.int (nI 0))) [(x, .inr (0, [.ref f0, .ref f1, .ref h, .ref hp, .ref hs])), (f0, .inr (1, [.ref a0, .int (nI n0)])), (a0, .inl (cI, 255, .inl (nf v0))), (f1, .inr (1, [.ref a1, .int (nI n1)])), (a1, .inl (cI, 255, .inl (nf v1))), (h, .inr (2, [.ref a])), (a, .inl (cI, 11, .inl (nf b))), (hp, .inr (3, [.ref ap])), (ap, .inl (cI, 32, .inl (nf pb))), (hs, .inr (4, [.ref as])), (as, .inl (cI, 1024, .inl (nf B)))] := by
  refine mk_Mi (cc := b_LN_unit) (maxL := 4) (by decide) rfl (Nat.le_of_ble_eq_true rfl) (rfl) ?_
  intro p e s m below meth c Q A ls S hP hK hT hS hl hD hA hret
  obtain ⟨hx, hb, hml, hown, hts⟩ := id S
  have hl : lv_has ls 4 [(0, .ref x), (1, .int (nI 1)), (2, .int u)] := hl
  refine lv_aload_n hx hb d_LN_unit_0 rfl (lv_at hl 0 rfl) ?_
  refine lv_iload_n hx hb d_LN_unit_1 rfl (lv_at hl 1 rfl) ?_
  refine mk_r1 (W.runV (As := [.int (nI 1)]) (rest := []) S (c_LN_row1 l dC dI cI x f0 f1 h hp hs) (gV 1 hts k_111 k_113 k_0 k_24 k_114 (by decide +kernel) ⟨Nat.le_of_ble_eq_true rfl, Nat.le_of_ble_eq_true rfl⟩) (mk_vR hP hK hT hS [0] rfl (q0 := 0) (ci := 0) rfl rfl) rfl rfl hl.1 rfl (lv_room (Nat.le_of_ble_eq_true rfl)) d_LN_unit_2 ⟨Nat.zero_le _, Nat.zero_le _⟩) ?_
  refine lv_astore_n (lv' := [(3, .ref f1), (0, .ref x), (1, .int (nI 1)), (2, .int u)]) hx hb d_LN_unit_5 rfl hl (by decide) rfl (fun ls hl => ?_)
  refine lv_aload_n hx hb d_LN_unit_6 rfl (lv_at hl 0 rfl) ?_
  refine lv_ifnull hx hb d_LN_unit_7 ?_
  refine lv_iload_n hx hb d_LN_unit_10 rfl (lv_at hl 3 rfl) ?_
  refine lv_if_lt (tgt := 20) hx hb d_LN_unit_11 (by decide) (fun c_1 => ?_) (fun c_1 => ?_)
  · skip
    refine lv_iconst (v := nI 0) hx hb d_LN_unit_20 (by decide) ?_
    exact hret _ _ _ _ d_LN_unit_21 hP hD hS
  · skip
    refine lv_iload_n hx hb d_LN_unit_14 rfl (lv_at hl 3 rfl) ?_
    refine lv_ldc (v := nI 65535) hx hb hown (hts _ (List.mem_cons_of_mem _ k_115)) d_LN_unit_15 ?_
    refine lv_icmp_le (tgt := 22) hx hb d_LN_unit_17 (by decide) (fun c_2 => ?_) (fun c_2 => ?_)
    · skip
      rcases hu with h9 | h9 <;> contradiction
    · skip
      refine lv_iconst (v := nI 0) hx hb d_LN_unit_20 (by decide) ?_
      exact hret _ _ _ _ d_LN_unit_21 hP hD hS

set_option maxHeartbeats 4000000 in
set_option maxRecDepth 100000 in
theorem c_LN_clear1 (l : Launch) (dC : Nat → ClassId) (dI : Nat → Nat → Nat) (cI : ClassId) (x f0 a0 n0 : Nat) (v0 : Nat → Nat) (f1 a1 n1 : Nat) (v1 : Nat → Nat) (h a : Nat) (b : Nat → Nat) (hp ap : Nat) (pb : Nat → Nat) (hs as : Nat) (B : Nat → Nat) (hn0 : n0 ≤ 255) (hv0 : ∀ j, v0 j < 65536) (hn1 : n1 ≤ 255) (hv1 : ∀ j, v1 j < 65536) (hb9 : ∀ j, b j < 65536) (hpb : ∀ j, pb j < 65536) (hB : ∀ j, B j < 256)  : mM l y_LN_clear w_LN_clear ({ frames := 1, cells := 0, slots := 0, locals := 21 } : Room) [.ref x, .int (nI 1)] (dC, dI) vwCl [(cI, .int)] [(x, .inr (0, [.ref f0, .ref f1, .ref h, .ref hp, .ref hs])), (f0, .inr (1, [.ref a0, .int (nI n0)])), (a0, .inl (cI, 255, .inl (nf v0))), (f1, .inr (1, [.ref a1, .int (nI n1)])), (a1, .inl (cI, 255, .inl (nf v1))), (h, .inr (2, [.ref a])), (a, .inl (cI, 11, .inl (nf b))), (hp, .inr (3, [.ref ap])), (ap, .inl (cI, 32, .inl (nf pb))), (hs, .inr (4, [.ref as])), (as, .inl (cI, 1024, .inl (nf B)))] (some (.int (nI n1))) [(x, .inr (0, [.ref f0, .ref f1, .ref h, .ref hp, .ref hs])), (f0, .inr (1, [.ref a0, .int (nI n0)])), (a0, .inl (cI, 255, .inl (nf v0))), (f1, .inr (1, [.ref a1, .int (nI 0)])), (a1, .inl (cI, 255, .inl (nf v1))), (h, .inr (2, [.ref a])), (a, .inl (cI, 11, .inl (nf b))), (hp, .inr (3, [.ref ap])), (ap, .inl (cI, 32, .inl (nf pb))), (hs, .inr (4, [.ref as])), (as, .inl (cI, 1024, .inl (nf B)))] := by
  refine mk_Mi (cc := b_LN_clear) (maxL := 4) (by decide) rfl (Nat.le_of_ble_eq_true rfl) rfl ?_
  intro p e s m below meth c Q A ls S hP hK hT hS hl hD hA hret
  obtain ⟨hx, hb, hml, hown, hts⟩ := id S
  have hl : lv_has ls 4 [(0, .ref x), (1, .int (nI 1))] := hl
  refine lv_aload_n hx hb d_LN_clear_0 rfl (lv_at hl 0 rfl) ?_
  refine lv_iload_n hx hb d_LN_clear_1 rfl (lv_at hl 1 rfl) ?_
  refine mk_r1 (W.runV (As := [.int (nI 1)]) (rest := []) S (c_LN_row1 l dC dI cI x f0 f1 h hp hs) (gV 1 hts k_111 k_113 k_0 k_24 k_114 (by decide +kernel) ⟨Nat.le_of_ble_eq_true rfl, Nat.le_of_ble_eq_true rfl⟩) (mk_vR hP hK hT hS [0] rfl (q0 := 0) (ci := 0) rfl rfl) rfl rfl hl.1 rfl (lv_room (Nat.le_of_ble_eq_true rfl)) d_LN_clear_2 ⟨Nat.zero_le _, Nat.zero_le _⟩) ?_
  refine lv_astore_n (lv' := [(2, .ref f1), (0, .ref x), (1, .int (nI 1))]) hx hb d_LN_clear_5 rfl hl (by decide) rfl (fun ls hl => ?_)
  refine lv_aload_n hx hb d_LN_clear_6 rfl (lv_at hl 0 rfl) ?_
  refine lv_ifnonnull (tgt := 12) hx hb d_LN_clear_7 (by decide) ?_
  refine lv_aload_n hx hb d_LN_clear_12 rfl (lv_at hl 0 rfl) ?_
  refine mk_r1 (W.runV (As := []) (rest := []) S (c_Ro_size l dC dI cI f1 a1 n1 v1) (gV 0 hts k_124 k_125 k_126 k_25 k_127 (by decide +kernel) ⟨Nat.le_of_ble_eq_true rfl, Nat.le_of_ble_eq_true rfl⟩) (mk_vR hP hK hT hS [3, 4] rfl (q0 := 3) (ci := 1) rfl rfl) rfl rfl hl.1 rfl (lv_room (Nat.le_of_ble_eq_true rfl)) d_LN_clear_13 ⟨Nat.zero_le _, Nat.zero_le _⟩) ?_
  refine lv_istore_n (lv' := [(3, .int (nI n1)), (2, .ref f1), (0, .ref x), (1, .int (nI 1))]) hx hb d_LN_clear_16 rfl hl (by decide) rfl (fun ls hl => ?_)
  refine lv_aload_n hx hb d_LN_clear_17 rfl (lv_at hl 1 rfl) ?_
  refine mk_w0 (wr := [(x, .inr (0, [.ref f0, .ref f1, .ref h, .ref hp, .ref hs])), (f0, .inr (1, [.ref a0, .int (nI n0)])), (a0, .inl (cI, 255, .inl (nf v0))), (h, .inr (2, [.ref a])), (a, .inl (cI, 11, .inl (nf b))), (hp, .inr (3, [.ref ap])), (ap, .inl (cI, 32, .inl (nf pb))), (hs, .inr (4, [.ref as])), (as, .inl (cI, 1024, .inl (nf B)))]) (W.runV (As := []) (rest := []) S ((c_Ro_empty l dC dI cI f1 a1 n1 v1) _) (gV 0 hts k_128 k_129 k_130 k_25 k_131 (by decide +kernel) ⟨Nat.le_of_ble_eq_true rfl, Nat.le_of_ble_eq_true rfl⟩) (mk_vM hP hD hK hT hS hA [3, 4] rfl rfl (by decide) (q0 := 3) (ci := 1) rfl rfl) rfl rfl hl.1 rfl (lv_room (Nat.le_of_ble_eq_true rfl)) d_LN_clear_18 ⟨Nat.zero_le _, Nat.zero_le _⟩) hP hD hS hA [3, 4] [0, 1, 2, 5, 6, 7, 8, 9, 10] rfl rfl (by decide) (by decide) (fun H locs hP hD hS => ?_)
  have hP : va_P (dC, dI) vwCl [(x, .inr (0, [.ref f0, .ref f1, .ref h, .ref hp, .ref hs])), (f0, .inr (1, [.ref a0, .int (nI n0)])), (a0, .inl (cI, 255, .inl (nf v0))), (f1, .inr (1, [.ref a1, .int (nI 0)])), (a1, .inl (cI, 255, .inl (nf v1))), (h, .inr (2, [.ref a])), (a, .inl (cI, 11, .inl (nf b))), (hp, .inr (3, [.ref ap])), (ap, .inl (cI, 32, .inl (nf pb))), (hs, .inr (4, [.ref as])), (as, .inl (cI, 1024, .inl (nf B)))] H := hP.sub [0, 1, 2, 9, 10, 3, 4, 5, 6, 7, 8] rfl
  have hD : va_D A [(x, .inr (0, [.ref f0, .ref f1, .ref h, .ref hp, .ref hs])), (f0, .inr (1, [.ref a0, .int (nI n0)])), (a0, .inl (cI, 255, .inl (nf v0))), (f1, .inr (1, [.ref a1, .int (nI 0)])), (a1, .inl (cI, 255, .inl (nf v1))), (h, .inr (2, [.ref a])), (a, .inl (cI, 11, .inl (nf b))), (hp, .inr (3, [.ref ap])), (ap, .inl (cI, 32, .inl (nf pb))), (hs, .inr (4, [.ref as])), (as, .inl (cI, 1024, .inl (nf B)))] := hD.sub [0, 1, 2, 9, 10, 3, 4, 5, 6, 7, 8] (by decide) rfl
  refine lv_iload_n hx hb d_LN_clear_21 rfl (lv_at hl 0 rfl) ?_
  exact hret _ _ _ _ d_LN_clear_22 hP hD hS

set_option maxHeartbeats 4000000 in
set_option maxRecDepth 100000 in
theorem c_LN_about10 (l : Launch) (dC : Nat → ClassId) (dI : Nat → Nat → Nat) (cI : ClassId) (x f0 a0 n0 : Nat) (v0 : Nat → Nat) (f1 a1 n1 : Nat) (v1 : Nat → Nat) (h a : Nat) (b : Nat → Nat) (hp ap : Nat) (pb : Nat → Nat) (hs as : Nat) (B : Nat → Nat) (hn0 : n0 ≤ 255) (hv0 : ∀ j, v0 j < 65536) (hn1 : n1 ≤ 255) (hv1 : ∀ j, v1 j < 65536) (hb9 : ∀ j, b j < 65536) (hpb : ∀ j, pb j < 65536) (hB : ∀ j, B j < 256)  : mR l y_LN_about w_LN_about ({ frames := 1, cells := 0, slots := 0, locals := 21 } : Room) [.ref x, .int (nI 1), .int (nI 0)] (dC, dI) vwCl [(cI, .int)] [(x, .inr (0, [.ref f0, .ref f1, .ref h, .ref hp, .ref hs])), (f0, .inr (1, [.ref a0, .int (nI n0)])), (a0, .inl (cI, 255, .inl (nf v0))), (f1, .inr (1, [.ref a1, .int (nI n1)])), (a1, .inl (cI, 255, .inl (nf v1))), (h, .inr (2, [.ref a])), (a, .inl (cI, 11, .inl (nf b))), (hp, .inr (3, [.ref ap])), (ap, .inl (cI, 32, .inl (nf pb))), (hs, .inr (4, [.ref as])), (as, .inl (cI, 1024, .inl (nf B)))] (some (.int (nI n1))) := by
  refine mk_Ri (cc := b_LN_about) (maxL := 4) (by decide) rfl (Nat.le_of_ble_eq_true rfl) rfl ?_
  intro p e s m below meth c Q A ls S hP hK hT hS hl hret
  obtain ⟨hx, hb, hml, hown, hts⟩ := id S
  have hl : lv_has ls 4 [(0, .ref x), (1, .int (nI 1)), (2, .int (nI 0))] := hl
  refine lv_aload_n hx hb d_LN_about_0 rfl (lv_at hl 0 rfl) ?_
  refine lv_iload_n hx hb d_LN_about_1 rfl (lv_at hl 1 rfl) ?_
  refine mk_r1 (W.runV (As := [.int (nI 1)]) (rest := []) S (c_LN_row1 l dC dI cI x f0 f1 h hp hs) (gV 1 hts k_111 k_113 k_0 k_24 k_114 (by decide +kernel) ⟨Nat.le_of_ble_eq_true rfl, Nat.le_of_ble_eq_true rfl⟩) (mk_vR hP hK hT hS [0] rfl (q0 := 0) (ci := 0) rfl rfl) rfl rfl hl.1 rfl (lv_room (Nat.le_of_ble_eq_true rfl)) d_LN_about_2 ⟨Nat.zero_le _, Nat.zero_le _⟩) ?_
  refine lv_astore_n (lv' := [(3, .ref f1), (0, .ref x), (1, .int (nI 1)), (2, .int (nI 0))]) hx hb d_LN_about_5 rfl hl (by decide) rfl (fun ls hl => ?_)
  refine lv_aload_n hx hb d_LN_about_6 rfl (lv_at hl 0 rfl) ?_
  refine lv_ifnonnull (tgt := 12) hx hb d_LN_about_7 (by decide) ?_
  refine lv_iload_n hx hb d_LN_about_12 rfl (lv_at hl 3 rfl) ?_
  refine lv_tableIn (tgt := 48) (off := 35) hx hb d_LN_about_13 (by decide) (by decide) (by rfl) (by decide) ?_
  refine lv_aload_n hx hb d_LN_about_48 rfl (lv_at hl 0 rfl) ?_
  refine mk_r1 (W.runV (As := []) (rest := []) S (c_Ro_size l dC dI cI f1 a1 n1 v1) (gV 0 hts k_124 k_125 k_126 k_25 k_127 (by decide +kernel) ⟨Nat.le_of_ble_eq_true rfl, Nat.le_of_ble_eq_true rfl⟩) (mk_vR hP hK hT hS [3, 4] rfl (q0 := 3) (ci := 1) rfl rfl) rfl rfl hl.1 rfl (lv_room (Nat.le_of_ble_eq_true rfl)) d_LN_about_49 ⟨Nat.zero_le _, Nat.zero_le _⟩) ?_
  exact hret _ _ d_LN_about_52

set_option maxHeartbeats 4000000 in
set_option maxRecDepth 100000 in
theorem c_LN_about11 (l : Launch) (dC : Nat → ClassId) (dI : Nat → Nat → Nat) (cI : ClassId) (x f0 a0 n0 : Nat) (v0 : Nat → Nat) (f1 a1 n1 : Nat) (v1 : Nat → Nat) (h a : Nat) (b : Nat → Nat) (hp ap : Nat) (pb : Nat → Nat) (hs as : Nat) (B : Nat → Nat) (hn0 : n0 ≤ 255) (hv0 : ∀ j, v0 j < 65536) (hn1 : n1 ≤ 255) (hv1 : ∀ j, v1 j < 65536) (hb9 : ∀ j, b j < 65536) (hpb : ∀ j, pb j < 65536) (hB : ∀ j, B j < 256)  : mR l y_LN_about w_LN_about ({ frames := 2, cells := 0, slots := 0, locals := 42 } : Room) [.ref x, .int (nI 1), .int (nI 1)] (dC, dI) vwCl [(cI, .int)] [(x, .inr (0, [.ref f0, .ref f1, .ref h, .ref hp, .ref hs])), (f0, .inr (1, [.ref a0, .int (nI n0)])), (a0, .inl (cI, 255, .inl (nf v0))), (f1, .inr (1, [.ref a1, .int (nI n1)])), (a1, .inl (cI, 255, .inl (nf v1))), (h, .inr (2, [.ref a])), (a, .inl (cI, 11, .inl (nf b))), (hp, .inr (3, [.ref ap])), (ap, .inl (cI, 32, .inl (nf pb))), (hs, .inr (4, [.ref as])), (as, .inl (cI, 1024, .inl (nf B)))] (some (.int (bI (nameN v1 n1)))) := by
  refine mk_Ri (cc := b_LN_about) (maxL := 4) (by decide) rfl (Nat.le_of_ble_eq_true rfl) rfl ?_
  intro p e s m below meth c Q A ls S hP hK hT hS hl hret
  obtain ⟨hx, hb, hml, hown, hts⟩ := id S
  have hl : lv_has ls 4 [(0, .ref x), (1, .int (nI 1)), (2, .int (nI 1))] := hl
  refine lv_aload_n hx hb d_LN_about_0 rfl (lv_at hl 0 rfl) ?_
  refine lv_iload_n hx hb d_LN_about_1 rfl (lv_at hl 1 rfl) ?_
  refine mk_r1 (W.runV (As := [.int (nI 1)]) (rest := []) S (c_LN_row1 l dC dI cI x f0 f1 h hp hs) (gV 1 hts k_111 k_113 k_0 k_24 k_114 (by decide +kernel) ⟨Nat.le_of_ble_eq_true rfl, Nat.le_of_ble_eq_true rfl⟩) (mk_vR hP hK hT hS [0] rfl (q0 := 0) (ci := 0) rfl rfl) rfl rfl hl.1 rfl (lv_room (Nat.le_of_ble_eq_true rfl)) d_LN_about_2 ⟨Nat.zero_le _, Nat.zero_le _⟩) ?_
  refine lv_astore_n (lv' := [(3, .ref f1), (0, .ref x), (1, .int (nI 1)), (2, .int (nI 1))]) hx hb d_LN_about_5 rfl hl (by decide) rfl (fun ls hl => ?_)
  refine lv_aload_n hx hb d_LN_about_6 rfl (lv_at hl 0 rfl) ?_
  refine lv_ifnonnull (tgt := 12) hx hb d_LN_about_7 (by decide) ?_
  refine lv_iload_n hx hb d_LN_about_12 rfl (lv_at hl 3 rfl) ?_
  refine lv_tableIn (tgt := 53) (off := 40) hx hb d_LN_about_13 (by decide) (by decide) (by rfl) (by decide) ?_
  refine lv_aload_n hx hb d_LN_about_53 rfl (lv_at hl 0 rfl) ?_
  refine mk_r1 (W.runV (As := []) (rest := []) S (c_Ro_name l dC dI cI f1 a1 n1 v1 (by first | assumption | omega) (by first | assumption | omega)) (gV 0 hts k_136 k_137 k_138 k_25 k_139 (by decide +kernel) ⟨Nat.le_of_ble_eq_true rfl, Nat.le_of_ble_eq_true rfl⟩) (mk_vR hP hK hT hS [3, 4] rfl (q0 := 3) (ci := 1) rfl rfl) rfl rfl hl.1 rfl (lv_room (Nat.le_of_ble_eq_true rfl)) d_LN_about_54 ⟨Nat.zero_le _, Nat.zero_le _⟩) ?_
  refine lv_if_eq (tgt := 64) hx hb d_LN_about_57 (by decide) (fun c_1 => ?_) (fun c_1 => ?_)
  · skip
    have c_1 := bI_0 c_1
    refine lv_iconst (v := nI 0) hx hb d_LN_about_64 (by decide) ?_
    exact mk_ti (by exact mk_bf (by assumption)) (hret _ _ d_LN_about_65)
  · skip
    have c_1 := bI_1 c_1
    refine lv_iconst (v := nI 1) hx hb d_LN_about_60 (by decide) ?_
    refine lv_goto (tgt := 65) hx hb d_LN_about_61 (by decide) ?_
    exact mk_ti (by exact mk_bt (by assumption)) (hret _ _ d_LN_about_65)

set_option maxHeartbeats 4000000 in
set_option maxRecDepth 100000 in
theorem c_LN_about12 (l : Launch) (dC : Nat → ClassId) (dI : Nat → Nat → Nat) (cI : ClassId) (x f0 a0 n0 : Nat) (v0 : Nat → Nat) (f1 a1 n1 : Nat) (v1 : Nat → Nat) (h a : Nat) (b : Nat → Nat) (hp ap : Nat) (pb : Nat → Nat) (hs as : Nat) (B : Nat → Nat) (hn0 : n0 ≤ 255) (hv0 : ∀ j, v0 j < 65536) (hn1 : n1 ≤ 255) (hv1 : ∀ j, v1 j < 65536) (hb9 : ∀ j, b j < 65536) (hpb : ∀ j, pb j < 65536) (hB : ∀ j, B j < 256)  : mR l y_LN_about w_LN_about ({ frames := 3, cells := 0, slots := 0, locals := 66 } : Room) [.ref x, .int (nI 1), .int (nI 2)] (dC, dI) vwCl [(cI, .int)] [(x, .inr (0, [.ref f0, .ref f1, .ref h, .ref hp, .ref hs])), (f0, .inr (1, [.ref a0, .int (nI n0)])), (a0, .inl (cI, 255, .inl (nf v0))), (f1, .inr (1, [.ref a1, .int (nI n1)])), (a1, .inl (cI, 255, .inl (nf v1))), (h, .inr (2, [.ref a])), (a, .inl (cI, 11, .inl (nf b))), (hp, .inr (3, [.ref ap])), (ap, .inl (cI, 32, .inl (nf pb))), (hs, .inr (4, [.ref as])), (as, .inl (cI, 1024, .inl (nf B)))] (some (.int (bI (shortN v1 n1)))) := by
  refine mk_Ri (cc := b_LN_about) (maxL := 4) (by decide) rfl (Nat.le_of_ble_eq_true rfl) rfl ?_
  intro p e s m below meth c Q A ls S hP hK hT hS hl hret
  obtain ⟨hx, hb, hml, hown, hts⟩ := id S
  have hl : lv_has ls 4 [(0, .ref x), (1, .int (nI 1)), (2, .int (nI 2))] := hl
  refine lv_aload_n hx hb d_LN_about_0 rfl (lv_at hl 0 rfl) ?_
  refine lv_iload_n hx hb d_LN_about_1 rfl (lv_at hl 1 rfl) ?_
  refine mk_r1 (W.runV (As := [.int (nI 1)]) (rest := []) S (c_LN_row1 l dC dI cI x f0 f1 h hp hs) (gV 1 hts k_111 k_113 k_0 k_24 k_114 (by decide +kernel) ⟨Nat.le_of_ble_eq_true rfl, Nat.le_of_ble_eq_true rfl⟩) (mk_vR hP hK hT hS [0] rfl (q0 := 0) (ci := 0) rfl rfl) rfl rfl hl.1 rfl (lv_room (Nat.le_of_ble_eq_true rfl)) d_LN_about_2 ⟨Nat.zero_le _, Nat.zero_le _⟩) ?_
  refine lv_astore_n (lv' := [(3, .ref f1), (0, .ref x), (1, .int (nI 1)), (2, .int (nI 2))]) hx hb d_LN_about_5 rfl hl (by decide) rfl (fun ls hl => ?_)
  refine lv_aload_n hx hb d_LN_about_6 rfl (lv_at hl 0 rfl) ?_
  refine lv_ifnonnull (tgt := 12) hx hb d_LN_about_7 (by decide) ?_
  refine lv_iload_n hx hb d_LN_about_12 rfl (lv_at hl 3 rfl) ?_
  refine lv_tableIn (tgt := 66) (off := 53) hx hb d_LN_about_13 (by decide) (by decide) (by rfl) (by decide) ?_
  refine lv_aload_n hx hb d_LN_about_66 rfl (lv_at hl 0 rfl) ?_
  refine mk_r1 (W.runV (As := []) (rest := []) S (c_Ro_short l dC dI cI f1 a1 n1 v1 (by first | assumption | omega) (by first | assumption | omega)) (gV 0 hts k_150 k_151 k_152 k_25 k_153 (by decide +kernel) ⟨Nat.le_of_ble_eq_true rfl, Nat.le_of_ble_eq_true rfl⟩) (mk_vR hP hK hT hS [3, 4] rfl (q0 := 3) (ci := 1) rfl rfl) rfl rfl hl.1 rfl (lv_room (Nat.le_of_ble_eq_true rfl)) d_LN_about_67 ⟨Nat.zero_le _, Nat.zero_le _⟩) ?_
  refine lv_if_eq (tgt := 77) hx hb d_LN_about_70 (by decide) (fun c_1 => ?_) (fun c_1 => ?_)
  · skip
    have c_1 := bI_0 c_1
    refine lv_iconst (v := nI 0) hx hb d_LN_about_77 (by decide) ?_
    exact mk_ti (by exact mk_bf (by assumption)) (hret _ _ d_LN_about_78)
  · skip
    have c_1 := bI_1 c_1
    refine lv_iconst (v := nI 1) hx hb d_LN_about_73 (by decide) ?_
    refine lv_goto (tgt := 78) hx hb d_LN_about_74 (by decide) ?_
    exact mk_ti (by exact mk_bt (by assumption)) (hret _ _ d_LN_about_78)

set_option maxHeartbeats 4000000 in
set_option maxRecDepth 100000 in
theorem c_LN_about13 (l : Launch) (dC : Nat → ClassId) (dI : Nat → Nat → Nat) (cI : ClassId) (x f0 a0 n0 : Nat) (v0 : Nat → Nat) (f1 a1 n1 : Nat) (v1 : Nat → Nat) (h a : Nat) (b : Nat → Nat) (hp ap : Nat) (pb : Nat → Nat) (hs as : Nat) (B : Nat → Nat) (hn0 : n0 ≤ 255) (hv0 : ∀ j, v0 j < 65536) (hn1 : n1 ≤ 255) (hv1 : ∀ j, v1 j < 65536) (hb9 : ∀ j, b j < 65536) (hpb : ∀ j, pb j < 65536) (hB : ∀ j, B j < 256)  : mR l y_LN_about w_LN_about ({ frames := 1, cells := 0, slots := 0, locals := 21 } : Room) [.ref x, .int (nI 1), .int (nI 3)] (dC, dI) vwCl [(cI, .int)] [(x, .inr (0, [.ref f0, .ref f1, .ref h, .ref hp, .ref hs])), (f0, .inr (1, [.ref a0, .int (nI n0)])), (a0, .inl (cI, 255, .inl (nf v0))), (f1, .inr (1, [.ref a1, .int (nI n1)])), (a1, .inl (cI, 255, .inl (nf v1))), (h, .inr (2, [.ref a])), (a, .inl (cI, 11, .inl (nf b))), (hp, .inr (3, [.ref ap])), (ap, .inl (cI, 32, .inl (nf pb))), (hs, .inr (4, [.ref as])), (as, .inl (cI, 1024, .inl (nf B)))] (some (.int (nI (pnN n1)))) := by
  refine mk_Ri (cc := b_LN_about) (maxL := 4) (by decide) rfl (Nat.le_of_ble_eq_true rfl) rfl ?_
  intro p e s m below meth c Q A ls S hP hK hT hS hl hret
  obtain ⟨hx, hb, hml, hown, hts⟩ := id S
  have hl : lv_has ls 4 [(0, .ref x), (1, .int (nI 1)), (2, .int (nI 3))] := hl
  refine lv_aload_n hx hb d_LN_about_0 rfl (lv_at hl 0 rfl) ?_
  refine lv_iload_n hx hb d_LN_about_1 rfl (lv_at hl 1 rfl) ?_
  refine mk_r1 (W.runV (As := [.int (nI 1)]) (rest := []) S (c_LN_row1 l dC dI cI x f0 f1 h hp hs) (gV 1 hts k_111 k_113 k_0 k_24 k_114 (by decide +kernel) ⟨Nat.le_of_ble_eq_true rfl, Nat.le_of_ble_eq_true rfl⟩) (mk_vR hP hK hT hS [0] rfl (q0 := 0) (ci := 0) rfl rfl) rfl rfl hl.1 rfl (lv_room (Nat.le_of_ble_eq_true rfl)) d_LN_about_2 ⟨Nat.zero_le _, Nat.zero_le _⟩) ?_
  refine lv_astore_n (lv' := [(3, .ref f1), (0, .ref x), (1, .int (nI 1)), (2, .int (nI 3))]) hx hb d_LN_about_5 rfl hl (by decide) rfl (fun ls hl => ?_)
  refine lv_aload_n hx hb d_LN_about_6 rfl (lv_at hl 0 rfl) ?_
  refine lv_ifnonnull (tgt := 12) hx hb d_LN_about_7 (by decide) ?_
  refine lv_iload_n hx hb d_LN_about_12 rfl (lv_at hl 3 rfl) ?_
  refine lv_tableIn (tgt := 79) (off := 66) hx hb d_LN_about_13 (by decide) (by decide) (by rfl) (by decide) ?_
  refine lv_aload_n hx hb d_LN_about_79 rfl (lv_at hl 0 rfl) ?_
  refine mk_r1 (W.runV (As := []) (rest := []) S (c_Ro_parts l dC dI cI f1 a1 n1 v1 (by first | assumption | omega)) (gV 0 hts k_161 k_162 k_163 k_25 k_164 (by decide +kernel) ⟨Nat.le_of_ble_eq_true rfl, Nat.le_of_ble_eq_true rfl⟩) (mk_vR hP hK hT hS [3, 4] rfl (q0 := 3) (ci := 1) rfl rfl) rfl rfl hl.1 rfl (lv_room (Nat.le_of_ble_eq_true rfl)) d_LN_about_80 ⟨Nat.zero_le _, Nat.zero_le _⟩) ?_
  have b_1 := pnN_le (show n1 ≤ 255 by omega)
  exact hret _ _ d_LN_about_83

set_option maxHeartbeats 4000000 in
set_option maxRecDepth 100000 in
theorem c_LN_about14 (l : Launch) (dC : Nat → ClassId) (dI : Nat → Nat → Nat) (cI : ClassId) (x f0 a0 n0 : Nat) (v0 : Nat → Nat) (f1 a1 n1 : Nat) (v1 : Nat → Nat) (h a : Nat) (b : Nat → Nat) (hp ap : Nat) (pb : Nat → Nat) (hs as : Nat) (B : Nat → Nat) (hn0 : n0 ≤ 255) (hv0 : ∀ j, v0 j < 65536) (hn1 : n1 ≤ 255) (hv1 : ∀ j, v1 j < 65536) (hb9 : ∀ j, b j < 65536) (hpb : ∀ j, pb j < 65536) (hB : ∀ j, B j < 256)  : mR l y_LN_about w_LN_about ({ frames := 2, cells := 0, slots := 0, locals := 43 } : Room) [.ref x, .int (nI 1), .int (nI 4)] (dC, dI) vwCl [(cI, .int)] [(x, .inr (0, [.ref f0, .ref f1, .ref h, .ref hp, .ref hs])), (f0, .inr (1, [.ref a0, .int (nI n0)])), (a0, .inl (cI, 255, .inl (nf v0))), (f1, .inr (1, [.ref a1, .int (nI n1)])), (a1, .inl (cI, 255, .inl (nf v1))), (h, .inr (2, [.ref a])), (a, .inl (cI, 11, .inl (nf b))), (hp, .inr (3, [.ref ap])), (ap, .inl (cI, 32, .inl (nf pb))), (hs, .inr (4, [.ref as])), (as, .inl (cI, 1024, .inl (nf B)))] (some (.int (nI (esN v1 n1)))) := by
  refine mk_Ri (cc := b_LN_about) (maxL := 4) (by decide) rfl (Nat.le_of_ble_eq_true rfl) rfl ?_
  intro p e s m below meth c Q A ls S hP hK hT hS hl hret
  obtain ⟨hx, hb, hml, hown, hts⟩ := id S
  have hl : lv_has ls 4 [(0, .ref x), (1, .int (nI 1)), (2, .int (nI 4))] := hl
  refine lv_aload_n hx hb d_LN_about_0 rfl (lv_at hl 0 rfl) ?_
  refine lv_iload_n hx hb d_LN_about_1 rfl (lv_at hl 1 rfl) ?_
  refine mk_r1 (W.runV (As := [.int (nI 1)]) (rest := []) S (c_LN_row1 l dC dI cI x f0 f1 h hp hs) (gV 1 hts k_111 k_113 k_0 k_24 k_114 (by decide +kernel) ⟨Nat.le_of_ble_eq_true rfl, Nat.le_of_ble_eq_true rfl⟩) (mk_vR hP hK hT hS [0] rfl (q0 := 0) (ci := 0) rfl rfl) rfl rfl hl.1 rfl (lv_room (Nat.le_of_ble_eq_true rfl)) d_LN_about_2 ⟨Nat.zero_le _, Nat.zero_le _⟩) ?_
  refine lv_astore_n (lv' := [(3, .ref f1), (0, .ref x), (1, .int (nI 1)), (2, .int (nI 4))]) hx hb d_LN_about_5 rfl hl (by decide) rfl (fun ls hl => ?_)
  refine lv_aload_n hx hb d_LN_about_6 rfl (lv_at hl 0 rfl) ?_
  refine lv_ifnonnull (tgt := 12) hx hb d_LN_about_7 (by decide) ?_
  refine lv_iload_n hx hb d_LN_about_12 rfl (lv_at hl 3 rfl) ?_
  refine lv_tableIn (tgt := 84) (off := 71) hx hb d_LN_about_13 (by decide) (by decide) (by rfl) (by decide) ?_
  refine lv_aload_n hx hb d_LN_about_84 rfl (lv_at hl 0 rfl) ?_
  refine mk_r1 (W.runV (As := []) (rest := []) S (c_Ro_es l dC dI cI f1 a1 n1 v1 (by first | assumption | omega) (by first | assumption | omega)) (gV 0 hts k_165 k_166 k_167 k_25 k_168 (by decide +kernel) ⟨Nat.le_of_ble_eq_true rfl, Nat.le_of_ble_eq_true rfl⟩) (mk_vR hP hK hT hS [3, 4] rfl (q0 := 3) (ci := 1) rfl rfl) rfl rfl hl.1 rfl (lv_room (Nat.le_of_ble_eq_true rfl)) d_LN_about_85 ⟨Nat.zero_le _, Nat.zero_le _⟩) ?_
  exact hret _ _ d_LN_about_88

set_option maxHeartbeats 4000000 in
set_option maxRecDepth 100000 in
theorem c_LN_about1x (l : Launch) (dC : Nat → ClassId) (dI : Nat → Nat → Nat) (cI : ClassId) (x f0 a0 n0 : Nat) (v0 : Nat → Nat) (f1 a1 n1 : Nat) (v1 : Nat → Nat) (h a : Nat) (b : Nat → Nat) (hp ap : Nat) (pb : Nat → Nat) (hs as : Nat) (B : Nat → Nat) (w : Int32) (hn0 : n0 ≤ 255) (hv0 : ∀ j, v0 j < 65536) (hn1 : n1 ≤ 255) (hv1 : ∀ j, v1 j < 65536) (hb9 : ∀ j, b j < 65536) (hpb : ∀ j, pb j < 65536) (hB : ∀ j, B j < 256) (hw : w < 0 ∨ nI 4 < w) : mR l y_LN_about w_LN_about ({ frames := 1, cells := 0, slots := 0, locals := 21 } : Room) [.ref x, .int (nI 1), .int w] (dC, dI) vwCl [(cI, .int)] [(x, .inr (0, [.ref f0, .ref f1, .ref h, .ref hp, .ref hs])), (f0, .inr (1, [.ref a0, .int (nI n0)])), (a0, .inl (cI, 255, .inl (nf v0))), (f1, .inr (1, [.ref a1, .int (nI n1)])), (a1, .inl (cI, 255, .inl (nf v1))), (h, .inr (2, [.ref a])), (a, .inl (cI, 11, .inl (nf b))), (hp, .inr (3, [.ref ap])), (ap, .inl (cI, 32, .inl (nf pb))), (hs, .inr (4, [.ref as])), (as, .inl (cI, 1024, .inl (nf B)))] (some (.int (-1))) := by
  refine mk_Ri (cc := b_LN_about) (maxL := 4) (by decide) rfl (Nat.le_of_ble_eq_true rfl) rfl ?_
  intro p e s m below meth c Q A ls S hP hK hT hS hl hret
  obtain ⟨hx, hb, hml, hown, hts⟩ := id S
  have hl : lv_has ls 4 [(0, .ref x), (1, .int (nI 1)), (2, .int w)] := hl
  refine lv_aload_n hx hb d_LN_about_0 rfl (lv_at hl 0 rfl) ?_
  refine lv_iload_n hx hb d_LN_about_1 rfl (lv_at hl 1 rfl) ?_
  refine mk_r1 (W.runV (As := [.int (nI 1)]) (rest := []) S (c_LN_row1 l dC dI cI x f0 f1 h hp hs) (gV 1 hts k_111 k_113 k_0 k_24 k_114 (by decide +kernel) ⟨Nat.le_of_ble_eq_true rfl, Nat.le_of_ble_eq_true rfl⟩) (mk_vR hP hK hT hS [0] rfl (q0 := 0) (ci := 0) rfl rfl) rfl rfl hl.1 rfl (lv_room (Nat.le_of_ble_eq_true rfl)) d_LN_about_2 ⟨Nat.zero_le _, Nat.zero_le _⟩) ?_
  refine lv_astore_n (lv' := [(3, .ref f1), (0, .ref x), (1, .int (nI 1)), (2, .int w)]) hx hb d_LN_about_5 rfl hl (by decide) rfl (fun ls hl => ?_)
  refine lv_aload_n hx hb d_LN_about_6 rfl (lv_at hl 0 rfl) ?_
  refine lv_ifnonnull (tgt := 12) hx hb d_LN_about_7 (by decide) ?_
  refine lv_iload_n hx hb d_LN_about_12 rfl (lv_at hl 3 rfl) ?_
  refine lv_tableOut (tgt := 89) hx hb d_LN_about_13 (mk_tout hw (by decide)) (by decide) ?_
  refine lv_iconst (v := (-1)) hx hb d_LN_about_89 (by decide) ?_
  exact hret _ _ d_LN_about_90

set_option maxHeartbeats 4000000 in
set_option maxRecDepth 100000 in
theorem c_LN_letter1 (l : Launch) (dC : Nat → ClassId) (dI : Nat → Nat → Nat) (cI : ClassId) (x f0 a0 n0 : Nat) (v0 : Nat → Nat) (f1 a1 n1 : Nat) (v1 : Nat → Nat) (h a : Nat) (b : Nat → Nat) (hp ap : Nat) (pb : Nat → Nat) (hs as : Nat) (B : Nat → Nat) (t : Nat) (hn0 : n0 ≤ 255) (hv0 : ∀ j, v0 j < 65536) (hn1 : n1 ≤ 255) (hv1 : ∀ j, v1 j < 65536) (hb9 : ∀ j, b j < 65536) (hpb : ∀ j, pb j < 65536) (hB : ∀ j, B j < 256) (ht : t < 2 ^ 31) : mR l y_LN_letter w_LN_letter ({ frames := 3, cells := 0, slots := 0, locals := 67 } : Room) [.ref x, .int (nI 1), .int (nI t)] (dC, dI) vwCl [(cI, .int)] [(x, .inr (0, [.ref f0, .ref f1, .ref h, .ref hp, .ref hs])), (f0, .inr (1, [.ref a0, .int (nI n0)])), (a0, .inl (cI, 255, .inl (nf v0))), (f1, .inr (1, [.ref a1, .int (nI n1)])), (a1, .inl (cI, 255, .inl (nf v1))), (h, .inr (2, [.ref a])), (a, .inl (cI, 11, .inl (nf b))), (hp, .inr (3, [.ref ap])), (ap, .inl (cI, 32, .inl (nf pb))), (hs, .inr (4, [.ref as])), (as, .inl (cI, 1024, .inl (nf B)))] (some (.int (ebL v1 n1 0 t))) := by
  refine mk_Ri (cc := b_LN_letter) (maxL := 4) (by decide) rfl (Nat.le_of_ble_eq_true rfl) rfl ?_
  intro p e s m below meth c Q A ls S hP hK hT hS hl hret
  obtain ⟨hx, hb, hml, hown, hts⟩ := id S
  have hl : lv_has ls 4 [(0, .ref x), (1, .int (nI 1)), (2, .int (nI t))] := hl
  refine lv_aload_n hx hb d_LN_letter_0 rfl (lv_at hl 0 rfl) ?_
  refine lv_iload_n hx hb d_LN_letter_1 rfl (lv_at hl 1 rfl) ?_
  refine mk_r1 (W.runV (As := [.int (nI 1)]) (rest := []) S (c_LN_row1 l dC dI cI x f0 f1 h hp hs) (gV 1 hts k_111 k_113 k_0 k_24 k_114 (by decide +kernel) ⟨Nat.le_of_ble_eq_true rfl, Nat.le_of_ble_eq_true rfl⟩) (mk_vR hP hK hT hS [0] rfl (q0 := 0) (ci := 0) rfl rfl) rfl rfl hl.1 rfl (lv_room (Nat.le_of_ble_eq_true rfl)) d_LN_letter_2 ⟨Nat.zero_le _, Nat.zero_le _⟩) ?_
  refine lv_astore_n (lv' := [(3, .ref f1), (0, .ref x), (1, .int (nI 1)), (2, .int (nI t))]) hx hb d_LN_letter_5 rfl hl (by decide) rfl (fun ls hl => ?_)
  refine lv_aload_n hx hb d_LN_letter_6 rfl (lv_at hl 0 rfl) ?_
  refine lv_ifnonnull (tgt := 14) hx hb d_LN_letter_7 (by decide) ?_
  refine lv_aload_n hx hb d_LN_letter_14 rfl (lv_at hl 0 rfl) ?_
  refine lv_iload_n hx hb d_LN_letter_15 rfl (lv_at hl 3 rfl) ?_
  refine mk_r1 (W.runV (As := [.int (nI t)]) (rest := []) S (c_Ro_ebN l dC dI cI f1 a1 n1 v1 t (by first | assumption | omega) (by first | assumption | omega) (by first | assumption | omega)) (gV 1 hts k_176 k_177 k_178 k_25 k_179 (by decide +kernel) ⟨Nat.le_of_ble_eq_true rfl, Nat.le_of_ble_eq_true rfl⟩) (mk_vR hP hK hT hS [3, 4] rfl (q0 := 3) (ci := 1) rfl rfl) rfl rfl hl.1 rfl (lv_room (Nat.le_of_ble_eq_true rfl)) d_LN_letter_16 ⟨Nat.zero_le _, Nat.zero_le _⟩) ?_
  exact hret _ _ d_LN_letter_19

set_option maxHeartbeats 4000000 in
set_option maxRecDepth 100000 in
theorem c_LN_letter1x (l : Launch) (dC : Nat → ClassId) (dI : Nat → Nat → Nat) (cI : ClassId) (x f0 a0 n0 : Nat) (v0 : Nat → Nat) (f1 a1 n1 : Nat) (v1 : Nat → Nat) (h a : Nat) (b : Nat → Nat) (hp ap : Nat) (pb : Nat → Nat) (hs as : Nat) (B : Nat → Nat) (t : Int32) (hn0 : n0 ≤ 255) (hv0 : ∀ j, v0 j < 65536) (hn1 : n1 ≤ 255) (hv1 : ∀ j, v1 j < 65536) (hb9 : ∀ j, b j < 65536) (hpb : ∀ j, pb j < 65536) (hB : ∀ j, B j < 256) (ht : t < 0) : mR l y_LN_letter w_LN_letter ({ frames := 1, cells := 0, slots := 0, locals := 24 } : Room) [.ref x, .int (nI 1), .int t] (dC, dI) vwCl [(cI, .int)] [(x, .inr (0, [.ref f0, .ref f1, .ref h, .ref hp, .ref hs])), (f0, .inr (1, [.ref a0, .int (nI n0)])), (a0, .inl (cI, 255, .inl (nf v0))), (f1, .inr (1, [.ref a1, .int (nI n1)])), (a1, .inl (cI, 255, .inl (nf v1))), (h, .inr (2, [.ref a])), (a, .inl (cI, 11, .inl (nf b))), (hp, .inr (3, [.ref ap])), (ap, .inl (cI, 32, .inl (nf pb))), (hs, .inr (4, [.ref as])), (as, .inl (cI, 1024, .inl (nf B)))] (some (.int (-1))) := by
  refine mk_Ri (cc := b_LN_letter) (maxL := 4) (by decide) rfl (Nat.le_of_ble_eq_true rfl) rfl ?_
  intro p e s m below meth c Q A ls S hP hK hT hS hl hret
  obtain ⟨hx, hb, hml, hown, hts⟩ := id S
  have hl : lv_has ls 4 [(0, .ref x), (1, .int (nI 1)), (2, .int t)] := hl
  refine lv_aload_n hx hb d_LN_letter_0 rfl (lv_at hl 0 rfl) ?_
  refine lv_iload_n hx hb d_LN_letter_1 rfl (lv_at hl 1 rfl) ?_
  refine mk_r1 (W.runV (As := [.int (nI 1)]) (rest := []) S (c_LN_row1 l dC dI cI x f0 f1 h hp hs) (gV 1 hts k_111 k_113 k_0 k_24 k_114 (by decide +kernel) ⟨Nat.le_of_ble_eq_true rfl, Nat.le_of_ble_eq_true rfl⟩) (mk_vR hP hK hT hS [0] rfl (q0 := 0) (ci := 0) rfl rfl) rfl rfl hl.1 rfl (lv_room (Nat.le_of_ble_eq_true rfl)) d_LN_letter_2 ⟨Nat.zero_le _, Nat.zero_le _⟩) ?_
  refine lv_astore_n (lv' := [(3, .ref f1), (0, .ref x), (1, .int (nI 1)), (2, .int t)]) hx hb d_LN_letter_5 rfl hl (by decide) rfl (fun ls hl => ?_)
  refine lv_aload_n hx hb d_LN_letter_6 rfl (lv_at hl 0 rfl) ?_
  refine lv_ifnonnull (tgt := 14) hx hb d_LN_letter_7 (by decide) ?_
  refine lv_aload_n hx hb d_LN_letter_14 rfl (lv_at hl 0 rfl) ?_
  refine lv_iload_n hx hb d_LN_letter_15 rfl (lv_at hl 3 rfl) ?_
  refine mk_r1 (W.runV (As := [.int t]) (rest := []) S (c_Ro_ebX l dC dI cI f1 a1 n1 v1 t (by first | assumption | omega)) (gV 1 hts k_176 k_177 k_178 k_25 k_179 (by decide +kernel) ⟨Nat.le_of_ble_eq_true rfl, Nat.le_of_ble_eq_true rfl⟩) (mk_vR hP hK hT hS [3, 4] rfl (q0 := 3) (ci := 1) rfl rfl) rfl rfl hl.1 rfl (lv_room (Nat.le_of_ble_eq_true rfl)) d_LN_letter_16 ⟨Nat.zero_le _, Nat.zero_le _⟩) ?_
  exact hret _ _ d_LN_letter_19

set_option maxHeartbeats 4000000 in
set_option maxRecDepth 100000 in
theorem c_LN_unitx (l : Launch) (dC : Nat → ClassId) (dI : Nat → Nat → Nat) (cI : ClassId) (x f0 a0 n0 : Nat) (v0 : Nat → Nat) (f1 a1 n1 : Nat) (v1 : Nat → Nat) (h a : Nat) (b : Nat → Nat) (hp ap : Nat) (pb : Nat → Nat) (hs as : Nat) (B : Nat → Nat) (r u : Int32) (hn0 : n0 ≤ 255) (hv0 : ∀ j, v0 j < 65536) (hn1 : n1 ≤ 255) (hv1 : ∀ j, v1 j < 65536) (hb9 : ∀ j, b j < 65536) (hpb : ∀ j, pb j < 65536) (hB : ∀ j, B j < 256) (hr0 : ¬ r = 0) (hr1 : ¬ r = nI 1) : mM l y_LN_unit w_LN_unit ({ frames := 1, cells := 0, slots := 0, locals := 21 } : Room) [.ref x, .int r, .int u] (dC, dI) vwCl [(cI, .int)] [(x, .inr (0, [.ref f0, .ref f1, .ref h, .ref hp, .ref hs])), (f0, .inr (1, [.ref a0, .int (nI n0)])), (a0, .inl (cI, 255, .inl (nf v0))), (f1, .inr (1, [.ref a1, .int (nI n1)])), (a1, .inl (cI, 255, .inl (nf v1))), (h, .inr (2, [.ref a])), (a, .inl (cI, 11, .inl (nf b))), (hp, .inr (3, [.ref ap])), (ap, .inl (cI, 32, .inl (nf pb))), (hs, .inr (4, [.ref as])), (as, .inl (cI, 1024, .inl (nf B)))] (some (.int (nI 0))) [(x, .inr (0, [.ref f0, .ref f1, .ref h, .ref hp, .ref hs])), (f0, .inr (1, [.ref a0, .int (nI n0)])), (a0, .inl (cI, 255, .inl (nf v0))), (f1, .inr (1, [.ref a1, .int (nI n1)])), (a1, .inl (cI, 255, .inl (nf v1))), (h, .inr (2, [.ref a])), (a, .inl (cI, 11, .inl (nf b))), (hp, .inr (3, [.ref ap])), (ap, .inl (cI, 32, .inl (nf pb))), (hs, .inr (4, [.ref as])), (as, .inl (cI, 1024, .inl (nf B)))] := by
  refine mk_Mi (cc := b_LN_unit) (maxL := 4) (by decide) rfl (Nat.le_of_ble_eq_true rfl) (rfl) ?_
  intro p e s m below meth c Q A ls S hP hK hT hS hl hD hA hret
  obtain ⟨hx, hb, hml, hown, hts⟩ := id S
  have hl : lv_has ls 4 [(0, .ref x), (1, .int r), (2, .int u)] := hl
  refine lv_aload_n hx hb d_LN_unit_0 rfl (lv_at hl 0 rfl) ?_
  refine lv_iload_n hx hb d_LN_unit_1 rfl (lv_at hl 1 rfl) ?_
  refine mk_r1 (W.runV (As := [.int r]) (rest := []) S (c_LN_rowX l dC dI cI x f0 f1 h hp hs r (by first | assumption | omega) (by first | assumption | omega)) (gV 1 hts k_111 k_113 k_0 k_24 k_114 (by decide +kernel) ⟨Nat.le_of_ble_eq_true rfl, Nat.le_of_ble_eq_true rfl⟩) (mk_vR hP hK hT hS [0] rfl (q0 := 0) (ci := 0) rfl rfl) rfl rfl hl.1 rfl (lv_room (Nat.le_of_ble_eq_true rfl)) d_LN_unit_2 ⟨Nat.zero_le _, Nat.zero_le _⟩) ?_
  refine lv_astore_nN (lv' := [(3, .null), (0, .ref x), (1, .int r), (2, .int u)]) hx hb d_LN_unit_5 rfl hl (by decide) rfl (fun ls hl => ?_)
  refine lv_aload_nN hx hb d_LN_unit_6 rfl (lv_at hl 0 rfl) ?_
  refine lv_ifnullN (tgt := 20) hx hb d_LN_unit_7 (by decide) ?_
  refine lv_iconst (v := nI 0) hx hb d_LN_unit_20 (by decide) ?_
  exact hret _ _ _ _ d_LN_unit_21 hP hD hS

set_option maxHeartbeats 4000000 in
set_option maxRecDepth 100000 in
theorem c_LN_clearx (l : Launch) (dC : Nat → ClassId) (dI : Nat → Nat → Nat) (cI : ClassId) (x f0 a0 n0 : Nat) (v0 : Nat → Nat) (f1 a1 n1 : Nat) (v1 : Nat → Nat) (h a : Nat) (b : Nat → Nat) (hp ap : Nat) (pb : Nat → Nat) (hs as : Nat) (B : Nat → Nat) (r : Int32) (hn0 : n0 ≤ 255) (hv0 : ∀ j, v0 j < 65536) (hn1 : n1 ≤ 255) (hv1 : ∀ j, v1 j < 65536) (hb9 : ∀ j, b j < 65536) (hpb : ∀ j, pb j < 65536) (hB : ∀ j, B j < 256) (hr0 : ¬ r = 0) (hr1 : ¬ r = nI 1) : mM l y_LN_clear w_LN_clear ({ frames := 1, cells := 0, slots := 0, locals := 21 } : Room) [.ref x, .int r] (dC, dI) vwCl [(cI, .int)] [(x, .inr (0, [.ref f0, .ref f1, .ref h, .ref hp, .ref hs])), (f0, .inr (1, [.ref a0, .int (nI n0)])), (a0, .inl (cI, 255, .inl (nf v0))), (f1, .inr (1, [.ref a1, .int (nI n1)])), (a1, .inl (cI, 255, .inl (nf v1))), (h, .inr (2, [.ref a])), (a, .inl (cI, 11, .inl (nf b))), (hp, .inr (3, [.ref ap])), (ap, .inl (cI, 32, .inl (nf pb))), (hs, .inr (4, [.ref as])), (as, .inl (cI, 1024, .inl (nf B)))] (some (.int (-1))) [(x, .inr (0, [.ref f0, .ref f1, .ref h, .ref hp, .ref hs])), (f0, .inr (1, [.ref a0, .int (nI n0)])), (a0, .inl (cI, 255, .inl (nf v0))), (f1, .inr (1, [.ref a1, .int (nI n1)])), (a1, .inl (cI, 255, .inl (nf v1))), (h, .inr (2, [.ref a])), (a, .inl (cI, 11, .inl (nf b))), (hp, .inr (3, [.ref ap])), (ap, .inl (cI, 32, .inl (nf pb))), (hs, .inr (4, [.ref as])), (as, .inl (cI, 1024, .inl (nf B)))] := by
  refine mk_Mi (cc := b_LN_clear) (maxL := 4) (by decide) rfl (Nat.le_of_ble_eq_true rfl) rfl ?_
  intro p e s m below meth c Q A ls S hP hK hT hS hl hD hA hret
  obtain ⟨hx, hb, hml, hown, hts⟩ := id S
  have hl : lv_has ls 4 [(0, .ref x), (1, .int r)] := hl
  refine lv_aload_n hx hb d_LN_clear_0 rfl (lv_at hl 0 rfl) ?_
  refine lv_iload_n hx hb d_LN_clear_1 rfl (lv_at hl 1 rfl) ?_
  refine mk_r1 (W.runV (As := [.int r]) (rest := []) S (c_LN_rowX l dC dI cI x f0 f1 h hp hs r (by first | assumption | omega) (by first | assumption | omega)) (gV 1 hts k_111 k_113 k_0 k_24 k_114 (by decide +kernel) ⟨Nat.le_of_ble_eq_true rfl, Nat.le_of_ble_eq_true rfl⟩) (mk_vR hP hK hT hS [0] rfl (q0 := 0) (ci := 0) rfl rfl) rfl rfl hl.1 rfl (lv_room (Nat.le_of_ble_eq_true rfl)) d_LN_clear_2 ⟨Nat.zero_le _, Nat.zero_le _⟩) ?_
  refine lv_astore_nN (lv' := [(2, .null), (0, .ref x), (1, .int r)]) hx hb d_LN_clear_5 rfl hl (by decide) rfl (fun ls hl => ?_)
  refine lv_aload_nN hx hb d_LN_clear_6 rfl (lv_at hl 0 rfl) ?_
  refine lv_ifnonnullN hx hb d_LN_clear_7 ?_
  refine lv_iconst (v := (-1)) hx hb d_LN_clear_10 (by decide) ?_
  exact hret _ _ _ _ d_LN_clear_11 hP hD hS

set_option maxHeartbeats 4000000 in
set_option maxRecDepth 100000 in
theorem c_LN_aboutx (l : Launch) (dC : Nat → ClassId) (dI : Nat → Nat → Nat) (cI : ClassId) (x f0 a0 n0 : Nat) (v0 : Nat → Nat) (f1 a1 n1 : Nat) (v1 : Nat → Nat) (h a : Nat) (b : Nat → Nat) (hp ap : Nat) (pb : Nat → Nat) (hs as : Nat) (B : Nat → Nat) (r w : Int32) (hn0 : n0 ≤ 255) (hv0 : ∀ j, v0 j < 65536) (hn1 : n1 ≤ 255) (hv1 : ∀ j, v1 j < 65536) (hb9 : ∀ j, b j < 65536) (hpb : ∀ j, pb j < 65536) (hB : ∀ j, B j < 256) (hr0 : ¬ r = 0) (hr1 : ¬ r = nI 1) : mR l y_LN_about w_LN_about ({ frames := 1, cells := 0, slots := 0, locals := 21 } : Room) [.ref x, .int r, .int w] (dC, dI) vwCl [(cI, .int)] [(x, .inr (0, [.ref f0, .ref f1, .ref h, .ref hp, .ref hs])), (f0, .inr (1, [.ref a0, .int (nI n0)])), (a0, .inl (cI, 255, .inl (nf v0))), (f1, .inr (1, [.ref a1, .int (nI n1)])), (a1, .inl (cI, 255, .inl (nf v1))), (h, .inr (2, [.ref a])), (a, .inl (cI, 11, .inl (nf b))), (hp, .inr (3, [.ref ap])), (ap, .inl (cI, 32, .inl (nf pb))), (hs, .inr (4, [.ref as])), (as, .inl (cI, 1024, .inl (nf B)))] (some (.int (-1))) := by
  refine mk_Ri (cc := b_LN_about) (maxL := 4) (by decide) rfl (Nat.le_of_ble_eq_true rfl) rfl ?_
  intro p e s m below meth c Q A ls S hP hK hT hS hl hret
  obtain ⟨hx, hb, hml, hown, hts⟩ := id S
  have hl : lv_has ls 4 [(0, .ref x), (1, .int r), (2, .int w)] := hl
  refine lv_aload_n hx hb d_LN_about_0 rfl (lv_at hl 0 rfl) ?_
  refine lv_iload_n hx hb d_LN_about_1 rfl (lv_at hl 1 rfl) ?_
  refine mk_r1 (W.runV (As := [.int r]) (rest := []) S (c_LN_rowX l dC dI cI x f0 f1 h hp hs r (by first | assumption | omega) (by first | assumption | omega)) (gV 1 hts k_111 k_113 k_0 k_24 k_114 (by decide +kernel) ⟨Nat.le_of_ble_eq_true rfl, Nat.le_of_ble_eq_true rfl⟩) (mk_vR hP hK hT hS [0] rfl (q0 := 0) (ci := 0) rfl rfl) rfl rfl hl.1 rfl (lv_room (Nat.le_of_ble_eq_true rfl)) d_LN_about_2 ⟨Nat.zero_le _, Nat.zero_le _⟩) ?_
  refine lv_astore_nN (lv' := [(3, .null), (0, .ref x), (1, .int r), (2, .int w)]) hx hb d_LN_about_5 rfl hl (by decide) rfl (fun ls hl => ?_)
  refine lv_aload_nN hx hb d_LN_about_6 rfl (lv_at hl 0 rfl) ?_
  refine lv_ifnonnullN hx hb d_LN_about_7 ?_
  refine lv_iconst (v := (-1)) hx hb d_LN_about_10 (by decide) ?_
  exact hret _ _ d_LN_about_11

set_option maxHeartbeats 4000000 in
set_option maxRecDepth 100000 in
theorem c_LN_letterx (l : Launch) (dC : Nat → ClassId) (dI : Nat → Nat → Nat) (cI : ClassId) (x f0 a0 n0 : Nat) (v0 : Nat → Nat) (f1 a1 n1 : Nat) (v1 : Nat → Nat) (h a : Nat) (b : Nat → Nat) (hp ap : Nat) (pb : Nat → Nat) (hs as : Nat) (B : Nat → Nat) (r t : Int32) (hn0 : n0 ≤ 255) (hv0 : ∀ j, v0 j < 65536) (hn1 : n1 ≤ 255) (hv1 : ∀ j, v1 j < 65536) (hb9 : ∀ j, b j < 65536) (hpb : ∀ j, pb j < 65536) (hB : ∀ j, B j < 256) (hr0 : ¬ r = 0) (hr1 : ¬ r = nI 1) : mR l y_LN_letter w_LN_letter ({ frames := 1, cells := 0, slots := 0, locals := 21 } : Room) [.ref x, .int r, .int t] (dC, dI) vwCl [(cI, .int)] [(x, .inr (0, [.ref f0, .ref f1, .ref h, .ref hp, .ref hs])), (f0, .inr (1, [.ref a0, .int (nI n0)])), (a0, .inl (cI, 255, .inl (nf v0))), (f1, .inr (1, [.ref a1, .int (nI n1)])), (a1, .inl (cI, 255, .inl (nf v1))), (h, .inr (2, [.ref a])), (a, .inl (cI, 11, .inl (nf b))), (hp, .inr (3, [.ref ap])), (ap, .inl (cI, 32, .inl (nf pb))), (hs, .inr (4, [.ref as])), (as, .inl (cI, 1024, .inl (nf B)))] (some (.int (-1))) := by
  refine mk_Ri (cc := b_LN_letter) (maxL := 4) (by decide) rfl (Nat.le_of_ble_eq_true rfl) rfl ?_
  intro p e s m below meth c Q A ls S hP hK hT hS hl hret
  obtain ⟨hx, hb, hml, hown, hts⟩ := id S
  have hl : lv_has ls 4 [(0, .ref x), (1, .int r), (2, .int t)] := hl
  refine lv_aload_n hx hb d_LN_letter_0 rfl (lv_at hl 0 rfl) ?_
  refine lv_iload_n hx hb d_LN_letter_1 rfl (lv_at hl 1 rfl) ?_
  refine mk_r1 (W.runV (As := [.int r]) (rest := []) S (c_LN_rowX l dC dI cI x f0 f1 h hp hs r (by first | assumption | omega) (by first | assumption | omega)) (gV 1 hts k_111 k_113 k_0 k_24 k_114 (by decide +kernel) ⟨Nat.le_of_ble_eq_true rfl, Nat.le_of_ble_eq_true rfl⟩) (mk_vR hP hK hT hS [0] rfl (q0 := 0) (ci := 0) rfl rfl) rfl rfl hl.1 rfl (lv_room (Nat.le_of_ble_eq_true rfl)) d_LN_letter_2 ⟨Nat.zero_le _, Nat.zero_le _⟩) ?_
  refine lv_astore_nN (lv' := [(3, .null), (0, .ref x), (1, .int r), (2, .int t)]) hx hb d_LN_letter_5 rfl hl (by decide) rfl (fun ls hl => ?_)
  refine lv_aload_nN hx hb d_LN_letter_6 rfl (lv_at hl 0 rfl) ?_
  refine lv_ifnonnullN hx hb d_LN_letter_7 ?_
  refine lv_iconst (v := (-1)) hx hb d_LN_letter_10 (by decide) ?_
  refine lv_goto (tgt := 19) hx hb d_LN_letter_11 (by decide) ?_
  exact hret _ _ d_LN_letter_19

set_option maxHeartbeats 4000000 in
set_option maxRecDepth 100000 in
theorem c_LN_alike (l : Launch) (dC : Nat → ClassId) (dI : Nat → Nat → Nat) (cI : ClassId) (x f0 a0 n0 : Nat) (v0 : Nat → Nat) (f1 a1 n1 : Nat) (v1 : Nat → Nat) (h a : Nat) (b : Nat → Nat) (hp ap : Nat) (pb : Nat → Nat) (hs as : Nat) (B : Nat → Nat) (hn0 : n0 ≤ 255) (hv0 : ∀ j, v0 j < 65536) (hn1 : n1 ≤ 255) (hv1 : ∀ j, v1 j < 65536) (hb9 : ∀ j, b j < 65536) (hpb : ∀ j, pb j < 65536) (hB : ∀ j, B j < 256)  : mR l y_LN_alike w_LN_alike ({ frames := 2, cells := 0, slots := 0, locals := 43 } : Room) [.ref x] (dC, dI) vwCl [(cI, .int)] [(x, .inr (0, [.ref f0, .ref f1, .ref h, .ref hp, .ref hs])), (f0, .inr (1, [.ref a0, .int (nI n0)])), (a0, .inl (cI, 255, .inl (nf v0))), (f1, .inr (1, [.ref a1, .int (nI n1)])), (a1, .inl (cI, 255, .inl (nf v1))), (h, .inr (2, [.ref a])), (a, .inl (cI, 11, .inl (nf b))), (hp, .inr (3, [.ref ap])), (ap, .inl (cI, 32, .inl (nf pb))), (hs, .inr (4, [.ref as])), (as, .inl (cI, 1024, .inl (nf B)))] (some (.int (bI (likeN v0 n0 v1 n1)))) := by
  refine mk_Ri (cc := b_LN_alike) (maxL := 1) (by decide) rfl (Nat.le_of_ble_eq_true rfl) (mk_nz _) ?_
  intro p e s m below meth c Q A ls S hP hK hT hS hl hret
  obtain ⟨hx, hb, hml, hown, hts⟩ := id S
  have hl : lv_has ls 1 [(0, .ref x)] := hl
  refine lv_aload_n hx hb d_LN_alike_0 rfl (lv_at hl 0 rfl) ?_
  refine va_get (D := (dC, dI)) (ci := 0) (v := .ref f0) (C := "LongNames") (T := F_LN) (N := 5) hx hb hts (iw_LN _) hown hK hP 0 rfl rfl 0 (by decide) (hts _ (List.mem_cons_of_mem _ k_91)) (fun _ h9 => h9) rfl d_LN_alike_1 ?_
  refine lv_aload_n hx hb d_LN_alike_4 rfl (lv_at hl 0 rfl) ?_
  refine va_get (D := (dC, dI)) (ci := 0) (v := .ref f1) (C := "LongNames") (T := F_LN) (N := 5) hx hb hts (iw_LN _) hown hK hP 0 rfl rfl 1 (by decide) (hts _ (List.mem_cons_of_mem _ k_92)) (fun _ h9 => h9) rfl d_LN_alike_5 ?_
  refine mk_r1 (W.runV (As := [.ref f1]) (rest := []) S (c_Ro_like l dC dI cI f0 a0 n0 v0 f1 a1 n1 v1 (by first | assumption | omega) (by first | assumption | omega) (by first | assumption | omega) (by first | assumption | omega)) (gV 1 hts k_188 k_189 k_190 k_25 k_191 (by decide +kernel) ⟨Nat.le_of_ble_eq_true rfl, Nat.le_of_ble_eq_true rfl⟩) (mk_vR hP hK hT hS [1, 2, 3, 4] rfl (q0 := 1) (ci := 1) rfl rfl) rfl rfl hl.1 rfl (lv_room (Nat.le_of_ble_eq_true rfl)) d_LN_alike_8 ⟨Nat.zero_le _, Nat.zero_le _⟩) ?_
  exact hret _ _ d_LN_alike_11

set_option maxHeartbeats 4000000 in
set_option maxRecDepth 100000 in
theorem c_LN_poke (l : Launch) (dC : Nat → ClassId) (dI : Nat → Nat → Nat) (cI : ClassId) (x f0 a0 n0 : Nat) (v0 : Nat → Nat) (f1 a1 n1 : Nat) (v1 : Nat → Nat) (h a : Nat) (b : Nat → Nat) (hp ap : Nat) (pb : Nat → Nat) (hs as : Nat) (B : Nat → Nat) (k j y : Nat) (hn0 : n0 ≤ 255) (hv0 : ∀ j, v0 j < 65536) (hn1 : n1 ≤ 255) (hv1 : ∀ j, v1 j < 65536) (hb9 : ∀ j, b j < 65536) (hpb : ∀ j, pb j < 65536) (hB : ∀ j, B j < 256) (hk : k < 32) (hj : j < 32) (hy : y < 2 ^ 32) : mM l y_LN_poke w_LN_poke ({ frames := 3, cells := 0, slots := 0, locals := 64 } : Room) [.ref x, .int (nI k), .int (nI j), .int (nI y)] (dC, dI) vwCl [(cI, .int)] [(x, .inr (0, [.ref f0, .ref f1, .ref h, .ref hp, .ref hs])), (f0, .inr (1, [.ref a0, .int (nI n0)])), (a0, .inl (cI, 255, .inl (nf v0))), (f1, .inr (1, [.ref a1, .int (nI n1)])), (a1, .inl (cI, 255, .inl (nf v1))), (h, .inr (2, [.ref a])), (a, .inl (cI, 11, .inl (nf b))), (hp, .inr (3, [.ref ap])), (ap, .inl (cI, 32, .inl (nf pb))), (hs, .inr (4, [.ref as])), (as, .inl (cI, 1024, .inl (nf B)))] (some (.int (nI 1))) [(x, .inr (0, [.ref f0, .ref f1, .ref h, .ref hp, .ref hs])), (f0, .inr (1, [.ref a0, .int (nI n0)])), (a0, .inl (cI, 255, .inl (nf v0))), (f1, .inr (1, [.ref a1, .int (nI n1)])), (a1, .inl (cI, 255, .inl (nf v1))), (h, .inr (2, [.ref a])), (a, .inl (cI, 11, .inl (nf b))), (hp, .inr (3, [.ref ap])), (ap, .inl (cI, 32, .inl (nf pb))), (hs, .inr (4, [.ref as])), (as, .inl (cI, 1024, .inl (nf (uN B (k * 32 + j) (y % 2 ^ 8)))))] := by
  refine mk_Mi (cc := b_LN_poke) (maxL := 4) (by decide) rfl (Nat.le_of_ble_eq_true rfl) (rfl) ?_
  intro p e s m below meth c Q A ls S hP hK hT hS hl hD hA hret
  obtain ⟨hx, hb, hml, hown, hts⟩ := id S
  have hl : lv_has ls 4 [(0, .ref x), (1, .int (nI k)), (2, .int (nI j)), (3, .int (nI y))] := hl
  refine lv_aload_n hx hb d_LN_poke_0 rfl (lv_at hl 0 rfl) ?_
  refine va_get (D := (dC, dI)) (ci := 0) (v := .ref hs) (C := "LongNames") (T := F_LN) (N := 5) hx hb hts (iw_LN _) hown hK hP 0 rfl rfl 4 (by decide) (hts _ (List.mem_cons_of_mem _ k_95)) (fun _ h9 => h9) rfl d_LN_poke_1 ?_
  refine lv_iload_n hx hb d_LN_poke_4 rfl (lv_at hl 1 rfl) ?_
  refine lv_iload_n hx hb d_LN_poke_5 rfl (lv_at hl 2 rfl) ?_
  refine lv_iload_n hx hb d_LN_poke_6 rfl (lv_at hl 3 rfl) ?_
  refine mk_w1 (wr := [(x, .inr (0, [.ref f0, .ref f1, .ref h, .ref hp, .ref hs])), (f0, .inr (1, [.ref a0, .int (nI n0)])), (a0, .inl (cI, 255, .inl (nf v0))), (f1, .inr (1, [.ref a1, .int (nI n1)])), (a1, .inl (cI, 255, .inl (nf v1))), (h, .inr (2, [.ref a])), (a, .inl (cI, 11, .inl (nf b))), (hp, .inr (3, [.ref ap])), (ap, .inl (cI, 32, .inl (nf pb)))]) (W.runV (As := [.int (nI k), .int (nI j), .int (nI y)]) (rest := []) S ((c_Sl_putN l dC dI cI hs as B k j y (by first | assumption | omega) (by first | assumption | omega) (by first | assumption | omega)) _) (gV 3 hts k_199 k_200 k_201 k_28 k_202 (by decide +kernel) ⟨Nat.le_of_ble_eq_true rfl, Nat.le_of_ble_eq_true rfl⟩) (mk_vM hP hD hK hT hS hA [9, 10] rfl rfl (by decide) (q0 := 9) (ci := 4) rfl rfl) rfl rfl hl.1 rfl (lv_room (Nat.le_of_ble_eq_true rfl)) d_LN_poke_7 ⟨Nat.zero_le _, Nat.zero_le _⟩) hP hD hS hA [9, 10] [0, 1, 2, 3, 4, 5, 6, 7, 8] rfl rfl (by decide) (by decide) (fun H locs hP hD hS => ?_)
  have hP : va_P (dC, dI) vwCl [(x, .inr (0, [.ref f0, .ref f1, .ref h, .ref hp, .ref hs])), (f0, .inr (1, [.ref a0, .int (nI n0)])), (a0, .inl (cI, 255, .inl (nf v0))), (f1, .inr (1, [.ref a1, .int (nI n1)])), (a1, .inl (cI, 255, .inl (nf v1))), (h, .inr (2, [.ref a])), (a, .inl (cI, 11, .inl (nf b))), (hp, .inr (3, [.ref ap])), (ap, .inl (cI, 32, .inl (nf pb))), (hs, .inr (4, [.ref as])), (as, .inl (cI, 1024, .inl (nf (uN B (k * 32 + j) (y % 2 ^ 8)))))] H := hP.sub [0, 1, 2, 3, 4, 5, 6, 7, 8, 9, 10] rfl
  have hD : va_D A [(x, .inr (0, [.ref f0, .ref f1, .ref h, .ref hp, .ref hs])), (f0, .inr (1, [.ref a0, .int (nI n0)])), (a0, .inl (cI, 255, .inl (nf v0))), (f1, .inr (1, [.ref a1, .int (nI n1)])), (a1, .inl (cI, 255, .inl (nf v1))), (h, .inr (2, [.ref a])), (a, .inl (cI, 11, .inl (nf b))), (hp, .inr (3, [.ref ap])), (ap, .inl (cI, 32, .inl (nf pb))), (hs, .inr (4, [.ref as])), (as, .inl (cI, 1024, .inl (nf (uN B (k * 32 + j) (y % 2 ^ 8)))))] := hD.sub [0, 1, 2, 3, 4, 5, 6, 7, 8, 9, 10] (by decide) rfl
  exact hret _ _ _ _ d_LN_poke_10 hP hD hS

set_option maxHeartbeats 4000000 in
set_option maxRecDepth 100000 in
theorem c_LN_pokey (l : Launch) (dC : Nat → ClassId) (dI : Nat → Nat → Nat) (cI : ClassId) (x f0 a0 n0 : Nat) (v0 : Nat → Nat) (f1 a1 n1 : Nat) (v1 : Nat → Nat) (h a : Nat) (b : Nat → Nat) (hp ap : Nat) (pb : Nat → Nat) (hs as : Nat) (B : Nat → Nat) (k : Nat) (x9 y : Int32) (hn0 : n0 ≤ 255) (hv0 : ∀ j, v0 j < 65536) (hn1 : n1 ≤ 255) (hv1 : ∀ j, v1 j < 65536) (hb9 : ∀ j, b j < 65536) (hpb : ∀ j, pb j < 65536) (hB : ∀ j, B j < 256) (hk : k < 32) (hj : x9 < 0 ∨ nI 32 ≤ x9) : mM l y_LN_poke w_LN_poke ({ frames := 3, cells := 0, slots := 0, locals := 64 } : Room) [.ref x, .int (nI k), .int x9, .int y] (dC, dI) vwCl [(cI, .int)] [(x, .inr (0, [.ref f0, .ref f1, .ref h, .ref hp, .ref hs])), (f0, .inr (1, [.ref a0, .int (nI n0)])), (a0, .inl (cI, 255, .inl (nf v0))), (f1, .inr (1, [.ref a1, .int (nI n1)])), (a1, .inl (cI, 255, .inl (nf v1))), (h, .inr (2, [.ref a])), (a, .inl (cI, 11, .inl (nf b))), (hp, .inr (3, [.ref ap])), (ap, .inl (cI, 32, .inl (nf pb))), (hs, .inr (4, [.ref as])), (as, .inl (cI, 1024, .inl (nf B)))] (some (.int (nI 0))) [(x, .inr (0, [.ref f0, .ref f1, .ref h, .ref hp, .ref hs])), (f0, .inr (1, [.ref a0, .int (nI n0)])), (a0, .inl (cI, 255, .inl (nf v0))), (f1, .inr (1, [.ref a1, .int (nI n1)])), (a1, .inl (cI, 255, .inl (nf v1))), (h, .inr (2, [.ref a])), (a, .inl (cI, 11, .inl (nf b))), (hp, .inr (3, [.ref ap])), (ap, .inl (cI, 32, .inl (nf pb))), (hs, .inr (4, [.ref as])), (as, .inl (cI, 1024, .inl (nf B)))] := by
  refine mk_Mi (cc := b_LN_poke) (maxL := 4) (by decide) rfl (Nat.le_of_ble_eq_true rfl) (rfl) ?_
  intro p e s m below meth c Q A ls S hP hK hT hS hl hD hA hret
  obtain ⟨hx, hb, hml, hown, hts⟩ := id S
  have hl : lv_has ls 4 [(0, .ref x), (1, .int (nI k)), (2, .int x9), (3, .int y)] := hl
  refine lv_aload_n hx hb d_LN_poke_0 rfl (lv_at hl 0 rfl) ?_
  refine va_get (D := (dC, dI)) (ci := 0) (v := .ref hs) (C := "LongNames") (T := F_LN) (N := 5) hx hb hts (iw_LN _) hown hK hP 0 rfl rfl 4 (by decide) (hts _ (List.mem_cons_of_mem _ k_95)) (fun _ h9 => h9) rfl d_LN_poke_1 ?_
  refine lv_iload_n hx hb d_LN_poke_4 rfl (lv_at hl 1 rfl) ?_
  refine lv_iload_n hx hb d_LN_poke_5 rfl (lv_at hl 2 rfl) ?_
  refine lv_iload_n hx hb d_LN_poke_6 rfl (lv_at hl 3 rfl) ?_
  refine mk_w1 (wr := [(x, .inr (0, [.ref f0, .ref f1, .ref h, .ref hp, .ref hs])), (f0, .inr (1, [.ref a0, .int (nI n0)])), (a0, .inl (cI, 255, .inl (nf v0))), (f1, .inr (1, [.ref a1, .int (nI n1)])), (a1, .inl (cI, 255, .inl (nf v1))), (h, .inr (2, [.ref a])), (a, .inl (cI, 11, .inl (nf b))), (hp, .inr (3, [.ref ap])), (ap, .inl (cI, 32, .inl (nf pb)))]) (W.runV (As := [.int (nI k), .int x9, .int y]) (rest := []) S ((c_Sl_putY l dC dI cI hs as B k x9 y (by first | assumption | omega) (by first | assumption | omega)) _) (gV 3 hts k_199 k_200 k_201 k_28 k_202 (by decide +kernel) ⟨Nat.le_of_ble_eq_true rfl, Nat.le_of_ble_eq_true rfl⟩) (mk_vM hP hD hK hT hS hA [9, 10] rfl rfl (by decide) (q0 := 9) (ci := 4) rfl rfl) rfl rfl hl.1 rfl (lv_room (Nat.le_of_ble_eq_true rfl)) d_LN_poke_7 ⟨Nat.zero_le _, Nat.zero_le _⟩) hP hD hS hA [9, 10] [0, 1, 2, 3, 4, 5, 6, 7, 8] rfl rfl (by decide) (by decide) (fun H locs hP hD hS => ?_)
  have hP : va_P (dC, dI) vwCl [(x, .inr (0, [.ref f0, .ref f1, .ref h, .ref hp, .ref hs])), (f0, .inr (1, [.ref a0, .int (nI n0)])), (a0, .inl (cI, 255, .inl (nf v0))), (f1, .inr (1, [.ref a1, .int (nI n1)])), (a1, .inl (cI, 255, .inl (nf v1))), (h, .inr (2, [.ref a])), (a, .inl (cI, 11, .inl (nf b))), (hp, .inr (3, [.ref ap])), (ap, .inl (cI, 32, .inl (nf pb))), (hs, .inr (4, [.ref as])), (as, .inl (cI, 1024, .inl (nf B)))] H := hP.sub [0, 1, 2, 3, 4, 5, 6, 7, 8, 9, 10] rfl
  have hD : va_D A [(x, .inr (0, [.ref f0, .ref f1, .ref h, .ref hp, .ref hs])), (f0, .inr (1, [.ref a0, .int (nI n0)])), (a0, .inl (cI, 255, .inl (nf v0))), (f1, .inr (1, [.ref a1, .int (nI n1)])), (a1, .inl (cI, 255, .inl (nf v1))), (h, .inr (2, [.ref a])), (a, .inl (cI, 11, .inl (nf b))), (hp, .inr (3, [.ref ap])), (ap, .inl (cI, 32, .inl (nf pb))), (hs, .inr (4, [.ref as])), (as, .inl (cI, 1024, .inl (nf B)))] := hD.sub [0, 1, 2, 3, 4, 5, 6, 7, 8, 9, 10] (by decide) rfl
  exact hret _ _ _ _ d_LN_poke_10 hP hD hS

set_option maxHeartbeats 4000000 in
set_option maxRecDepth 100000 in
theorem c_LN_pokex (l : Launch) (dC : Nat → ClassId) (dI : Nat → Nat → Nat) (cI : ClassId) (x f0 a0 n0 : Nat) (v0 : Nat → Nat) (f1 a1 n1 : Nat) (v1 : Nat → Nat) (h a : Nat) (b : Nat → Nat) (hp ap : Nat) (pb : Nat → Nat) (hs as : Nat) (B : Nat → Nat) (x9 z9 y : Int32) (hn0 : n0 ≤ 255) (hv0 : ∀ j, v0 j < 65536) (hn1 : n1 ≤ 255) (hv1 : ∀ j, v1 j < 65536) (hb9 : ∀ j, b j < 65536) (hpb : ∀ j, pb j < 65536) (hB : ∀ j, B j < 256) (hk : x9 < 0 ∨ nI 32 ≤ x9) : mM l y_LN_poke w_LN_poke ({ frames := 3, cells := 0, slots := 0, locals := 64 } : Room) [.ref x, .int x9, .int z9, .int y] (dC, dI) vwCl [(cI, .int)] [(x, .inr (0, [.ref f0, .ref f1, .ref h, .ref hp, .ref hs])), (f0, .inr (1, [.ref a0, .int (nI n0)])), (a0, .inl (cI, 255, .inl (nf v0))), (f1, .inr (1, [.ref a1, .int (nI n1)])), (a1, .inl (cI, 255, .inl (nf v1))), (h, .inr (2, [.ref a])), (a, .inl (cI, 11, .inl (nf b))), (hp, .inr (3, [.ref ap])), (ap, .inl (cI, 32, .inl (nf pb))), (hs, .inr (4, [.ref as])), (as, .inl (cI, 1024, .inl (nf B)))] (some (.int (nI 0))) [(x, .inr (0, [.ref f0, .ref f1, .ref h, .ref hp, .ref hs])), (f0, .inr (1, [.ref a0, .int (nI n0)])), (a0, .inl (cI, 255, .inl (nf v0))), (f1, .inr (1, [.ref a1, .int (nI n1)])), (a1, .inl (cI, 255, .inl (nf v1))), (h, .inr (2, [.ref a])), (a, .inl (cI, 11, .inl (nf b))), (hp, .inr (3, [.ref ap])), (ap, .inl (cI, 32, .inl (nf pb))), (hs, .inr (4, [.ref as])), (as, .inl (cI, 1024, .inl (nf B)))] := by
  refine mk_Mi (cc := b_LN_poke) (maxL := 4) (by decide) rfl (Nat.le_of_ble_eq_true rfl) (rfl) ?_
  intro p e s m below meth c Q A ls S hP hK hT hS hl hD hA hret
  obtain ⟨hx, hb, hml, hown, hts⟩ := id S
  have hl : lv_has ls 4 [(0, .ref x), (1, .int x9), (2, .int z9), (3, .int y)] := hl
  refine lv_aload_n hx hb d_LN_poke_0 rfl (lv_at hl 0 rfl) ?_
  refine va_get (D := (dC, dI)) (ci := 0) (v := .ref hs) (C := "LongNames") (T := F_LN) (N := 5) hx hb hts (iw_LN _) hown hK hP 0 rfl rfl 4 (by decide) (hts _ (List.mem_cons_of_mem _ k_95)) (fun _ h9 => h9) rfl d_LN_poke_1 ?_
  refine lv_iload_n hx hb d_LN_poke_4 rfl (lv_at hl 1 rfl) ?_
  refine lv_iload_n hx hb d_LN_poke_5 rfl (lv_at hl 2 rfl) ?_
  refine lv_iload_n hx hb d_LN_poke_6 rfl (lv_at hl 3 rfl) ?_
  refine mk_w1 (wr := [(x, .inr (0, [.ref f0, .ref f1, .ref h, .ref hp, .ref hs])), (f0, .inr (1, [.ref a0, .int (nI n0)])), (a0, .inl (cI, 255, .inl (nf v0))), (f1, .inr (1, [.ref a1, .int (nI n1)])), (a1, .inl (cI, 255, .inl (nf v1))), (h, .inr (2, [.ref a])), (a, .inl (cI, 11, .inl (nf b))), (hp, .inr (3, [.ref ap])), (ap, .inl (cI, 32, .inl (nf pb)))]) (W.runV (As := [.int x9, .int z9, .int y]) (rest := []) S ((c_Sl_putX l dC dI cI hs as B x9 z9 y (by first | assumption | omega)) _) (gV 3 hts k_199 k_200 k_201 k_28 k_202 (by decide +kernel) ⟨Nat.le_of_ble_eq_true rfl, Nat.le_of_ble_eq_true rfl⟩) (mk_vM hP hD hK hT hS hA [9, 10] rfl rfl (by decide) (q0 := 9) (ci := 4) rfl rfl) rfl rfl hl.1 rfl (lv_room (Nat.le_of_ble_eq_true rfl)) d_LN_poke_7 ⟨Nat.zero_le _, Nat.zero_le _⟩) hP hD hS hA [9, 10] [0, 1, 2, 3, 4, 5, 6, 7, 8] rfl rfl (by decide) (by decide) (fun H locs hP hD hS => ?_)
  have hP : va_P (dC, dI) vwCl [(x, .inr (0, [.ref f0, .ref f1, .ref h, .ref hp, .ref hs])), (f0, .inr (1, [.ref a0, .int (nI n0)])), (a0, .inl (cI, 255, .inl (nf v0))), (f1, .inr (1, [.ref a1, .int (nI n1)])), (a1, .inl (cI, 255, .inl (nf v1))), (h, .inr (2, [.ref a])), (a, .inl (cI, 11, .inl (nf b))), (hp, .inr (3, [.ref ap])), (ap, .inl (cI, 32, .inl (nf pb))), (hs, .inr (4, [.ref as])), (as, .inl (cI, 1024, .inl (nf B)))] H := hP.sub [0, 1, 2, 3, 4, 5, 6, 7, 8, 9, 10] rfl
  have hD : va_D A [(x, .inr (0, [.ref f0, .ref f1, .ref h, .ref hp, .ref hs])), (f0, .inr (1, [.ref a0, .int (nI n0)])), (a0, .inl (cI, 255, .inl (nf v0))), (f1, .inr (1, [.ref a1, .int (nI n1)])), (a1, .inl (cI, 255, .inl (nf v1))), (h, .inr (2, [.ref a])), (a, .inl (cI, 11, .inl (nf b))), (hp, .inr (3, [.ref ap])), (ap, .inl (cI, 32, .inl (nf pb))), (hs, .inr (4, [.ref as])), (as, .inl (cI, 1024, .inl (nf B)))] := hD.sub [0, 1, 2, 3, 4, 5, 6, 7, 8, 9, 10] (by decide) rfl
  exact hret _ _ _ _ d_LN_poke_10 hP hD hS

set_option maxHeartbeats 4000000 in
set_option maxRecDepth 100000 in
theorem c_LN_byte (l : Launch) (dC : Nat → ClassId) (dI : Nat → Nat → Nat) (cI : ClassId) (x f0 a0 n0 : Nat) (v0 : Nat → Nat) (f1 a1 n1 : Nat) (v1 : Nat → Nat) (h a : Nat) (b : Nat → Nat) (hp ap : Nat) (pb : Nat → Nat) (hs as : Nat) (B : Nat → Nat) (k j : Nat) (hn0 : n0 ≤ 255) (hv0 : ∀ j, v0 j < 65536) (hn1 : n1 ≤ 255) (hv1 : ∀ j, v1 j < 65536) (hb9 : ∀ j, b j < 65536) (hpb : ∀ j, pb j < 65536) (hB : ∀ j, B j < 256) (hk : k < 32) (hj : j < 32) : mR l y_LN_byteAt w_LN_byteAt ({ frames := 3, cells := 0, slots := 0, locals := 63 } : Room) [.ref x, .int (nI k), .int (nI j)] (dC, dI) vwCl [(cI, .int)] [(x, .inr (0, [.ref f0, .ref f1, .ref h, .ref hp, .ref hs])), (f0, .inr (1, [.ref a0, .int (nI n0)])), (a0, .inl (cI, 255, .inl (nf v0))), (f1, .inr (1, [.ref a1, .int (nI n1)])), (a1, .inl (cI, 255, .inl (nf v1))), (h, .inr (2, [.ref a])), (a, .inl (cI, 11, .inl (nf b))), (hp, .inr (3, [.ref ap])), (ap, .inl (cI, 32, .inl (nf pb))), (hs, .inr (4, [.ref as])), (as, .inl (cI, 1024, .inl (nf B)))] (some (.int (nI (B (k * 32 + j))))) := by
  refine mk_Ri (cc := b_LN_byteAt) (maxL := 3) (by decide) rfl (Nat.le_of_ble_eq_true rfl) rfl ?_
  intro p e s m below meth c Q A ls S hP hK hT hS hl hret
  obtain ⟨hx, hb, hml, hown, hts⟩ := id S
  have hl : lv_has ls 3 [(0, .ref x), (1, .int (nI k)), (2, .int (nI j))] := hl
  refine lv_aload_n hx hb d_LN_byteAt_0 rfl (lv_at hl 0 rfl) ?_
  refine va_get (D := (dC, dI)) (ci := 0) (v := .ref hs) (C := "LongNames") (T := F_LN) (N := 5) hx hb hts (iw_LN _) hown hK hP 0 rfl rfl 4 (by decide) (hts _ (List.mem_cons_of_mem _ k_95)) (fun _ h9 => h9) rfl d_LN_byteAt_1 ?_
  refine lv_iload_n hx hb d_LN_byteAt_4 rfl (lv_at hl 1 rfl) ?_
  refine lv_iload_n hx hb d_LN_byteAt_5 rfl (lv_at hl 2 rfl) ?_
  refine mk_r1 (W.runV (As := [.int (nI k), .int (nI j)]) (rest := []) S (c_Sl_getN l dC dI cI hs as B k j (by first | assumption | omega) (by first | assumption | omega) (by first | assumption | omega)) (gV 2 hts k_213 k_214 k_215 k_28 k_216 (by decide +kernel) ⟨Nat.le_of_ble_eq_true rfl, Nat.le_of_ble_eq_true rfl⟩) (mk_vR hP hK hT hS [9, 10] rfl (q0 := 9) (ci := 4) rfl rfl) rfl rfl hl.1 rfl (lv_room (Nat.le_of_ble_eq_true rfl)) d_LN_byteAt_6 ⟨Nat.zero_le _, Nat.zero_le _⟩) ?_
  have b_1 := (show ∀ j9, B j9 < 256 by assumption) (k * 32 + j)
  exact hret _ _ d_LN_byteAt_9

set_option maxHeartbeats 4000000 in
set_option maxRecDepth 100000 in
theorem c_LN_bytey (l : Launch) (dC : Nat → ClassId) (dI : Nat → Nat → Nat) (cI : ClassId) (x f0 a0 n0 : Nat) (v0 : Nat → Nat) (f1 a1 n1 : Nat) (v1 : Nat → Nat) (h a : Nat) (b : Nat → Nat) (hp ap : Nat) (pb : Nat → Nat) (hs as : Nat) (B : Nat → Nat) (k : Nat) (x9 : Int32) (hn0 : n0 ≤ 255) (hv0 : ∀ j, v0 j < 65536) (hn1 : n1 ≤ 255) (hv1 : ∀ j, v1 j < 65536) (hb9 : ∀ j, b j < 65536) (hpb : ∀ j, pb j < 65536) (hB : ∀ j, B j < 256) (hk : k < 32) (hj : x9 < 0 ∨ nI 32 ≤ x9) : mR l y_LN_byteAt w_LN_byteAt ({ frames := 3, cells := 0, slots := 0, locals := 63 } : Room) [.ref x, .int (nI k), .int x9] (dC, dI) vwCl [(cI, .int)] [(x, .inr (0, [.ref f0, .ref f1, .ref h, .ref hp, .ref hs])), (f0, .inr (1, [.ref a0, .int (nI n0)])), (a0, .inl (cI, 255, .inl (nf v0))), (f1, .inr (1, [.ref a1, .int (nI n1)])), (a1, .inl (cI, 255, .inl (nf v1))), (h, .inr (2, [.ref a])), (a, .inl (cI, 11, .inl (nf b))), (hp, .inr (3, [.ref ap])), (ap, .inl (cI, 32, .inl (nf pb))), (hs, .inr (4, [.ref as])), (as, .inl (cI, 1024, .inl (nf B)))] (some (.int (-1))) := by
  refine mk_Ri (cc := b_LN_byteAt) (maxL := 3) (by decide) rfl (Nat.le_of_ble_eq_true rfl) rfl ?_
  intro p e s m below meth c Q A ls S hP hK hT hS hl hret
  obtain ⟨hx, hb, hml, hown, hts⟩ := id S
  have hl : lv_has ls 3 [(0, .ref x), (1, .int (nI k)), (2, .int x9)] := hl
  refine lv_aload_n hx hb d_LN_byteAt_0 rfl (lv_at hl 0 rfl) ?_
  refine va_get (D := (dC, dI)) (ci := 0) (v := .ref hs) (C := "LongNames") (T := F_LN) (N := 5) hx hb hts (iw_LN _) hown hK hP 0 rfl rfl 4 (by decide) (hts _ (List.mem_cons_of_mem _ k_95)) (fun _ h9 => h9) rfl d_LN_byteAt_1 ?_
  refine lv_iload_n hx hb d_LN_byteAt_4 rfl (lv_at hl 1 rfl) ?_
  refine lv_iload_n hx hb d_LN_byteAt_5 rfl (lv_at hl 2 rfl) ?_
  refine mk_r1 (W.runV (As := [.int (nI k), .int x9]) (rest := []) S (c_Sl_getY l dC dI cI hs as B k x9 (by first | assumption | omega) (by first | assumption | omega)) (gV 2 hts k_213 k_214 k_215 k_28 k_216 (by decide +kernel) ⟨Nat.le_of_ble_eq_true rfl, Nat.le_of_ble_eq_true rfl⟩) (mk_vR hP hK hT hS [9, 10] rfl (q0 := 9) (ci := 4) rfl rfl) rfl rfl hl.1 rfl (lv_room (Nat.le_of_ble_eq_true rfl)) d_LN_byteAt_6 ⟨Nat.zero_le _, Nat.zero_le _⟩) ?_
  exact hret _ _ d_LN_byteAt_9

set_option maxHeartbeats 4000000 in
set_option maxRecDepth 100000 in
theorem c_LN_bytex (l : Launch) (dC : Nat → ClassId) (dI : Nat → Nat → Nat) (cI : ClassId) (x f0 a0 n0 : Nat) (v0 : Nat → Nat) (f1 a1 n1 : Nat) (v1 : Nat → Nat) (h a : Nat) (b : Nat → Nat) (hp ap : Nat) (pb : Nat → Nat) (hs as : Nat) (B : Nat → Nat) (x9 z9 : Int32) (hn0 : n0 ≤ 255) (hv0 : ∀ j, v0 j < 65536) (hn1 : n1 ≤ 255) (hv1 : ∀ j, v1 j < 65536) (hb9 : ∀ j, b j < 65536) (hpb : ∀ j, pb j < 65536) (hB : ∀ j, B j < 256) (hk : x9 < 0 ∨ nI 32 ≤ x9) : mR l y_LN_byteAt w_LN_byteAt ({ frames := 3, cells := 0, slots := 0, locals := 63 } : Room) [.ref x, .int x9, .int z9] (dC, dI) vwCl [(cI, .int)] [(x, .inr (0, [.ref f0, .ref f1, .ref h, .ref hp, .ref hs])), (f0, .inr (1, [.ref a0, .int (nI n0)])), (a0, .inl (cI, 255, .inl (nf v0))), (f1, .inr (1, [.ref a1, .int (nI n1)])), (a1, .inl (cI, 255, .inl (nf v1))), (h, .inr (2, [.ref a])), (a, .inl (cI, 11, .inl (nf b))), (hp, .inr (3, [.ref ap])), (ap, .inl (cI, 32, .inl (nf pb))), (hs, .inr (4, [.ref as])), (as, .inl (cI, 1024, .inl (nf B)))] (some (.int (-1))) := by
  refine mk_Ri (cc := b_LN_byteAt) (maxL := 3) (by decide) rfl (Nat.le_of_ble_eq_true rfl) rfl ?_
  intro p e s m below meth c Q A ls S hP hK hT hS hl hret
  obtain ⟨hx, hb, hml, hown, hts⟩ := id S
  have hl : lv_has ls 3 [(0, .ref x), (1, .int x9), (2, .int z9)] := hl
  refine lv_aload_n hx hb d_LN_byteAt_0 rfl (lv_at hl 0 rfl) ?_
  refine va_get (D := (dC, dI)) (ci := 0) (v := .ref hs) (C := "LongNames") (T := F_LN) (N := 5) hx hb hts (iw_LN _) hown hK hP 0 rfl rfl 4 (by decide) (hts _ (List.mem_cons_of_mem _ k_95)) (fun _ h9 => h9) rfl d_LN_byteAt_1 ?_
  refine lv_iload_n hx hb d_LN_byteAt_4 rfl (lv_at hl 1 rfl) ?_
  refine lv_iload_n hx hb d_LN_byteAt_5 rfl (lv_at hl 2 rfl) ?_
  refine mk_r1 (W.runV (As := [.int x9, .int z9]) (rest := []) S (c_Sl_getX l dC dI cI hs as B x9 z9 (by first | assumption | omega)) (gV 2 hts k_213 k_214 k_215 k_28 k_216 (by decide +kernel) ⟨Nat.le_of_ble_eq_true rfl, Nat.le_of_ble_eq_true rfl⟩) (mk_vR hP hK hT hS [9, 10] rfl (q0 := 9) (ci := 4) rfl rfl) rfl rfl hl.1 rfl (lv_room (Nat.le_of_ble_eq_true rfl)) d_LN_byteAt_6 ⟨Nat.zero_le _, Nat.zero_le _⟩) ?_
  exact hret _ _ d_LN_byteAt_9

set_option maxHeartbeats 4000000 in
set_option maxRecDepth 100000 in
theorem c_LN_sum (l : Launch) (dC : Nat → ClassId) (dI : Nat → Nat → Nat) (cI : ClassId) (x f0 a0 n0 : Nat) (v0 : Nat → Nat) (f1 a1 n1 : Nat) (v1 : Nat → Nat) (h a : Nat) (b : Nat → Nat) (hp ap : Nat) (pb : Nat → Nat) (hs as : Nat) (B : Nat → Nat) (q : Nat) (hn0 : n0 ≤ 255) (hv0 : ∀ j, v0 j < 65536) (hn1 : n1 ≤ 255) (hv1 : ∀ j, v1 j < 65536) (hb9 : ∀ j, b j < 65536) (hpb : ∀ j, pb j < 65536) (hB : ∀ j, B j < 256) (hq : q < 32) : mR l y_LN_sum w_LN_sum ({ frames := 4, cells := 0, slots := 0, locals := 87 } : Room) [.ref x, .int (nI q)] (dC, dI) vwCl [(cI, .int)] [(x, .inr (0, [.ref f0, .ref f1, .ref h, .ref hp, .ref hs])), (f0, .inr (1, [.ref a0, .int (nI n0)])), (a0, .inl (cI, 255, .inl (nf v0))), (f1, .inr (1, [.ref a1, .int (nI n1)])), (a1, .inl (cI, 255, .inl (nf v1))), (h, .inr (2, [.ref a])), (a, .inl (cI, 11, .inl (nf b))), (hp, .inr (3, [.ref ap])), (ap, .inl (cI, 32, .inl (nf pb))), (hs, .inr (4, [.ref as])), (as, .inl (cI, 1024, .inl (nf B)))] (some (.int (nI (suN B (q * 32) 11)))) := by
  refine mk_Ri (cc := b_LN_sum) (maxL := 2) (by decide) rfl (Nat.le_of_ble_eq_true rfl) rfl ?_
  intro p e s m below meth c Q A ls S hP hK hT hS hl hret
  obtain ⟨hx, hb, hml, hown, hts⟩ := id S
  have hl : lv_has ls 2 [(0, .ref x), (1, .int (nI q))] := hl
  refine lv_iload_n hx hb d_LN_sum_0 rfl (lv_at hl 1 rfl) ?_
  refine mk_r1 (W.runS (As := [.int (nI q)]) (rest := []) S (c_Sl_isN l dC dI cI q (by first | assumption | omega)) (gS 1 hts k_221 k_207 k_28 k_208 (by decide +kernel) ⟨Nat.le_of_ble_eq_true rfl, Nat.le_of_ble_eq_true rfl⟩) (mk_sR hP hK hT hS [] rfl) rfl rfl hl.1 rfl (lv_room (Nat.le_of_ble_eq_true rfl)) d_LN_sum_1 ⟨Nat.zero_le _, Nat.zero_le _⟩) ?_
  refine lv_if_eq (tgt := 18) hx hb d_LN_sum_4 (by decide) (fun c_1 => ?_) (fun c_1 => ?_)
  · skip
    rw [mk_ceq (by omega)] at c_1
    first | omega | contradiction
  · skip
    rw [mk_ceq (by omega)] at c_1
    refine lv_aload_n hx hb d_LN_sum_7 rfl (lv_at hl 0 rfl) ?_
    refine va_get (D := (dC, dI)) (ci := 0) (v := .ref hs) (C := "LongNames") (T := F_LN) (N := 5) hx hb hts (iw_LN _) hown hK hP 0 rfl rfl 4 (by decide) (hts _ (List.mem_cons_of_mem _ k_95)) (fun _ h9 => h9) rfl d_LN_sum_8 ?_
    refine lv_iload_n hx hb d_LN_sum_11 rfl (lv_at hl 1 rfl) ?_
    refine mk_r1 (W.runV (As := [.int (nI q)]) (rest := []) S (c_Sl_sum l dC dI cI hs as B q (by first | assumption | omega) (by first | assumption | omega)) (gV 1 hts k_222 k_223 k_224 k_28 k_225 (by decide +kernel) ⟨Nat.le_of_ble_eq_true rfl, Nat.le_of_ble_eq_true rfl⟩) (mk_vR hP hK hT hS [9, 10] rfl (q0 := 9) (ci := 4) rfl rfl) rfl rfl hl.1 rfl (lv_room (Nat.le_of_ble_eq_true rfl)) d_LN_sum_12 ⟨Nat.zero_le _, Nat.zero_le _⟩) ?_
    refine lv_goto (tgt := 19) hx hb d_LN_sum_15 (by decide) ?_
    exact hret _ _ d_LN_sum_19

set_option maxHeartbeats 4000000 in
set_option maxRecDepth 100000 in
theorem c_LN_sumx (l : Launch) (dC : Nat → ClassId) (dI : Nat → Nat → Nat) (cI : ClassId) (x f0 a0 n0 : Nat) (v0 : Nat → Nat) (f1 a1 n1 : Nat) (v1 : Nat → Nat) (h a : Nat) (b : Nat → Nat) (hp ap : Nat) (pb : Nat → Nat) (hs as : Nat) (B : Nat → Nat) (x9 : Int32) (hn0 : n0 ≤ 255) (hv0 : ∀ j, v0 j < 65536) (hn1 : n1 ≤ 255) (hv1 : ∀ j, v1 j < 65536) (hb9 : ∀ j, b j < 65536) (hpb : ∀ j, pb j < 65536) (hB : ∀ j, B j < 256) (hk : x9 < 0 ∨ nI 32 ≤ x9) : mR l y_LN_sum w_LN_sum ({ frames := 1, cells := 0, slots := 0, locals := 20 } : Room) [.ref x, .int x9] (dC, dI) vwCl [(cI, .int)] [(x, .inr (0, [.ref f0, .ref f1, .ref h, .ref hp, .ref hs])), (f0, .inr (1, [.ref a0, .int (nI n0)])), (a0, .inl (cI, 255, .inl (nf v0))), (f1, .inr (1, [.ref a1, .int (nI n1)])), (a1, .inl (cI, 255, .inl (nf v1))), (h, .inr (2, [.ref a])), (a, .inl (cI, 11, .inl (nf b))), (hp, .inr (3, [.ref ap])), (ap, .inl (cI, 32, .inl (nf pb))), (hs, .inr (4, [.ref as])), (as, .inl (cI, 1024, .inl (nf B)))] (some (.int (-1))) := by
  refine mk_Ri (cc := b_LN_sum) (maxL := 2) (by decide) rfl (Nat.le_of_ble_eq_true rfl) rfl ?_
  intro p e s m below meth c Q A ls S hP hK hT hS hl hret
  obtain ⟨hx, hb, hml, hown, hts⟩ := id S
  have hl : lv_has ls 2 [(0, .ref x), (1, .int x9)] := hl
  refine lv_iload_n hx hb d_LN_sum_0 rfl (lv_at hl 1 rfl) ?_
  refine mk_r1 (W.runS (As := [.int x9]) (rest := []) S (c_Sl_isX l dC dI cI x9 (by first | assumption | omega)) (gS 1 hts k_221 k_207 k_28 k_208 (by decide +kernel) ⟨Nat.le_of_ble_eq_true rfl, Nat.le_of_ble_eq_true rfl⟩) (mk_sR hP hK hT hS [] rfl) rfl rfl hl.1 rfl (lv_room (Nat.le_of_ble_eq_true rfl)) d_LN_sum_1 ⟨Nat.zero_le _, Nat.zero_le _⟩) ?_
  refine lv_if_eq (tgt := 18) hx hb d_LN_sum_4 (by decide) (fun c_1 => ?_) (fun c_1 => ?_)
  · skip
    rw [mk_ceq (by omega)] at c_1
    refine lv_iconst (v := (-1)) hx hb d_LN_sum_18 (by decide) ?_
    exact hret _ _ d_LN_sum_19
  · skip
    rw [mk_ceq (by omega)] at c_1
    first | omega | contradiction

set_option maxHeartbeats 4000000 in
set_option maxRecDepth 100000 in
theorem c_LN_secx (l : Launch) (dC : Nat → ClassId) (dI : Nat → Nat → Nat) (cI : ClassId) (x f0 a0 n0 : Nat) (v0 : Nat → Nat) (f1 a1 n1 : Nat) (v1 : Nat → Nat) (h a : Nat) (b : Nat → Nat) (hp ap : Nat) (pb : Nat → Nat) (hs as : Nat) (B : Nat → Nat) (x9 z9 : Int32) (hn0 : n0 ≤ 255) (hv0 : ∀ j, v0 j < 65536) (hn1 : n1 ≤ 255) (hv1 : ∀ j, v1 j < 65536) (hb9 : ∀ j, b j < 65536) (hpb : ∀ j, pb j < 65536) (hB : ∀ j, B j < 256) (hd : x9 < 0 ∨ ¬ x9 ≤ nI 65535) : mR l y_LN_seconds w_LN_seconds ({ frames := 1, cells := 0, slots := 0, locals := 21 } : Room) [.ref x, .int x9, .int z9] (dC, dI) vwCl [(cI, .int)] [(x, .inr (0, [.ref f0, .ref f1, .ref h, .ref hp, .ref hs])), (f0, .inr (1, [.ref a0, .int (nI n0)])), (a0, .inl (cI, 255, .inl (nf v0))), (f1, .inr (1, [.ref a1, .int (nI n1)])), (a1, .inl (cI, 255, .inl (nf v1))), (h, .inr (2, [.ref a])), (a, .inl (cI, 11, .inl (nf b))), (hp, .inr (3, [.ref ap])), (ap, .inl (cI, 32, .inl (nf pb))), (hs, .inr (4, [.ref as])), (as, .inl (cI, 1024, .inl (nf B)))] (some (.long (-1))) := by
  refine mk_Rl (cc := b_LN_seconds) (maxL := 3) (by decide) rfl (Nat.le_of_ble_eq_true rfl) ?_
  intro p e s m below meth c Q A ls S hP hK hT hS hl hret
  obtain ⟨hx, hb, hml, hown, hts⟩ := id S
  have hl : lv_has ls 3 [(0, .ref x), (1, .int x9), (2, .int z9)] := hl
  refine lv_iload_n hx hb d_LN_seconds_0 rfl (lv_at hl 1 rfl) ?_
  refine mk_r1 (W.runS (As := [.int x9]) (rest := []) S (c_Dy_isDayX l dC dI cI x9 (by first | assumption | omega)) (gS 1 hts k_231 k_232 k_38 k_233 (by decide +kernel) ⟨Nat.le_of_ble_eq_true rfl, Nat.le_of_ble_eq_true rfl⟩) (mk_sR hP hK hT hS [] rfl) rfl rfl hl.1 rfl (lv_room (Nat.le_of_ble_eq_true rfl)) d_LN_seconds_1 ⟨Nat.zero_le _, Nat.zero_le _⟩) ?_
  refine lv_if_eq (tgt := 14) hx hb d_LN_seconds_4 (by decide) (fun c_1 => ?_) (fun c_1 => ?_)
  · skip
    rw [mk_ceq (by omega)] at c_1
    refine lv_ldc2 (v := (-1)) hx hb hown (hts _ (List.mem_cons_of_mem _ k_264)) d_LN_seconds_14 ?_
    exact hret _ _ d_LN_seconds_17
  · skip
    rw [mk_ceq (by omega)] at c_1
    first | omega | contradiction

set_option maxHeartbeats 4000000 in
set_option maxRecDepth 100000 in
theorem c_LN_secd (l : Launch) (dC : Nat → ClassId) (dI : Nat → Nat → Nat) (cI : ClassId) (x f0 a0 n0 : Nat) (v0 : Nat → Nat) (f1 a1 n1 : Nat) (v1 : Nat → Nat) (h a : Nat) (b : Nat → Nat) (hp ap : Nat) (pb : Nat → Nat) (hs as : Nat) (B : Nat → Nat) (d : Nat) (z9 : Int32) (hn0 : n0 ≤ 255) (hv0 : ∀ j, v0 j < 65536) (hn1 : n1 ≤ 255) (hv1 : ∀ j, v1 j < 65536) (hb9 : ∀ j, b j < 65536) (hpb : ∀ j, pb j < 65536) (hB : ∀ j, B j < 256) (hd : d < 65536) (hi : idN d = false) : mR l y_LN_seconds w_LN_seconds ({ frames := 3, cells := 0, slots := 0, locals := 62 } : Room) [.ref x, .int (nI d), .int z9] (dC, dI) vwCl [(cI, .int)] [(x, .inr (0, [.ref f0, .ref f1, .ref h, .ref hp, .ref hs])), (f0, .inr (1, [.ref a0, .int (nI n0)])), (a0, .inl (cI, 255, .inl (nf v0))), (f1, .inr (1, [.ref a1, .int (nI n1)])), (a1, .inl (cI, 255, .inl (nf v1))), (h, .inr (2, [.ref a])), (a, .inl (cI, 11, .inl (nf b))), (hp, .inr (3, [.ref ap])), (ap, .inl (cI, 32, .inl (nf pb))), (hs, .inr (4, [.ref as])), (as, .inl (cI, 1024, .inl (nf B)))] (some (.long (-1))) := by
  refine mk_Rl (cc := b_LN_seconds) (maxL := 3) (by decide) rfl (Nat.le_of_ble_eq_true rfl) ?_
  intro p e s m below meth c Q A ls S hP hK hT hS hl hret
  obtain ⟨hx, hb, hml, hown, hts⟩ := id S
  have hl : lv_has ls 3 [(0, .ref x), (1, .int (nI d)), (2, .int z9)] := hl
  refine lv_iload_n hx hb d_LN_seconds_0 rfl (lv_at hl 1 rfl) ?_
  refine mk_r1 (W.runS (As := [.int (nI d)]) (rest := []) S (c_Dy_isDay l dC dI cI d (by first | assumption | omega)) (gS 1 hts k_231 k_232 k_38 k_233 (by decide +kernel) ⟨Nat.le_of_ble_eq_true rfl, Nat.le_of_ble_eq_true rfl⟩) (mk_sR hP hK hT hS [] rfl) rfl rfl hl.1 rfl (lv_room (Nat.le_of_ble_eq_true rfl)) d_LN_seconds_1 ⟨Nat.zero_le _, Nat.zero_le _⟩) ?_
  refine lv_if_eq (tgt := 14) hx hb d_LN_seconds_4 (by decide) (fun c_1 => ?_) (fun c_1 => ?_)
  · skip
    have c_1 := bI_0 c_1
    refine lv_ldc2 (v := (-1)) hx hb hown (hts _ (List.mem_cons_of_mem _ k_264)) d_LN_seconds_14 ?_
    exact hret _ _ d_LN_seconds_17
  · skip
    have c_1 := bI_1 c_1
    rw [hi] at c_1; exact absurd c_1 (by decide)

set_option maxHeartbeats 4000000 in
set_option maxRecDepth 100000 in
theorem c_LN_secy (l : Launch) (dC : Nat → ClassId) (dI : Nat → Nat → Nat) (cI : ClassId) (x f0 a0 n0 : Nat) (v0 : Nat → Nat) (f1 a1 n1 : Nat) (v1 : Nat → Nat) (h a : Nat) (b : Nat → Nat) (hp ap : Nat) (pb : Nat → Nat) (hs as : Nat) (B : Nat → Nat) (d : Nat) (x9 : Int32) (hn0 : n0 ≤ 255) (hv0 : ∀ j, v0 j < 65536) (hn1 : n1 ≤ 255) (hv1 : ∀ j, v1 j < 65536) (hb9 : ∀ j, b j < 65536) (hpb : ∀ j, pb j < 65536) (hB : ∀ j, B j < 256) (hd : d < 65536) (hi : idN d = true) (ht : x9 < 0 ∨ ¬ x9 ≤ nI 65535) : mR l y_LN_seconds w_LN_seconds ({ frames := 3, cells := 0, slots := 0, locals := 62 } : Room) [.ref x, .int (nI d), .int x9] (dC, dI) vwCl [(cI, .int)] [(x, .inr (0, [.ref f0, .ref f1, .ref h, .ref hp, .ref hs])), (f0, .inr (1, [.ref a0, .int (nI n0)])), (a0, .inl (cI, 255, .inl (nf v0))), (f1, .inr (1, [.ref a1, .int (nI n1)])), (a1, .inl (cI, 255, .inl (nf v1))), (h, .inr (2, [.ref a])), (a, .inl (cI, 11, .inl (nf b))), (hp, .inr (3, [.ref ap])), (ap, .inl (cI, 32, .inl (nf pb))), (hs, .inr (4, [.ref as])), (as, .inl (cI, 1024, .inl (nf B)))] (some (.long (-1))) := by
  refine mk_Rl (cc := b_LN_seconds) (maxL := 3) (by decide) rfl (Nat.le_of_ble_eq_true rfl) ?_
  intro p e s m below meth c Q A ls S hP hK hT hS hl hret
  obtain ⟨hx, hb, hml, hown, hts⟩ := id S
  have hl : lv_has ls 3 [(0, .ref x), (1, .int (nI d)), (2, .int x9)] := hl
  refine lv_iload_n hx hb d_LN_seconds_0 rfl (lv_at hl 1 rfl) ?_
  refine mk_r1 (W.runS (As := [.int (nI d)]) (rest := []) S (c_Dy_isDay l dC dI cI d (by first | assumption | omega)) (gS 1 hts k_231 k_232 k_38 k_233 (by decide +kernel) ⟨Nat.le_of_ble_eq_true rfl, Nat.le_of_ble_eq_true rfl⟩) (mk_sR hP hK hT hS [] rfl) rfl rfl hl.1 rfl (lv_room (Nat.le_of_ble_eq_true rfl)) d_LN_seconds_1 ⟨Nat.zero_le _, Nat.zero_le _⟩) ?_
  refine lv_if_eq (tgt := 14) hx hb d_LN_seconds_4 (by decide) (fun c_1 => ?_) (fun c_1 => ?_)
  · skip
    have c_1 := bI_0 c_1
    rw [hi] at c_1; exact absurd c_1 (by decide)
  · skip
    have c_1 := bI_1 c_1
    refine lv_iload_n hx hb d_LN_seconds_7 rfl (lv_at hl 2 rfl) ?_
    refine mk_r1 (W.runS (As := [.int x9]) (rest := []) S (c_Dy_isTimeX l dC dI cI x9 (by first | assumption | omega)) (gS 1 hts k_252 k_253 k_38 k_254 (by decide +kernel) ⟨Nat.le_of_ble_eq_true rfl, Nat.le_of_ble_eq_true rfl⟩) (mk_sR hP hK hT hS [] rfl) rfl rfl hl.1 rfl (lv_room (Nat.le_of_ble_eq_true rfl)) d_LN_seconds_8 ⟨Nat.zero_le _, Nat.zero_le _⟩) ?_
    refine lv_if_ne (tgt := 18) hx hb d_LN_seconds_11 (by decide) (fun c_2 => ?_) (fun c_2 => ?_)
    · skip
      rw [mk_ceq (by omega)] at c_2
      first | omega | contradiction
    · skip
      rw [mk_ceq (by omega)] at c_2
      refine lv_ldc2 (v := (-1)) hx hb hown (hts _ (List.mem_cons_of_mem _ k_264)) d_LN_seconds_14 ?_
      exact hret _ _ d_LN_seconds_17

set_option maxHeartbeats 4000000 in
set_option maxRecDepth 100000 in
theorem c_LN_sect (l : Launch) (dC : Nat → ClassId) (dI : Nat → Nat → Nat) (cI : ClassId) (x f0 a0 n0 : Nat) (v0 : Nat → Nat) (f1 a1 n1 : Nat) (v1 : Nat → Nat) (h a : Nat) (b : Nat → Nat) (hp ap : Nat) (pb : Nat → Nat) (hs as : Nat) (B : Nat → Nat) (d t : Nat) (hn0 : n0 ≤ 255) (hv0 : ∀ j, v0 j < 65536) (hn1 : n1 ≤ 255) (hv1 : ∀ j, v1 j < 65536) (hb9 : ∀ j, b j < 65536) (hpb : ∀ j, pb j < 65536) (hB : ∀ j, B j < 256) (hd : d < 65536) (hi : idN d = true) (ht : t < 65536) (hj : itN t = false) : mR l y_LN_seconds w_LN_seconds ({ frames := 3, cells := 0, slots := 0, locals := 62 } : Room) [.ref x, .int (nI d), .int (nI t)] (dC, dI) vwCl [(cI, .int)] [(x, .inr (0, [.ref f0, .ref f1, .ref h, .ref hp, .ref hs])), (f0, .inr (1, [.ref a0, .int (nI n0)])), (a0, .inl (cI, 255, .inl (nf v0))), (f1, .inr (1, [.ref a1, .int (nI n1)])), (a1, .inl (cI, 255, .inl (nf v1))), (h, .inr (2, [.ref a])), (a, .inl (cI, 11, .inl (nf b))), (hp, .inr (3, [.ref ap])), (ap, .inl (cI, 32, .inl (nf pb))), (hs, .inr (4, [.ref as])), (as, .inl (cI, 1024, .inl (nf B)))] (some (.long (-1))) := by
  refine mk_Rl (cc := b_LN_seconds) (maxL := 3) (by decide) rfl (Nat.le_of_ble_eq_true rfl) ?_
  intro p e s m below meth c Q A ls S hP hK hT hS hl hret
  obtain ⟨hx, hb, hml, hown, hts⟩ := id S
  have hl : lv_has ls 3 [(0, .ref x), (1, .int (nI d)), (2, .int (nI t))] := hl
  refine lv_iload_n hx hb d_LN_seconds_0 rfl (lv_at hl 1 rfl) ?_
  refine mk_r1 (W.runS (As := [.int (nI d)]) (rest := []) S (c_Dy_isDay l dC dI cI d (by first | assumption | omega)) (gS 1 hts k_231 k_232 k_38 k_233 (by decide +kernel) ⟨Nat.le_of_ble_eq_true rfl, Nat.le_of_ble_eq_true rfl⟩) (mk_sR hP hK hT hS [] rfl) rfl rfl hl.1 rfl (lv_room (Nat.le_of_ble_eq_true rfl)) d_LN_seconds_1 ⟨Nat.zero_le _, Nat.zero_le _⟩) ?_
  refine lv_if_eq (tgt := 14) hx hb d_LN_seconds_4 (by decide) (fun c_1 => ?_) (fun c_1 => ?_)
  · skip
    have c_1 := bI_0 c_1
    rw [hi] at c_1; exact absurd c_1 (by decide)
  · skip
    have c_1 := bI_1 c_1
    refine lv_iload_n hx hb d_LN_seconds_7 rfl (lv_at hl 2 rfl) ?_
    refine mk_r1 (W.runS (As := [.int (nI t)]) (rest := []) S (c_Dy_isTime l dC dI cI t (by first | assumption | omega)) (gS 1 hts k_252 k_253 k_38 k_254 (by decide +kernel) ⟨Nat.le_of_ble_eq_true rfl, Nat.le_of_ble_eq_true rfl⟩) (mk_sR hP hK hT hS [] rfl) rfl rfl hl.1 rfl (lv_room (Nat.le_of_ble_eq_true rfl)) d_LN_seconds_8 ⟨Nat.zero_le _, Nat.zero_le _⟩) ?_
    refine lv_if_ne (tgt := 18) hx hb d_LN_seconds_11 (by decide) (fun c_2 => ?_) (fun c_2 => ?_)
    · skip
      have c_2 := bI_1 c_2
      rw [hj] at c_2; exact absurd c_2 (by decide)
    · skip
      have c_2 := bI_0 c_2
      refine lv_ldc2 (v := (-1)) hx hb hown (hts _ (List.mem_cons_of_mem _ k_264)) d_LN_seconds_14 ?_
      exact hret _ _ d_LN_seconds_17

set_option maxHeartbeats 4000000 in
set_option maxRecDepth 100000 in
theorem c_LN_sec (l : Launch) (dC : Nat → ClassId) (dI : Nat → Nat → Nat) (cI : ClassId) (x f0 a0 n0 : Nat) (v0 : Nat → Nat) (f1 a1 n1 : Nat) (v1 : Nat → Nat) (h a : Nat) (b : Nat → Nat) (hp ap : Nat) (pb : Nat → Nat) (hs as : Nat) (B : Nat → Nat) (d t : Nat) (hn0 : n0 ≤ 255) (hv0 : ∀ j, v0 j < 65536) (hn1 : n1 ≤ 255) (hv1 : ∀ j, v1 j < 65536) (hb9 : ∀ j, b j < 65536) (hpb : ∀ j, pb j < 65536) (hB : ∀ j, B j < 256) (hd : d < 65536) (hi : idN d = true) (ht : t < 65536) (hj : itN t = true) : mR l y_LN_seconds w_LN_seconds ({ frames := 3, cells := 0, slots := 0, locals := 66 } : Room) [.ref x, .int (nI d), .int (nI t)] (dC, dI) vwCl [(cI, .int)] [(x, .inr (0, [.ref f0, .ref f1, .ref h, .ref hp, .ref hs])), (f0, .inr (1, [.ref a0, .int (nI n0)])), (a0, .inl (cI, 255, .inl (nf v0))), (f1, .inr (1, [.ref a1, .int (nI n1)])), (a1, .inl (cI, 255, .inl (nf v1))), (h, .inr (2, [.ref a])), (a, .inl (cI, 11, .inl (nf b))), (hp, .inr (3, [.ref ap])), (ap, .inl (cI, 32, .inl (nf pb))), (hs, .inr (4, [.ref as])), (as, .inl (cI, 1024, .inl (nf B)))] (some (.long (lN (sdN d + stmN t)))) := by
  have h7 := idN_ok hi
  refine mk_Rl (cc := b_LN_seconds) (maxL := 3) (by decide) rfl (Nat.le_of_ble_eq_true rfl) ?_
  intro p e s m below meth c Q A ls S hP hK hT hS hl hret
  obtain ⟨hx, hb, hml, hown, hts⟩ := id S
  have hl : lv_has ls 3 [(0, .ref x), (1, .int (nI d)), (2, .int (nI t))] := hl
  refine lv_iload_n hx hb d_LN_seconds_0 rfl (lv_at hl 1 rfl) ?_
  refine mk_r1 (W.runS (As := [.int (nI d)]) (rest := []) S (c_Dy_isDay l dC dI cI d (by first | assumption | omega)) (gS 1 hts k_231 k_232 k_38 k_233 (by decide +kernel) ⟨Nat.le_of_ble_eq_true rfl, Nat.le_of_ble_eq_true rfl⟩) (mk_sR hP hK hT hS [] rfl) rfl rfl hl.1 rfl (lv_room (Nat.le_of_ble_eq_true rfl)) d_LN_seconds_1 ⟨Nat.zero_le _, Nat.zero_le _⟩) ?_
  refine lv_if_eq (tgt := 14) hx hb d_LN_seconds_4 (by decide) (fun c_1 => ?_) (fun c_1 => ?_)
  · skip
    have c_1 := bI_0 c_1
    rw [hi] at c_1; exact absurd c_1 (by decide)
  · skip
    have c_1 := bI_1 c_1
    refine lv_iload_n hx hb d_LN_seconds_7 rfl (lv_at hl 2 rfl) ?_
    refine mk_r1 (W.runS (As := [.int (nI t)]) (rest := []) S (c_Dy_isTime l dC dI cI t (by first | assumption | omega)) (gS 1 hts k_252 k_253 k_38 k_254 (by decide +kernel) ⟨Nat.le_of_ble_eq_true rfl, Nat.le_of_ble_eq_true rfl⟩) (mk_sR hP hK hT hS [] rfl) rfl rfl hl.1 rfl (lv_room (Nat.le_of_ble_eq_true rfl)) d_LN_seconds_8 ⟨Nat.zero_le _, Nat.zero_le _⟩) ?_
    refine lv_if_ne (tgt := 18) hx hb d_LN_seconds_11 (by decide) (fun c_2 => ?_) (fun c_2 => ?_)
    · skip
      have c_2 := bI_1 c_2
      refine lv_iload_n hx hb d_LN_seconds_18 rfl (lv_at hl 1 rfl) ?_
      refine mk_r1 (W.runS (As := [.int (nI d)]) (rest := []) S (c_Dy_sbd l dC dI cI d (by first | assumption | omega) (by first | assumption | omega) (by first | assumption | omega)) (gS 1 hts k_265 k_266 k_38 k_267 (by decide +kernel) ⟨Nat.le_of_ble_eq_true rfl, Nat.le_of_ble_eq_true rfl⟩) (mk_sR hP hK hT hS [] rfl) rfl rfl hl.1 rfl (lv_room (Nat.le_of_ble_eq_true rfl)) d_LN_seconds_19 ⟨Nat.zero_le _, Nat.zero_le _⟩) ?_
      refine lv_iload_n hx hb d_LN_seconds_22 rfl (lv_at hl 2 rfl) ?_
      refine mk_r1 (W.runS (As := [.int (nI t)]) (rest := [.long (lN (sdN d))]) S (c_Dy_sot l dC dI cI t (by first | assumption | omega)) (gS 1 hts k_271 k_272 k_38 k_273 (by decide +kernel) ⟨Nat.le_of_ble_eq_true rfl, Nat.le_of_ble_eq_true rfl⟩) (mk_sR hP hK hT hS [] rfl) rfl rfl hl.1 rfl (lv_room (Nat.le_of_ble_eq_true rfl)) d_LN_seconds_23 ⟨Nat.zero_le _, Nat.zero_le _⟩) ?_
      refine lv_ladd hx hb d_LN_seconds_26 ?_
      refine mk_tl (y := lN (sdN d + stmN t)) (lN_add (sdN d) (stmN t)) ?_
      exact hret _ _ d_LN_seconds_27
    · skip
      have c_2 := bI_0 c_2
      rw [hj] at c_2; exact absurd c_2 (by decide)
end
