section
-- ===== PART A: goes FIRST, ahead of the names: the tables' words, and 'selects' of the private methods out of them =====
/-- a private method of a class that the tables say can be made, by its rows of tables_1 -/
def lw_okq (q : MethodName × Nat) : Prop := (q.1.cls ≠ "java/lang/invoke/MethodHandle" ∧ q.1.cls ≠ "java/lang/invoke/VarHandle") ∧ Cond.instantiable q.1.cls q.2 ∈ tables_1 ∧ Cond.privateMethod q.1 ∈ tables_1 ∧ Cond.instanceMethod q.1 ∈ tables_1
theorem lw_p0 : lw_okq (⟨"LongNames", "rowOf", "(I)LLongNames$Row;"⟩, 5) := ⟨⟨by decide +kernel, by decide +kernel⟩, List.mem_of_getElem? (i := 17) (by decide +kernel), List.mem_of_getElem? (i := 89) (by decide +kernel), List.mem_of_getElem? (i := 90) (by decide +kernel)⟩
theorem lw_p1 : lw_okq (⟨"java/lang/Throwable", "fillInStackTrace", "(I)Ljava/lang/Throwable;"⟩, 6) := ⟨⟨by decide +kernel, by decide +kernel⟩, List.mem_of_getElem? (i := 302) (by decide +kernel), List.mem_of_getElem? (i := 300) (by decide +kernel), List.mem_of_getElem? (i := 301) (by decide +kernel)⟩
theorem lw_p2 : lw_okq (⟨"LongNames$ShortName", "shorten", "(LLongNames$Row;IIII)I"⟩, 1) := ⟨⟨by decide +kernel, by decide +kernel⟩, List.mem_of_getElem? (i := 39) (by decide +kernel), List.mem_of_getElem? (i := 359) (by decide +kernel), List.mem_of_getElem? (i := 360) (by decide +kernel)⟩
theorem lw_p3 : lw_okq (⟨"LongNames$ShortName", "set", "(II)V"⟩, 1) := ⟨⟨by decide +kernel, by decide +kernel⟩, List.mem_of_getElem? (i := 39) (by decide +kernel), List.mem_of_getElem? (i := 369) (by decide +kernel), List.mem_of_getElem? (i := 370) (by decide +kernel)⟩
theorem lw_p4 : lw_okq (⟨"LongNames$ShortName", "setNumber", "(III)V"⟩, 1) := ⟨⟨by decide +kernel, by decide +kernel⟩, List.mem_of_getElem? (i := 39) (by decide +kernel), List.mem_of_getElem? (i := 380) (by decide +kernel), List.mem_of_getElem? (i := 381) (by decide +kernel)⟩
theorem lw_p5 : lw_okq (⟨"LongNames", "writeSlots", "(LLongNames$Row;II)V"⟩, 5) := ⟨⟨by decide +kernel, by decide +kernel⟩, List.mem_of_getElem? (i := 17) (by decide +kernel), List.mem_of_getElem? (i := 384) (by decide +kernel), List.mem_of_getElem? (i := 385) (by decide +kernel)⟩
theorem lw_p6 : lw_okq (⟨"LongNames$ShortName", "get", "(I)I"⟩, 1) := ⟨⟨by decide +kernel, by decide +kernel⟩, List.mem_of_getElem? (i := 39) (by decide +kernel), List.mem_of_getElem? (i := 392) (by decide +kernel), List.mem_of_getElem? (i := 393) (by decide +kernel)⟩
theorem lw_p7 : lw_okq (⟨"LongNames$Part", "set", "(II)V"⟩, 1) := ⟨⟨by decide +kernel, by decide +kernel⟩, List.mem_of_getElem? (i := 49) (by decide +kernel), List.mem_of_getElem? (i := 403) (by decide +kernel), List.mem_of_getElem? (i := 404) (by decide +kernel)⟩
theorem lw_p8 : lw_okq (⟨"LongNames$Part", "get", "(I)I"⟩, 1) := ⟨⟨by decide +kernel, by decide +kernel⟩, List.mem_of_getElem? (i := 49) (by decide +kernel), List.mem_of_getElem? (i := 422) (by decide +kernel), List.mem_of_getElem? (i := 423) (by decide +kernel)⟩
theorem lw_p9 : lw_okq (⟨"LongNames$ShortName", "blanksOnlyEnd", "(II)Z"⟩, 1) := ⟨⟨by decide +kernel, by decide +kernel⟩, List.mem_of_getElem? (i := 39) (by decide +kernel), List.mem_of_getElem? (i := 447) (by decide +kernel), List.mem_of_getElem? (i := 448) (by decide +kernel)⟩
theorem lw_p10 : lw_okq (⟨"LongNames$ShortName", "showBytes", "(LLongNames$Row;II)V"⟩, 1) := ⟨⟨by decide +kernel, by decide +kernel⟩, List.mem_of_getElem? (i := 39) (by decide +kernel), List.mem_of_getElem? (i := 472) (by decide +kernel), List.mem_of_getElem? (i := 473) (by decide +kernel)⟩
theorem lw_p11 : lw_okq (⟨"LongNames", "readParts", "(LLongNames$Row;II)Z"⟩, 5) := ⟨⟨by decide +kernel, by decide +kernel⟩, List.mem_of_getElem? (i := 17) (by decide +kernel), List.mem_of_getElem? (i := 477) (by decide +kernel), List.mem_of_getElem? (i := 478) (by decide +kernel)⟩
theorem lw_p12 : lw_okq (⟨"LongNames", "collectUnits", "(LLongNames$Row;II)V"⟩, 5) := ⟨⟨by decide +kernel, by decide +kernel⟩, List.mem_of_getElem? (i := 17) (by decide +kernel), List.mem_of_getElem? (i := 481) (by decide +kernel), List.mem_of_getElem? (i := 482) (by decide +kernel)⟩
theorem lw_p13 : lw_okq (⟨"LongNamesModel", "isName", "(I)Z"⟩, 5) := ⟨⟨by decide +kernel, by decide +kernel⟩, List.mem_of_getElem? (i := 494) (by decide +kernel), List.mem_of_getElem? (i := 536) (by decide +kernel), List.mem_of_getElem? (i := 537) (by decide +kernel)⟩
theorem lw_p14 : lw_okq (⟨"LongNamesModel", "at", "(II)I"⟩, 5) := ⟨⟨by decide +kernel, by decide +kernel⟩, List.mem_of_getElem? (i := 494) (by decide +kernel), List.mem_of_getElem? (i := 540) (by decide +kernel), List.mem_of_getElem? (i := 541) (by decide +kernel)⟩
theorem lw_p15 : lw_okq (⟨"LongNamesModel", "isShown", "(I)Z"⟩, 5) := ⟨⟨by decide +kernel, by decide +kernel⟩, List.mem_of_getElem? (i := 494) (by decide +kernel), List.mem_of_getElem? (i := 550) (by decide +kernel), List.mem_of_getElem? (i := 551) (by decide +kernel)⟩
def lw_privs_1 : List (MethodName × Nat) := [(⟨"LongNames", "rowOf", "(I)LLongNames$Row;"⟩, 5), (⟨"java/lang/Throwable", "fillInStackTrace", "(I)Ljava/lang/Throwable;"⟩, 6), (⟨"LongNames$ShortName", "shorten", "(LLongNames$Row;IIII)I"⟩, 1), (⟨"LongNames$ShortName", "set", "(II)V"⟩, 1), (⟨"LongNames$ShortName", "setNumber", "(III)V"⟩, 1), (⟨"LongNames", "writeSlots", "(LLongNames$Row;II)V"⟩, 5), (⟨"LongNames$ShortName", "get", "(I)I"⟩, 1), (⟨"LongNames$Part", "set", "(II)V"⟩, 1), (⟨"LongNames$Part", "get", "(I)I"⟩, 1), (⟨"LongNames$ShortName", "blanksOnlyEnd", "(II)Z"⟩, 1), (⟨"LongNames$ShortName", "showBytes", "(LLongNames$Row;II)V"⟩, 1), (⟨"LongNames", "readParts", "(LLongNames$Row;II)Z"⟩, 5), (⟨"LongNames", "collectUnits", "(LLongNames$Row;II)V"⟩, 5), (⟨"LongNamesModel", "isName", "(I)Z"⟩, 5), (⟨"LongNamesModel", "at", "(II)I"⟩, 5), (⟨"LongNamesModel", "isShown", "(I)Z"⟩, 5)]
theorem lw_r1 : ∀ q ∈ lw_privs_1, lw_okq q := List.forall_mem_cons.mpr ⟨lw_p0, List.forall_mem_cons.mpr ⟨lw_p1, List.forall_mem_cons.mpr ⟨lw_p2, List.forall_mem_cons.mpr ⟨lw_p3, List.forall_mem_cons.mpr ⟨lw_p4, List.forall_mem_cons.mpr ⟨lw_p5, List.forall_mem_cons.mpr ⟨lw_p6, List.forall_mem_cons.mpr ⟨lw_p7, List.forall_mem_cons.mpr ⟨lw_p8, List.forall_mem_cons.mpr ⟨lw_p9, List.forall_mem_cons.mpr ⟨lw_p10, List.forall_mem_cons.mpr ⟨lw_p11, List.forall_mem_cons.mpr ⟨lw_p12, List.forall_mem_cons.mpr ⟨lw_p13, List.forall_mem_cons.mpr ⟨lw_p14, List.forall_mem_cons.mpr ⟨lw_p15, fun _ h => absurd h List.not_mem_nil⟩⟩⟩⟩⟩⟩⟩⟩⟩⟩⟩⟩⟩⟩⟩⟩
theorem lw_p16 : lw_okq (⟨"LongNamesModel", "pointOf", "(I)I"⟩, 5) := ⟨⟨by decide +kernel, by decide +kernel⟩, List.mem_of_getElem? (i := 494) (by decide +kernel), List.mem_of_getElem? (i := 554) (by decide +kernel), List.mem_of_getElem? (i := 555) (by decide +kernel)⟩
theorem lw_p17 : lw_okq (⟨"LongNamesModel", "tailed", "(II)V"⟩, 5) := ⟨⟨by decide +kernel, by decide +kernel⟩, List.mem_of_getElem? (i := 494) (by decide +kernel), List.mem_of_getElem? (i := 582) (by decide +kernel), List.mem_of_getElem? (i := 583) (by decide +kernel)⟩
theorem lw_p18 : lw_okq (⟨"LongNamesModel", "sumOf", "(I)I"⟩, 5) := ⟨⟨by decide +kernel, by decide +kernel⟩, List.mem_of_getElem? (i := 494) (by decide +kernel), List.mem_of_getElem? (i := 589) (by decide +kernel), List.mem_of_getElem? (i := 590) (by decide +kernel)⟩
theorem lw_p19 : lw_okq (⟨"LongNamesModel", "isShort", "(I)Z"⟩, 5) := ⟨⟨by decide +kernel, by decide +kernel⟩, List.mem_of_getElem? (i := 494) (by decide +kernel), List.mem_of_getElem? (i := 603) (by decide +kernel), List.mem_of_getElem? (i := 604) (by decide +kernel)⟩
theorem lw_p20 : lw_okq (⟨"LongNamesModel", "readShown", "(II)V"⟩, 5) := ⟨⟨by decide +kernel, by decide +kernel⟩, List.mem_of_getElem? (i := 494) (by decide +kernel), List.mem_of_getElem? (i := 607) (by decide +kernel), List.mem_of_getElem? (i := 608) (by decide +kernel)⟩
theorem lw_p21 : lw_okq (⟨"LongNamesModel", "add", "(II)V"⟩, 5) := ⟨⟨by decide +kernel, by decide +kernel⟩, List.mem_of_getElem? (i := 494) (by decide +kernel), List.mem_of_getElem? (i := 611) (by decide +kernel), List.mem_of_getElem? (i := 612) (by decide +kernel)⟩
theorem lw_p22 : lw_okq (⟨"LongNamesModel", "readParts", "(III)Z"⟩, 5) := ⟨⟨by decide +kernel, by decide +kernel⟩, List.mem_of_getElem? (i := 494) (by decide +kernel), List.mem_of_getElem? (i := 615) (by decide +kernel), List.mem_of_getElem? (i := 616) (by decide +kernel)⟩
def lw_privs_2 : List (MethodName × Nat) := [(⟨"LongNamesModel", "pointOf", "(I)I"⟩, 5), (⟨"LongNamesModel", "tailed", "(II)V"⟩, 5), (⟨"LongNamesModel", "sumOf", "(I)I"⟩, 5), (⟨"LongNamesModel", "isShort", "(I)Z"⟩, 5), (⟨"LongNamesModel", "readShown", "(II)V"⟩, 5), (⟨"LongNamesModel", "add", "(II)V"⟩, 5), (⟨"LongNamesModel", "readParts", "(III)Z"⟩, 5)]
theorem lw_r2 : ∀ q ∈ lw_privs_2, lw_okq q := List.forall_mem_cons.mpr ⟨lw_p16, List.forall_mem_cons.mpr ⟨lw_p17, List.forall_mem_cons.mpr ⟨lw_p18, List.forall_mem_cons.mpr ⟨lw_p19, List.forall_mem_cons.mpr ⟨lw_p20, List.forall_mem_cons.mpr ⟨lw_p21, List.forall_mem_cons.mpr ⟨lw_p22, fun _ h => absurd h List.not_mem_nil⟩⟩⟩⟩⟩⟩⟩
def lw_privs : List (MethodName × Nat) := lw_privs_1 ++ (lw_privs_2)
def lw_tbl : List Cond := k2_sels lw_privs ++ tables_1
theorem lw_privs_ok : ∀ q ∈ lw_privs, lw_okq q := by
  show ∀ q ∈ lw_privs_1 ++ (lw_privs_2), lw_okq q
  exact List.forall_mem_append.mpr ⟨lw_r1, lw_r2⟩
/-! names: the words of the tables that every method may use -/
def BIG : List Cond := lw_tbl.filter goodWord
theorem bigT {w : Cond} {i : Nat} (h : lw_tbl[i]? = some w) (hg : goodWord w = true) : w ∈ BIG := List.mem_filter.mpr ⟨List.mem_of_getElem? h, hg⟩
theorem big_good (w : Cond) (h : w ∈ BIG) : goodWord w = true := (List.mem_filter.mp h).2
def F_LN : u_T := fun k => match k with
  | 0 => ("LongNames", "first", "LLongNames$Row;", true)
  | 1 => ("LongNames", "second", "LLongNames$Row;", true)
  | 2 => ("LongNames", "shortName", "LLongNames$ShortName;", true)
  | 3 => ("LongNames", "part", "LLongNames$Part;", true)
  | _ => ("LongNames", "slots", "LLongNames$Slots;", true)
def t_LN : Nat → FieldType := fun k => match k with
  | 0 => .object "LongNames$Row"
  | 1 => .object "LongNames$Row"
  | 2 => .object "LongNames$ShortName"
  | 3 => .object "LongNames$Part"
  | _ => .object "LongNames$Slots"
theorem n_LN : ∀ a, a < 5 → ∀ b, b < 5 → a ≠ b → (F_LN a).2.1 ≠ (F_LN b).2.1 := by decide +kernel
theorem t_LN_ok : ∀ k, k < 5 → parseFieldDescriptor (F_LN k).2.2.1 = some (t_LN k) := by decide +kernel
theorem iB_LN : ∀ w ∈ u_ws "LongNames" F_LN 5, w ∈ BIG := by decide +kernel
theorem iw_LN (z : Cond) : ∀ w ∈ u_ws "LongNames" F_LN 5, w ∈ z :: BIG := fun w h => List.mem_cons_of_mem _ (iB_LN w h)
def F_Ro : u_T := fun k => match k with
  | 0 => ("LongNames$Row", "units", "[I", true)
  | _ => ("LongNames$Row", "count", "I", false)
def t_Ro : Nat → FieldType := fun k => match k with
  | 0 => .array .int
  | _ => .int
theorem n_Ro : ∀ a, a < 2 → ∀ b, b < 2 → a ≠ b → (F_Ro a).2.1 ≠ (F_Ro b).2.1 := by decide +kernel
theorem t_Ro_ok : ∀ k, k < 2 → parseFieldDescriptor (F_Ro k).2.2.1 = some (t_Ro k) := by decide +kernel
theorem iB_Ro : ∀ w ∈ u_ws "LongNames$Row" F_Ro 2, w ∈ BIG := by decide +kernel
theorem iw_Ro (z : Cond) : ∀ w ∈ u_ws "LongNames$Row" F_Ro 2, w ∈ z :: BIG := fun w h => List.mem_cons_of_mem _ (iB_Ro w h)
def F_Sn : u_T := fun k => match k with
  | _ => ("LongNames$ShortName", "bytes", "[I", true)
def t_Sn : Nat → FieldType := fun k => match k with
  | _ => .array .int
theorem n_Sn : ∀ a, a < 1 → ∀ b, b < 1 → a ≠ b → (F_Sn a).2.1 ≠ (F_Sn b).2.1 := by decide +kernel
theorem t_Sn_ok : ∀ k, k < 1 → parseFieldDescriptor (F_Sn k).2.2.1 = some (t_Sn k) := by decide +kernel
theorem iB_Sn : ∀ w ∈ u_ws "LongNames$ShortName" F_Sn 1, w ∈ BIG := by decide +kernel
theorem iw_Sn (z : Cond) : ∀ w ∈ u_ws "LongNames$ShortName" F_Sn 1, w ∈ z :: BIG := fun w h => List.mem_cons_of_mem _ (iB_Sn w h)
def F_Pt : u_T := fun k => match k with
  | _ => ("LongNames$Part", "bytes", "[I", true)
def t_Pt : Nat → FieldType := fun k => match k with
  | _ => .array .int
theorem n_Pt : ∀ a, a < 1 → ∀ b, b < 1 → a ≠ b → (F_Pt a).2.1 ≠ (F_Pt b).2.1 := by decide +kernel
theorem t_Pt_ok : ∀ k, k < 1 → parseFieldDescriptor (F_Pt k).2.2.1 = some (t_Pt k) := by decide +kernel
theorem iB_Pt : ∀ w ∈ u_ws "LongNames$Part" F_Pt 1, w ∈ BIG := by decide +kernel
theorem iw_Pt (z : Cond) : ∀ w ∈ u_ws "LongNames$Part" F_Pt 1, w ∈ z :: BIG := fun w h => List.mem_cons_of_mem _ (iB_Pt w h)
def F_Sl : u_T := fun k => match k with
  | _ => ("LongNames$Slots", "bytes", "[I", true)
def t_Sl : Nat → FieldType := fun k => match k with
  | _ => .array .int
theorem n_Sl : ∀ a, a < 1 → ∀ b, b < 1 → a ≠ b → (F_Sl a).2.1 ≠ (F_Sl b).2.1 := by decide +kernel
theorem t_Sl_ok : ∀ k, k < 1 → parseFieldDescriptor (F_Sl k).2.2.1 = some (t_Sl k) := by decide +kernel
theorem iB_Sl : ∀ w ∈ u_ws "LongNames$Slots" F_Sl 1, w ∈ BIG := by decide +kernel
theorem iw_Sl (z : Cond) : ∀ w ∈ u_ws "LongNames$Slots" F_Sl 1, w ∈ z :: BIG := fun w h => List.mem_cons_of_mem _ (iB_Sl w h)
def F_Mo : u_T := fun k => match k with
  | 0 => ("LongNamesModel", "thrown", "I", false)
  | 1 => ("LongNamesModel", "units", "[I", true)
  | 2 => ("LongNamesModel", "sizes", "[I", true)
  | 3 => ("LongNamesModel", "bytes", "[I", true)
  | _ => ("LongNamesModel", "brief", "[I", true)
def t_Mo : Nat → FieldType := fun k => match k with
  | 0 => .int
  | 1 => .array .int
  | 2 => .array .int
  | 3 => .array .int
  | _ => .array .int
theorem n_Mo : ∀ a, a < 5 → ∀ b, b < 5 → a ≠ b → (F_Mo a).2.1 ≠ (F_Mo b).2.1 := by decide +kernel
theorem t_Mo_ok : ∀ k, k < 5 → parseFieldDescriptor (F_Mo k).2.2.1 = some (t_Mo k) := by decide +kernel
theorem iB_Mo : ∀ w ∈ u_ws "LongNamesModel" F_Mo 5, w ∈ BIG := by decide +kernel
theorem iw_Mo (z : Cond) : ∀ w ∈ u_ws "LongNamesModel" F_Mo 5, w ∈ z :: BIG := fun w h => List.mem_cons_of_mem _ (iB_Mo w h)
abbrev vwCl : List vw_C := [("LongNames", F_LN, 5), ("LongNames$Row", F_Ro, 2), ("LongNames$ShortName", F_Sn, 1), ("LongNames$Part", F_Pt, 1), ("LongNames$Slots", F_Sl, 1), ("LongNamesModel", F_Mo, 5)]
end
section
theorem k_0 : .selects "LongNames" ⟨"LongNames", "rowOf", "(I)LLongNames$Row;"⟩ ⟨"LongNames", "rowOf", "(I)LLongNames$Row;"⟩ ∈ BIG := bigT (i := 0) (by decide +kernel) (by decide +kernel)
theorem k_1 : .selects "java/lang/Throwable" ⟨"java/lang/Throwable", "fillInStackTrace", "(I)Ljava/lang/Throwable;"⟩ ⟨"java/lang/Throwable", "fillInStackTrace", "(I)Ljava/lang/Throwable;"⟩ ∈ BIG := bigT (i := 1) (by decide +kernel) (by decide +kernel)
theorem k_2 : .selects "LongNames$ShortName" ⟨"LongNames$ShortName", "shorten", "(LLongNames$Row;IIII)I"⟩ ⟨"LongNames$ShortName", "shorten", "(LLongNames$Row;IIII)I"⟩ ∈ BIG := bigT (i := 2) (by decide +kernel) (by decide +kernel)
theorem k_3 : .selects "LongNames$ShortName" ⟨"LongNames$ShortName", "set", "(II)V"⟩ ⟨"LongNames$ShortName", "set", "(II)V"⟩ ∈ BIG := bigT (i := 3) (by decide +kernel) (by decide +kernel)
theorem k_4 : .selects "LongNames$ShortName" ⟨"LongNames$ShortName", "setNumber", "(III)V"⟩ ⟨"LongNames$ShortName", "setNumber", "(III)V"⟩ ∈ BIG := bigT (i := 4) (by decide +kernel) (by decide +kernel)
theorem k_5 : .selects "LongNames" ⟨"LongNames", "writeSlots", "(LLongNames$Row;II)V"⟩ ⟨"LongNames", "writeSlots", "(LLongNames$Row;II)V"⟩ ∈ BIG := bigT (i := 5) (by decide +kernel) (by decide +kernel)
theorem k_6 : .selects "LongNames$ShortName" ⟨"LongNames$ShortName", "get", "(I)I"⟩ ⟨"LongNames$ShortName", "get", "(I)I"⟩ ∈ BIG := bigT (i := 6) (by decide +kernel) (by decide +kernel)
theorem k_7 : .selects "LongNames$Part" ⟨"LongNames$Part", "set", "(II)V"⟩ ⟨"LongNames$Part", "set", "(II)V"⟩ ∈ BIG := bigT (i := 7) (by decide +kernel) (by decide +kernel)
theorem k_8 : .selects "LongNames$Part" ⟨"LongNames$Part", "get", "(I)I"⟩ ⟨"LongNames$Part", "get", "(I)I"⟩ ∈ BIG := bigT (i := 8) (by decide +kernel) (by decide +kernel)
theorem k_9 : .selects "LongNames$ShortName" ⟨"LongNames$ShortName", "blanksOnlyEnd", "(II)Z"⟩ ⟨"LongNames$ShortName", "blanksOnlyEnd", "(II)Z"⟩ ∈ BIG := bigT (i := 9) (by decide +kernel) (by decide +kernel)
theorem k_10 : .selects "LongNames$ShortName" ⟨"LongNames$ShortName", "showBytes", "(LLongNames$Row;II)V"⟩ ⟨"LongNames$ShortName", "showBytes", "(LLongNames$Row;II)V"⟩ ∈ BIG := bigT (i := 10) (by decide +kernel) (by decide +kernel)
theorem k_11 : .selects "LongNames" ⟨"LongNames", "readParts", "(LLongNames$Row;II)Z"⟩ ⟨"LongNames", "readParts", "(LLongNames$Row;II)Z"⟩ ∈ BIG := bigT (i := 11) (by decide +kernel) (by decide +kernel)
theorem k_12 : .selects "LongNames" ⟨"LongNames", "collectUnits", "(LLongNames$Row;II)V"⟩ ⟨"LongNames", "collectUnits", "(LLongNames$Row;II)V"⟩ ∈ BIG := bigT (i := 12) (by decide +kernel) (by decide +kernel)
theorem k_13 : .selects "LongNamesModel" ⟨"LongNamesModel", "isName", "(I)Z"⟩ ⟨"LongNamesModel", "isName", "(I)Z"⟩ ∈ BIG := bigT (i := 13) (by decide +kernel) (by decide +kernel)
theorem k_14 : .selects "LongNamesModel" ⟨"LongNamesModel", "at", "(II)I"⟩ ⟨"LongNamesModel", "at", "(II)I"⟩ ∈ BIG := bigT (i := 14) (by decide +kernel) (by decide +kernel)
theorem k_15 : .selects "LongNamesModel" ⟨"LongNamesModel", "isShown", "(I)Z"⟩ ⟨"LongNamesModel", "isShown", "(I)Z"⟩ ∈ BIG := bigT (i := 15) (by decide +kernel) (by decide +kernel)
theorem k_16 : .selects "LongNamesModel" ⟨"LongNamesModel", "pointOf", "(I)I"⟩ ⟨"LongNamesModel", "pointOf", "(I)I"⟩ ∈ BIG := bigT (i := 16) (by decide +kernel) (by decide +kernel)
theorem k_17 : .selects "LongNamesModel" ⟨"LongNamesModel", "tailed", "(II)V"⟩ ⟨"LongNamesModel", "tailed", "(II)V"⟩ ∈ BIG := bigT (i := 17) (by decide +kernel) (by decide +kernel)
theorem k_18 : .selects "LongNamesModel" ⟨"LongNamesModel", "sumOf", "(I)I"⟩ ⟨"LongNamesModel", "sumOf", "(I)I"⟩ ∈ BIG := bigT (i := 18) (by decide +kernel) (by decide +kernel)
theorem k_19 : .selects "LongNamesModel" ⟨"LongNamesModel", "isShort", "(I)Z"⟩ ⟨"LongNamesModel", "isShort", "(I)Z"⟩ ∈ BIG := bigT (i := 19) (by decide +kernel) (by decide +kernel)
theorem k_20 : .selects "LongNamesModel" ⟨"LongNamesModel", "readShown", "(II)V"⟩ ⟨"LongNamesModel", "readShown", "(II)V"⟩ ∈ BIG := bigT (i := 20) (by decide +kernel) (by decide +kernel)
theorem k_21 : .selects "LongNamesModel" ⟨"LongNamesModel", "add", "(II)V"⟩ ⟨"LongNamesModel", "add", "(II)V"⟩ ∈ BIG := bigT (i := 21) (by decide +kernel) (by decide +kernel)
theorem k_22 : .selects "LongNamesModel" ⟨"LongNamesModel", "readParts", "(III)Z"⟩ ⟨"LongNamesModel", "readParts", "(III)Z"⟩ ∈ BIG := bigT (i := 22) (by decide +kernel) (by decide +kernel)
theorem k_23 : .initialized "LongNamesLaw" ∈ BIG := bigT (i := 23) (by decide +kernel) (by decide +kernel)
theorem k_24 : .initialized "LongNames" ∈ BIG := bigT (i := 24) (by decide +kernel) (by decide +kernel)
theorem k_25 : .initialized "LongNames$Row" ∈ BIG := bigT (i := 25) (by decide +kernel) (by decide +kernel)
theorem k_26 : .initialized "LongNames$ShortName" ∈ BIG := bigT (i := 26) (by decide +kernel) (by decide +kernel)
theorem k_27 : .initialized "LongNames$Part" ∈ BIG := bigT (i := 27) (by decide +kernel) (by decide +kernel)
theorem k_28 : .initialized "LongNames$Slots" ∈ BIG := bigT (i := 28) (by decide +kernel) (by decide +kernel)
theorem k_29 : .initialized "LongNamesModel" ∈ BIG := bigT (i := 29) (by decide +kernel) (by decide +kernel)
theorem k_30 : .initialized "LongNames$Units" ∈ BIG := bigT (i := 30) (by decide +kernel) (by decide +kernel)
theorem k_31 : .initialized "java/lang/Throwable" ∈ BIG := bigT (i := 31) (by decide +kernel) (by decide +kernel)
theorem k_32 : .initialized "java/lang/Exception" ∈ BIG := bigT (i := 32) (by decide +kernel) (by decide +kernel)
theorem k_33 : .initialized "java/lang/RuntimeException" ∈ BIG := bigT (i := 33) (by decide +kernel) (by decide +kernel)
theorem k_34 : .initialized "java/lang/IllegalArgumentException" ∈ BIG := bigT (i := 34) (by decide +kernel) (by decide +kernel)
theorem k_35 : .initialized "java/lang/IndexOutOfBoundsException" ∈ BIG := bigT (i := 35) (by decide +kernel) (by decide +kernel)
theorem k_36 : .initialized "java/util/Arrays" ∈ BIG := bigT (i := 36) (by decide +kernel) (by decide +kernel)
theorem k_37 : .initialized "java/lang/IllegalStateException" ∈ BIG := bigT (i := 37) (by decide +kernel) (by decide +kernel)
theorem k_38 : .initialized "LongNames$Days" ∈ BIG := bigT (i := 38) (by decide +kernel) (by decide +kernel)
theorem k_39 : .classLink "LongNamesLaw" 8 "LongNames" ∈ BIG := bigT (i := 39) (by decide +kernel) (by decide +kernel)
theorem k_40 : .instantiable "LongNames" 5 ∈ BIG := bigT (i := 40) (by decide +kernel) (by decide +kernel)
theorem k_41 : .methodLink "LongNamesLaw" 22 ⟨"LongNames", "<init>", "()V"⟩ ∈ BIG := bigT (i := 41) (by decide +kernel) (by decide +kernel)
theorem k_42 : .instanceMethod ⟨"LongNames", "<init>", "()V"⟩ ∈ BIG := bigT (i := 42) (by decide +kernel) (by decide +kernel)
theorem k_43 : .code ⟨"LongNames", "<init>", "()V"⟩ prog_1_method_1_code 1 none ∈ BIG := bigT (i := 43) (by decide +kernel) (by decide +kernel)
theorem k_44 : .methodLink "LongNames" 1 ⟨"java/lang/Object", "<init>", "()V"⟩ ∈ BIG := bigT (i := 44) (by decide +kernel) (by decide +kernel)
theorem k_45 : .instanceMethod ⟨"java/lang/Object", "<init>", "()V"⟩ ∈ BIG := bigT (i := 45) (by decide +kernel) (by decide +kernel)
theorem k_46 : .code ⟨"java/lang/Object", "<init>", "()V"⟩ object_method_1_code 1 none ∈ BIG := bigT (i := 46) (by decide +kernel) (by decide +kernel)
theorem k_47 : .classLink "LongNames" 7 "LongNames$Row" ∈ BIG := bigT (i := 47) (by decide +kernel) (by decide +kernel)
theorem k_48 : .instantiable "LongNames$Row" 2 ∈ BIG := bigT (i := 48) (by decide +kernel) (by decide +kernel)
theorem k_50 : .instanceMethod ⟨"LongNames$Row", "<init>", "()V"⟩ ∈ BIG := bigT (i := 50) (by decide +kernel) (by decide +kernel)
theorem k_51 : .code ⟨"LongNames$Row", "<init>", "()V"⟩ prog_4_method_1_code 1 none ∈ BIG := bigT (i := 51) (by decide +kernel) (by decide +kernel)
theorem k_52 : .methodLink "LongNames$Row" 3 ⟨"java/lang/Object", "<init>", "()V"⟩ ∈ BIG := bigT (i := 52) (by decide +kernel) (by decide +kernel)
theorem k_53 : .fieldLink "LongNames$Row" 11 "LongNames$Row" "units" "[I" ∈ BIG := bigT (i := 53) (by decide +kernel) (by decide +kernel)
theorem k_54 : .fieldLink "LongNames$Row" 15 "LongNames$Row" "count" "I" ∈ BIG := bigT (i := 54) (by decide +kernel) (by decide +kernel)
theorem k_55 : .laysFinal "LongNames$Row" "LongNames$Row" "units" "[I" ∈ BIG := bigT (i := 55) (by decide +kernel) (by decide +kernel)
theorem k_57 : .lays "LongNames$Row" "LongNames$Row" "count" "I" ∈ BIG := bigT (i := 57) (by decide +kernel) (by decide +kernel)
theorem k_59 : .superclass "LongNames$Row" "java/lang/Object" ∈ BIG := bigT (i := 59) (by decide +kernel) (by decide +kernel)
theorem k_60 : .arrayClass .int ∈ BIG := bigT (i := 60) (by decide +kernel) (by decide +kernel)
theorem k_61 : .classLink "LongNames" 19 "LongNames$ShortName" ∈ BIG := bigT (i := 61) (by decide +kernel) (by decide +kernel)
theorem k_62 : .instantiable "LongNames$ShortName" 1 ∈ BIG := bigT (i := 62) (by decide +kernel) (by decide +kernel)
theorem k_64 : .instanceMethod ⟨"LongNames$ShortName", "<init>", "()V"⟩ ∈ BIG := bigT (i := 64) (by decide +kernel) (by decide +kernel)
theorem k_65 : .code ⟨"LongNames$ShortName", "<init>", "()V"⟩ prog_5_method_1_code 1 none ∈ BIG := bigT (i := 65) (by decide +kernel) (by decide +kernel)
theorem k_66 : .methodLink "LongNames$ShortName" 5 ⟨"java/lang/Object", "<init>", "()V"⟩ ∈ BIG := bigT (i := 66) (by decide +kernel) (by decide +kernel)
theorem k_67 : .fieldLink "LongNames$ShortName" 11 "LongNames$ShortName" "bytes" "[I" ∈ BIG := bigT (i := 67) (by decide +kernel) (by decide +kernel)
theorem k_68 : .laysFinal "LongNames$ShortName" "LongNames$ShortName" "bytes" "[I" ∈ BIG := bigT (i := 68) (by decide +kernel) (by decide +kernel)
theorem k_70 : .superclass "LongNames$ShortName" "java/lang/Object" ∈ BIG := bigT (i := 70) (by decide +kernel) (by decide +kernel)
theorem k_71 : .classLink "LongNames" 26 "LongNames$Part" ∈ BIG := bigT (i := 71) (by decide +kernel) (by decide +kernel)
theorem k_72 : .instantiable "LongNames$Part" 1 ∈ BIG := bigT (i := 72) (by decide +kernel) (by decide +kernel)
theorem k_74 : .instanceMethod ⟨"LongNames$Part", "<init>", "()V"⟩ ∈ BIG := bigT (i := 74) (by decide +kernel) (by decide +kernel)
theorem k_75 : .code ⟨"LongNames$Part", "<init>", "()V"⟩ prog_3_method_1_code 1 none ∈ BIG := bigT (i := 75) (by decide +kernel) (by decide +kernel)
theorem k_76 : .methodLink "LongNames$Part" 3 ⟨"java/lang/Object", "<init>", "()V"⟩ ∈ BIG := bigT (i := 76) (by decide +kernel) (by decide +kernel)
theorem k_77 : .fieldLink "LongNames$Part" 11 "LongNames$Part" "bytes" "[I" ∈ BIG := bigT (i := 77) (by decide +kernel) (by decide +kernel)
theorem k_78 : .laysFinal "LongNames$Part" "LongNames$Part" "bytes" "[I" ∈ BIG := bigT (i := 78) (by decide +kernel) (by decide +kernel)
theorem k_80 : .superclass "LongNames$Part" "java/lang/Object" ∈ BIG := bigT (i := 80) (by decide +kernel) (by decide +kernel)
theorem k_81 : .classLink "LongNames" 33 "LongNames$Slots" ∈ BIG := bigT (i := 81) (by decide +kernel) (by decide +kernel)
theorem k_82 : .instantiable "LongNames$Slots" 1 ∈ BIG := bigT (i := 82) (by decide +kernel) (by decide +kernel)
theorem k_84 : .instanceMethod ⟨"LongNames$Slots", "<init>", "()V"⟩ ∈ BIG := bigT (i := 84) (by decide +kernel) (by decide +kernel)
theorem k_85 : .code ⟨"LongNames$Slots", "<init>", "()V"⟩ prog_6_method_1_code 1 none ∈ BIG := bigT (i := 85) (by decide +kernel) (by decide +kernel)
theorem k_86 : .methodLink "LongNames$Slots" 3 ⟨"java/lang/Object", "<init>", "()V"⟩ ∈ BIG := bigT (i := 86) (by decide +kernel) (by decide +kernel)
theorem k_87 : .fieldLink "LongNames$Slots" 11 "LongNames$Slots" "bytes" "[I" ∈ BIG := bigT (i := 87) (by decide +kernel) (by decide +kernel)
theorem k_88 : .laysFinal "LongNames$Slots" "LongNames$Slots" "bytes" "[I" ∈ BIG := bigT (i := 88) (by decide +kernel) (by decide +kernel)
theorem k_90 : .superclass "LongNames$Slots" "java/lang/Object" ∈ BIG := bigT (i := 90) (by decide +kernel) (by decide +kernel)
theorem k_91 : .fieldLink "LongNames" 10 "LongNames" "first" "LLongNames$Row;" ∈ BIG := bigT (i := 91) (by decide +kernel) (by decide +kernel)
theorem k_92 : .fieldLink "LongNames" 16 "LongNames" "second" "LLongNames$Row;" ∈ BIG := bigT (i := 92) (by decide +kernel) (by decide +kernel)
theorem k_93 : .fieldLink "LongNames" 22 "LongNames" "shortName" "LLongNames$ShortName;" ∈ BIG := bigT (i := 93) (by decide +kernel) (by decide +kernel)
theorem k_94 : .fieldLink "LongNames" 29 "LongNames" "part" "LLongNames$Part;" ∈ BIG := bigT (i := 94) (by decide +kernel) (by decide +kernel)
theorem k_95 : .fieldLink "LongNames" 36 "LongNames" "slots" "LLongNames$Slots;" ∈ BIG := bigT (i := 95) (by decide +kernel) (by decide +kernel)
theorem k_96 : .laysFinal "LongNames" "LongNames" "first" "LLongNames$Row;" ∈ BIG := bigT (i := 96) (by decide +kernel) (by decide +kernel)
theorem k_98 : .laysFinal "LongNames" "LongNames" "second" "LLongNames$Row;" ∈ BIG := bigT (i := 98) (by decide +kernel) (by decide +kernel)
theorem k_100 : .laysFinal "LongNames" "LongNames" "shortName" "LLongNames$ShortName;" ∈ BIG := bigT (i := 100) (by decide +kernel) (by decide +kernel)
theorem k_102 : .laysFinal "LongNames" "LongNames" "part" "LLongNames$Part;" ∈ BIG := bigT (i := 102) (by decide +kernel) (by decide +kernel)
theorem k_104 : .laysFinal "LongNames" "LongNames" "slots" "LLongNames$Slots;" ∈ BIG := bigT (i := 104) (by decide +kernel) (by decide +kernel)
theorem k_106 : .superclass "LongNames" "java/lang/Object" ∈ BIG := bigT (i := 106) (by decide +kernel) (by decide +kernel)
theorem k_107 : .methodLink "LongNamesLaw" 26 ⟨"LongNames", "unit", "(II)Z"⟩ ∈ BIG := bigT (i := 107) (by decide +kernel) (by decide +kernel)
theorem k_108 : .instanceMethod ⟨"LongNames", "unit", "(II)Z"⟩ ∈ BIG := bigT (i := 108) (by decide +kernel) (by decide +kernel)
theorem k_109 : .selects "LongNames" ⟨"LongNames", "unit", "(II)Z"⟩ ⟨"LongNames", "unit", "(II)Z"⟩ ∈ BIG := bigT (i := 109) (by decide +kernel) (by decide +kernel)
theorem k_110 : .code ⟨"LongNames", "unit", "(II)Z"⟩ prog_1_method_2_code 4 (some .boolean) ∈ BIG := bigT (i := 110) (by decide +kernel) (by decide +kernel)
theorem k_111 : .methodLink "LongNames" 40 ⟨"LongNames", "rowOf", "(I)LLongNames$Row;"⟩ ∈ BIG := bigT (i := 111) (by decide +kernel) (by decide +kernel)
theorem k_113 : .instanceMethod ⟨"LongNames", "rowOf", "(I)LLongNames$Row;"⟩ ∈ BIG := bigT (i := 113) (by decide +kernel) (by decide +kernel)
theorem k_114 : .code ⟨"LongNames", "rowOf", "(I)LLongNames$Row;"⟩ prog_1_method_13_code 2 (some (.object "LongNames$Row")) ∈ BIG := bigT (i := 114) (by decide +kernel) (by decide +kernel)
theorem k_115 : .constant "LongNames" 44 65535 ∈ BIG := bigT (i := 115) (by decide +kernel) (by decide +kernel)
theorem k_116 : .methodLink "LongNames" 45 ⟨"LongNames$Row", "append", "(I)Z"⟩ ∈ BIG := bigT (i := 116) (by decide +kernel) (by decide +kernel)
theorem k_117 : .instanceMethod ⟨"LongNames$Row", "append", "(I)Z"⟩ ∈ BIG := bigT (i := 117) (by decide +kernel) (by decide +kernel)
theorem k_118 : .selects "LongNames$Row" ⟨"LongNames$Row", "append", "(I)Z"⟩ ⟨"LongNames$Row", "append", "(I)Z"⟩ ∈ BIG := bigT (i := 118) (by decide +kernel) (by decide +kernel)
theorem k_119 : .code ⟨"LongNames$Row", "append", "(I)Z"⟩ prog_4_method_4_code 2 (some .boolean) ∈ BIG := bigT (i := 119) (by decide +kernel) (by decide +kernel)
theorem k_120 : .methodLink "LongNamesLaw" 31 ⟨"LongNames", "clear", "(I)I"⟩ ∈ BIG := bigT (i := 120) (by decide +kernel) (by decide +kernel)
theorem k_121 : .instanceMethod ⟨"LongNames", "clear", "(I)I"⟩ ∈ BIG := bigT (i := 121) (by decide +kernel) (by decide +kernel)
theorem k_122 : .selects "LongNames" ⟨"LongNames", "clear", "(I)I"⟩ ⟨"LongNames", "clear", "(I)I"⟩ ∈ BIG := bigT (i := 122) (by decide +kernel) (by decide +kernel)
theorem k_123 : .code ⟨"LongNames", "clear", "(I)I"⟩ prog_1_method_3_code 4 (some .int) ∈ BIG := bigT (i := 123) (by decide +kernel) (by decide +kernel)
theorem k_124 : .methodLink "LongNames" 49 ⟨"LongNames$Row", "size", "()I"⟩ ∈ BIG := bigT (i := 124) (by decide +kernel) (by decide +kernel)
theorem k_125 : .instanceMethod ⟨"LongNames$Row", "size", "()I"⟩ ∈ BIG := bigT (i := 125) (by decide +kernel) (by decide +kernel)
theorem k_126 : .selects "LongNames$Row" ⟨"LongNames$Row", "size", "()I"⟩ ⟨"LongNames$Row", "size", "()I"⟩ ∈ BIG := bigT (i := 126) (by decide +kernel) (by decide +kernel)
theorem k_127 : .code ⟨"LongNames$Row", "size", "()I"⟩ prog_4_method_2_code 1 (some .int) ∈ BIG := bigT (i := 127) (by decide +kernel) (by decide +kernel)
theorem k_128 : .methodLink "LongNames" 53 ⟨"LongNames$Row", "makeEmpty", "()V"⟩ ∈ BIG := bigT (i := 128) (by decide +kernel) (by decide +kernel)
theorem k_129 : .instanceMethod ⟨"LongNames$Row", "makeEmpty", "()V"⟩ ∈ BIG := bigT (i := 129) (by decide +kernel) (by decide +kernel)
theorem k_130 : .selects "LongNames$Row" ⟨"LongNames$Row", "makeEmpty", "()V"⟩ ⟨"LongNames$Row", "makeEmpty", "()V"⟩ ∈ BIG := bigT (i := 130) (by decide +kernel) (by decide +kernel)
theorem k_131 : .code ⟨"LongNames$Row", "makeEmpty", "()V"⟩ prog_4_method_3_code 1 none ∈ BIG := bigT (i := 131) (by decide +kernel) (by decide +kernel)
theorem k_132 : .methodLink "LongNamesLaw" 36 ⟨"LongNames", "about", "(II)I"⟩ ∈ BIG := bigT (i := 132) (by decide +kernel) (by decide +kernel)
theorem k_133 : .instanceMethod ⟨"LongNames", "about", "(II)I"⟩ ∈ BIG := bigT (i := 133) (by decide +kernel) (by decide +kernel)
theorem k_134 : .selects "LongNames" ⟨"LongNames", "about", "(II)I"⟩ ⟨"LongNames", "about", "(II)I"⟩ ∈ BIG := bigT (i := 134) (by decide +kernel) (by decide +kernel)
theorem k_135 : .code ⟨"LongNames", "about", "(II)I"⟩ prog_1_method_4_code 4 (some .int) ∈ BIG := bigT (i := 135) (by decide +kernel) (by decide +kernel)
theorem k_136 : .methodLink "LongNames" 56 ⟨"LongNames$Row", "isName", "()Z"⟩ ∈ BIG := bigT (i := 136) (by decide +kernel) (by decide +kernel)
theorem k_137 : .instanceMethod ⟨"LongNames$Row", "isName", "()Z"⟩ ∈ BIG := bigT (i := 137) (by decide +kernel) (by decide +kernel)
theorem k_138 : .selects "LongNames$Row" ⟨"LongNames$Row", "isName", "()Z"⟩ ⟨"LongNames$Row", "isName", "()Z"⟩ ∈ BIG := bigT (i := 138) (by decide +kernel) (by decide +kernel)
theorem k_139 : .code ⟨"LongNames$Row", "isName", "()Z"⟩ prog_4_method_6_code 2 (some .boolean) ∈ BIG := bigT (i := 139) (by decide +kernel) (by decide +kernel)
theorem k_140 : .methodLink "LongNames$Row" 19 ⟨"LongNames$Row", "get", "(I)I"⟩ ∈ BIG := bigT (i := 140) (by decide +kernel) (by decide +kernel)
theorem k_141 : .instanceMethod ⟨"LongNames$Row", "get", "(I)I"⟩ ∈ BIG := bigT (i := 141) (by decide +kernel) (by decide +kernel)
theorem k_142 : .selects "LongNames$Row" ⟨"LongNames$Row", "get", "(I)I"⟩ ⟨"LongNames$Row", "get", "(I)I"⟩ ∈ BIG := bigT (i := 142) (by decide +kernel) (by decide +kernel)
theorem k_143 : .code ⟨"LongNames$Row", "get", "(I)I"⟩ prog_4_method_5_code 2 (some .int) ∈ BIG := bigT (i := 143) (by decide +kernel) (by decide +kernel)
theorem k_144 : .methodLink "LongNames$Row" 23 ⟨"LongNames$Units", "mayStandInName", "(I)Z"⟩ ∈ BIG := bigT (i := 144) (by decide +kernel) (by decide +kernel)
theorem k_145 : .static ⟨"LongNames$Units", "mayStandInName", "(I)Z"⟩ ∈ BIG := bigT (i := 145) (by decide +kernel) (by decide +kernel)
theorem k_146 : .code ⟨"LongNames$Units", "mayStandInName", "(I)Z"⟩ prog_7_method_2_code 1 (some .boolean) ∈ BIG := bigT (i := 146) (by decide +kernel) (by decide +kernel)
theorem k_147 : .constant "LongNames$Units" 7 65533 ∈ BIG := bigT (i := 147) (by decide +kernel) (by decide +kernel)
theorem k_148 : .constant "LongNames$Units" 8 55296 ∈ BIG := bigT (i := 148) (by decide +kernel) (by decide +kernel)
theorem k_149 : .constant "LongNames$Units" 9 57343 ∈ BIG := bigT (i := 149) (by decide +kernel) (by decide +kernel)
theorem k_150 : .methodLink "LongNames" 60 ⟨"LongNames$Row", "isShortAsShown", "()Z"⟩ ∈ BIG := bigT (i := 150) (by decide +kernel) (by decide +kernel)
theorem k_151 : .instanceMethod ⟨"LongNames$Row", "isShortAsShown", "()Z"⟩ ∈ BIG := bigT (i := 151) (by decide +kernel) (by decide +kernel)
theorem k_152 : .selects "LongNames$Row" ⟨"LongNames$Row", "isShortAsShown", "()Z"⟩ ⟨"LongNames$Row", "isShortAsShown", "()Z"⟩ ∈ BIG := bigT (i := 152) (by decide +kernel) (by decide +kernel)
theorem k_153 : .code ⟨"LongNames$Row", "isShortAsShown", "()Z"⟩ prog_4_method_7_code 5 (some .boolean) ∈ BIG := bigT (i := 153) (by decide +kernel) (by decide +kernel)
theorem k_154 : .methodLink "LongNames$Row" 29 ⟨"LongNames$Row", "lastPoint", "()I"⟩ ∈ BIG := bigT (i := 154) (by decide +kernel) (by decide +kernel)
theorem k_155 : .instanceMethod ⟨"LongNames$Row", "lastPoint", "()I"⟩ ∈ BIG := bigT (i := 155) (by decide +kernel) (by decide +kernel)
theorem k_156 : .selects "LongNames$Row" ⟨"LongNames$Row", "lastPoint", "()I"⟩ ⟨"LongNames$Row", "lastPoint", "()I"⟩ ∈ BIG := bigT (i := 156) (by decide +kernel) (by decide +kernel)
theorem k_157 : .code ⟨"LongNames$Row", "lastPoint", "()I"⟩ prog_4_method_8_code 2 (some .int) ∈ BIG := bigT (i := 157) (by decide +kernel) (by decide +kernel)
theorem k_158 : .methodLink "LongNames$Row" 35 ⟨"LongNames$Units", "mayStandInShortName", "(I)Z"⟩ ∈ BIG := bigT (i := 158) (by decide +kernel) (by decide +kernel)
theorem k_159 : .static ⟨"LongNames$Units", "mayStandInShortName", "(I)Z"⟩ ∈ BIG := bigT (i := 159) (by decide +kernel) (by decide +kernel)
theorem k_160 : .code ⟨"LongNames$Units", "mayStandInShortName", "(I)Z"⟩ prog_7_method_3_code 1 (some .boolean) ∈ BIG := bigT (i := 160) (by decide +kernel) (by decide +kernel)
theorem k_161 : .methodLink "LongNames" 63 ⟨"LongNames$Row", "partsNeeded", "()I"⟩ ∈ BIG := bigT (i := 161) (by decide +kernel) (by decide +kernel)
theorem k_162 : .instanceMethod ⟨"LongNames$Row", "partsNeeded", "()I"⟩ ∈ BIG := bigT (i := 162) (by decide +kernel) (by decide +kernel)
theorem k_163 : .selects "LongNames$Row" ⟨"LongNames$Row", "partsNeeded", "()I"⟩ ⟨"LongNames$Row", "partsNeeded", "()I"⟩ ∈ BIG := bigT (i := 163) (by decide +kernel) (by decide +kernel)
theorem k_164 : .code ⟨"LongNames$Row", "partsNeeded", "()I"⟩ prog_4_method_9_code 1 (some .int) ∈ BIG := bigT (i := 164) (by decide +kernel) (by decide +kernel)
theorem k_165 : .methodLink "LongNames" 66 ⟨"LongNames$Row", "encodedSize", "()I"⟩ ∈ BIG := bigT (i := 165) (by decide +kernel) (by decide +kernel)
theorem k_166 : .instanceMethod ⟨"LongNames$Row", "encodedSize", "()I"⟩ ∈ BIG := bigT (i := 166) (by decide +kernel) (by decide +kernel)
theorem k_167 : .selects "LongNames$Row" ⟨"LongNames$Row", "encodedSize", "()I"⟩ ⟨"LongNames$Row", "encodedSize", "()I"⟩ ∈ BIG := bigT (i := 167) (by decide +kernel) (by decide +kernel)
theorem k_168 : .code ⟨"LongNames$Row", "encodedSize", "()I"⟩ prog_4_method_10_code 3 (some .int) ∈ BIG := bigT (i := 168) (by decide +kernel) (by decide +kernel)
theorem k_169 : .methodLink "LongNames$Row" 40 ⟨"LongNames$Units", "encodedWidth", "(I)I"⟩ ∈ BIG := bigT (i := 169) (by decide +kernel) (by decide +kernel)
theorem k_170 : .static ⟨"LongNames$Units", "encodedWidth", "(I)I"⟩ ∈ BIG := bigT (i := 170) (by decide +kernel) (by decide +kernel)
theorem k_171 : .code ⟨"LongNames$Units", "encodedWidth", "(I)I"⟩ prog_7_method_6_code 1 (some .int) ∈ BIG := bigT (i := 171) (by decide +kernel) (by decide +kernel)
theorem k_172 : .methodLink "LongNamesLaw" 41 ⟨"LongNames", "letter", "(II)I"⟩ ∈ BIG := bigT (i := 172) (by decide +kernel) (by decide +kernel)
theorem k_173 : .instanceMethod ⟨"LongNames", "letter", "(II)I"⟩ ∈ BIG := bigT (i := 173) (by decide +kernel) (by decide +kernel)
theorem k_174 : .selects "LongNames" ⟨"LongNames", "letter", "(II)I"⟩ ⟨"LongNames", "letter", "(II)I"⟩ ∈ BIG := bigT (i := 174) (by decide +kernel) (by decide +kernel)
theorem k_175 : .code ⟨"LongNames", "letter", "(II)I"⟩ prog_1_method_5_code 4 (some .int) ∈ BIG := bigT (i := 175) (by decide +kernel) (by decide +kernel)
theorem k_176 : .methodLink "LongNames" 69 ⟨"LongNames$Row", "encodedByte", "(I)I"⟩ ∈ BIG := bigT (i := 176) (by decide +kernel) (by decide +kernel)
theorem k_177 : .instanceMethod ⟨"LongNames$Row", "encodedByte", "(I)I"⟩ ∈ BIG := bigT (i := 177) (by decide +kernel) (by decide +kernel)
theorem k_178 : .selects "LongNames$Row" ⟨"LongNames$Row", "encodedByte", "(I)I"⟩ ⟨"LongNames$Row", "encodedByte", "(I)I"⟩ ∈ BIG := bigT (i := 178) (by decide +kernel) (by decide +kernel)
theorem k_179 : .code ⟨"LongNames$Row", "encodedByte", "(I)I"⟩ prog_4_method_11_code 5 (some .int) ∈ BIG := bigT (i := 179) (by decide +kernel) (by decide +kernel)
theorem k_180 : .methodLink "LongNames$Row" 43 ⟨"LongNames$Units", "encodedByte", "(II)I"⟩ ∈ BIG := bigT (i := 180) (by decide +kernel) (by decide +kernel)
theorem k_181 : .static ⟨"LongNames$Units", "encodedByte", "(II)I"⟩ ∈ BIG := bigT (i := 181) (by decide +kernel) (by decide +kernel)
theorem k_182 : .code ⟨"LongNames$Units", "encodedByte", "(II)I"⟩ prog_7_method_7_code 4 (some .int) ∈ BIG := bigT (i := 182) (by decide +kernel) (by decide +kernel)
theorem k_183 : .methodLink "LongNames$Units" 20 ⟨"LongNames$Units", "encodedWidth", "(I)I"⟩ ∈ BIG := bigT (i := 183) (by decide +kernel) (by decide +kernel)
theorem k_184 : .methodLink "LongNamesLaw" 45 ⟨"LongNames", "alike", "()Z"⟩ ∈ BIG := bigT (i := 184) (by decide +kernel) (by decide +kernel)
theorem k_185 : .instanceMethod ⟨"LongNames", "alike", "()Z"⟩ ∈ BIG := bigT (i := 185) (by decide +kernel) (by decide +kernel)
theorem k_186 : .selects "LongNames" ⟨"LongNames", "alike", "()Z"⟩ ⟨"LongNames", "alike", "()Z"⟩ ∈ BIG := bigT (i := 186) (by decide +kernel) (by decide +kernel)
theorem k_187 : .code ⟨"LongNames", "alike", "()Z"⟩ prog_1_method_6_code 1 (some .boolean) ∈ BIG := bigT (i := 187) (by decide +kernel) (by decide +kernel)
theorem k_188 : .methodLink "LongNames" 73 ⟨"LongNames$Row", "isLike", "(LLongNames$Row;)Z"⟩ ∈ BIG := bigT (i := 188) (by decide +kernel) (by decide +kernel)
theorem k_189 : .instanceMethod ⟨"LongNames$Row", "isLike", "(LLongNames$Row;)Z"⟩ ∈ BIG := bigT (i := 189) (by decide +kernel) (by decide +kernel)
theorem k_190 : .selects "LongNames$Row" ⟨"LongNames$Row", "isLike", "(LLongNames$Row;)Z"⟩ ⟨"LongNames$Row", "isLike", "(LLongNames$Row;)Z"⟩ ∈ BIG := bigT (i := 190) (by decide +kernel) (by decide +kernel)
theorem k_191 : .code ⟨"LongNames$Row", "isLike", "(LLongNames$Row;)Z"⟩ prog_4_method_12_code 3 (some .boolean) ∈ BIG := bigT (i := 191) (by decide +kernel) (by decide +kernel)
theorem k_192 : .methodLink "LongNames$Row" 47 ⟨"LongNames$Units", "capital", "(I)I"⟩ ∈ BIG := bigT (i := 192) (by decide +kernel) (by decide +kernel)
theorem k_193 : .static ⟨"LongNames$Units", "capital", "(I)I"⟩ ∈ BIG := bigT (i := 193) (by decide +kernel) (by decide +kernel)
theorem k_194 : .code ⟨"LongNames$Units", "capital", "(I)I"⟩ prog_7_method_4_code 1 (some .int) ∈ BIG := bigT (i := 194) (by decide +kernel) (by decide +kernel)
theorem k_195 : .methodLink "LongNamesLaw" 63 ⟨"LongNames", "poke", "(III)Z"⟩ ∈ BIG := bigT (i := 195) (by decide +kernel) (by decide +kernel)
theorem k_196 : .instanceMethod ⟨"LongNames", "poke", "(III)Z"⟩ ∈ BIG := bigT (i := 196) (by decide +kernel) (by decide +kernel)
theorem k_197 : .selects "LongNames" ⟨"LongNames", "poke", "(III)Z"⟩ ⟨"LongNames", "poke", "(III)Z"⟩ ∈ BIG := bigT (i := 197) (by decide +kernel) (by decide +kernel)
theorem k_198 : .code ⟨"LongNames", "poke", "(III)Z"⟩ prog_1_method_9_code 4 (some .boolean) ∈ BIG := bigT (i := 198) (by decide +kernel) (by decide +kernel)
theorem k_199 : .methodLink "LongNames" 135 ⟨"LongNames$Slots", "put", "(III)Z"⟩ ∈ BIG := bigT (i := 199) (by decide +kernel) (by decide +kernel)
theorem k_200 : .instanceMethod ⟨"LongNames$Slots", "put", "(III)Z"⟩ ∈ BIG := bigT (i := 200) (by decide +kernel) (by decide +kernel)
theorem k_201 : .selects "LongNames$Slots" ⟨"LongNames$Slots", "put", "(III)Z"⟩ ⟨"LongNames$Slots", "put", "(III)Z"⟩ ∈ BIG := bigT (i := 201) (by decide +kernel) (by decide +kernel)
theorem k_202 : .code ⟨"LongNames$Slots", "put", "(III)Z"⟩ prog_6_method_3_code 4 (some .boolean) ∈ BIG := bigT (i := 202) (by decide +kernel) (by decide +kernel)
theorem k_203 : .methodLink "LongNames$Slots" 15 ⟨"LongNames$Slots", "hasByte", "(II)Z"⟩ ∈ BIG := bigT (i := 203) (by decide +kernel) (by decide +kernel)
theorem k_204 : .static ⟨"LongNames$Slots", "hasByte", "(II)Z"⟩ ∈ BIG := bigT (i := 204) (by decide +kernel) (by decide +kernel)
theorem k_205 : .code ⟨"LongNames$Slots", "hasByte", "(II)Z"⟩ prog_6_method_6_code 2 (some .boolean) ∈ BIG := bigT (i := 205) (by decide +kernel) (by decide +kernel)
theorem k_206 : .methodLink "LongNames$Slots" 25 ⟨"LongNames$Slots", "isSlot", "(I)Z"⟩ ∈ BIG := bigT (i := 206) (by decide +kernel) (by decide +kernel)
theorem k_207 : .static ⟨"LongNames$Slots", "isSlot", "(I)Z"⟩ ∈ BIG := bigT (i := 207) (by decide +kernel) (by decide +kernel)
theorem k_208 : .code ⟨"LongNames$Slots", "isSlot", "(I)Z"⟩ prog_6_method_2_code 1 (some .boolean) ∈ BIG := bigT (i := 208) (by decide +kernel) (by decide +kernel)
theorem k_209 : .methodLink "LongNamesLaw" 68 ⟨"LongNames", "byteAt", "(II)I"⟩ ∈ BIG := bigT (i := 209) (by decide +kernel) (by decide +kernel)
theorem k_210 : .instanceMethod ⟨"LongNames", "byteAt", "(II)I"⟩ ∈ BIG := bigT (i := 210) (by decide +kernel) (by decide +kernel)
theorem k_211 : .selects "LongNames" ⟨"LongNames", "byteAt", "(II)I"⟩ ⟨"LongNames", "byteAt", "(II)I"⟩ ∈ BIG := bigT (i := 211) (by decide +kernel) (by decide +kernel)
theorem k_212 : .code ⟨"LongNames", "byteAt", "(II)I"⟩ prog_1_method_10_code 3 (some .int) ∈ BIG := bigT (i := 212) (by decide +kernel) (by decide +kernel)
theorem k_213 : .methodLink "LongNames" 139 ⟨"LongNames$Slots", "get", "(II)I"⟩ ∈ BIG := bigT (i := 213) (by decide +kernel) (by decide +kernel)
theorem k_214 : .instanceMethod ⟨"LongNames$Slots", "get", "(II)I"⟩ ∈ BIG := bigT (i := 214) (by decide +kernel) (by decide +kernel)
theorem k_215 : .selects "LongNames$Slots" ⟨"LongNames$Slots", "get", "(II)I"⟩ ⟨"LongNames$Slots", "get", "(II)I"⟩ ∈ BIG := bigT (i := 215) (by decide +kernel) (by decide +kernel)
theorem k_216 : .code ⟨"LongNames$Slots", "get", "(II)I"⟩ prog_6_method_4_code 3 (some .int) ∈ BIG := bigT (i := 216) (by decide +kernel) (by decide +kernel)
theorem k_217 : .methodLink "LongNamesLaw" 72 ⟨"LongNames", "sum", "(I)I"⟩ ∈ BIG := bigT (i := 217) (by decide +kernel) (by decide +kernel)
theorem k_218 : .instanceMethod ⟨"LongNames", "sum", "(I)I"⟩ ∈ BIG := bigT (i := 218) (by decide +kernel) (by decide +kernel)
theorem k_219 : .selects "LongNames" ⟨"LongNames", "sum", "(I)I"⟩ ⟨"LongNames", "sum", "(I)I"⟩ ∈ BIG := bigT (i := 219) (by decide +kernel) (by decide +kernel)
theorem k_220 : .code ⟨"LongNames", "sum", "(I)I"⟩ prog_1_method_11_code 2 (some .int) ∈ BIG := bigT (i := 220) (by decide +kernel) (by decide +kernel)
theorem k_221 : .methodLink "LongNames" 88 ⟨"LongNames$Slots", "isSlot", "(I)Z"⟩ ∈ BIG := bigT (i := 221) (by decide +kernel) (by decide +kernel)
theorem k_222 : .methodLink "LongNames" 143 ⟨"LongNames$Slots", "entrySum", "(I)I"⟩ ∈ BIG := bigT (i := 222) (by decide +kernel) (by decide +kernel)
theorem k_223 : .instanceMethod ⟨"LongNames$Slots", "entrySum", "(I)I"⟩ ∈ BIG := bigT (i := 223) (by decide +kernel) (by decide +kernel)
theorem k_224 : .selects "LongNames$Slots" ⟨"LongNames$Slots", "entrySum", "(I)I"⟩ ⟨"LongNames$Slots", "entrySum", "(I)I"⟩ ∈ BIG := bigT (i := 224) (by decide +kernel) (by decide +kernel)
theorem k_225 : .code ⟨"LongNames$Slots", "entrySum", "(I)I"⟩ prog_6_method_5_code 5 (some .int) ∈ BIG := bigT (i := 225) (by decide +kernel) (by decide +kernel)
theorem k_226 : .methodLink "LongNames$Slots" 21 ⟨"LongNames$Slots", "get", "(II)I"⟩ ∈ BIG := bigT (i := 226) (by decide +kernel) (by decide +kernel)
theorem k_227 : .methodLink "LongNamesLaw" 76 ⟨"LongNames", "seconds", "(II)J"⟩ ∈ BIG := bigT (i := 227) (by decide +kernel) (by decide +kernel)
theorem k_228 : .instanceMethod ⟨"LongNames", "seconds", "(II)J"⟩ ∈ BIG := bigT (i := 228) (by decide +kernel) (by decide +kernel)
theorem k_229 : .selects "LongNames" ⟨"LongNames", "seconds", "(II)J"⟩ ⟨"LongNames", "seconds", "(II)J"⟩ ∈ BIG := bigT (i := 229) (by decide +kernel) (by decide +kernel)
theorem k_230 : .code ⟨"LongNames", "seconds", "(II)J"⟩ prog_1_method_12_code 3 (some .long) ∈ BIG := bigT (i := 230) (by decide +kernel) (by decide +kernel)
theorem k_231 : .methodLink "LongNames" 146 ⟨"LongNames$Days", "isDay", "(I)Z"⟩ ∈ BIG := bigT (i := 231) (by decide +kernel) (by decide +kernel)
theorem k_232 : .static ⟨"LongNames$Days", "isDay", "(I)Z"⟩ ∈ BIG := bigT (i := 232) (by decide +kernel) (by decide +kernel)
theorem k_233 : .code ⟨"LongNames$Days", "isDay", "(I)Z"⟩ prog_2_method_2_code 2 (some .boolean) ∈ BIG := bigT (i := 233) (by decide +kernel) (by decide +kernel)
theorem k_234 : .constant "LongNames$Days" 9 65535 ∈ BIG := bigT (i := 234) (by decide +kernel) (by decide +kernel)
theorem k_235 : .methodLink "LongNames$Days" 10 ⟨"LongNames$Days", "dayOf", "(I)I"⟩ ∈ BIG := bigT (i := 235) (by decide +kernel) (by decide +kernel)
theorem k_236 : .static ⟨"LongNames$Days", "dayOf", "(I)I"⟩ ∈ BIG := bigT (i := 236) (by decide +kernel) (by decide +kernel)
theorem k_237 : .code ⟨"LongNames$Days", "dayOf", "(I)I"⟩ prog_2_method_10_code 1 (some .int) ∈ BIG := bigT (i := 237) (by decide +kernel) (by decide +kernel)
theorem k_238 : .methodLink "LongNames$Days" 16 ⟨"LongNames$Days", "yearOf", "(I)I"⟩ ∈ BIG := bigT (i := 238) (by decide +kernel) (by decide +kernel)
theorem k_239 : .static ⟨"LongNames$Days", "yearOf", "(I)I"⟩ ∈ BIG := bigT (i := 239) (by decide +kernel) (by decide +kernel)
theorem k_240 : .code ⟨"LongNames$Days", "yearOf", "(I)I"⟩ prog_2_method_8_code 1 (some .int) ∈ BIG := bigT (i := 240) (by decide +kernel) (by decide +kernel)
theorem k_241 : .methodLink "LongNames$Days" 19 ⟨"LongNames$Days", "monthOf", "(I)I"⟩ ∈ BIG := bigT (i := 241) (by decide +kernel) (by decide +kernel)
theorem k_242 : .static ⟨"LongNames$Days", "monthOf", "(I)I"⟩ ∈ BIG := bigT (i := 242) (by decide +kernel) (by decide +kernel)
theorem k_243 : .code ⟨"LongNames$Days", "monthOf", "(I)I"⟩ prog_2_method_9_code 1 (some .int) ∈ BIG := bigT (i := 243) (by decide +kernel) (by decide +kernel)
theorem k_244 : .methodLink "LongNames$Days" 22 ⟨"LongNames$Days", "monthLength", "(II)I"⟩ ∈ BIG := bigT (i := 244) (by decide +kernel) (by decide +kernel)
theorem k_245 : .static ⟨"LongNames$Days", "monthLength", "(II)I"⟩ ∈ BIG := bigT (i := 245) (by decide +kernel) (by decide +kernel)
theorem k_246 : .code ⟨"LongNames$Days", "monthLength", "(II)I"⟩ prog_2_method_6_code 2 (some .int) ∈ BIG := bigT (i := 246) (by decide +kernel) (by decide +kernel)
theorem k_247 : .methodLink "LongNames$Days" 35 ⟨"LongNames$Days", "isLeap", "(I)Z"⟩ ∈ BIG := bigT (i := 247) (by decide +kernel) (by decide +kernel)
theorem k_248 : .static ⟨"LongNames$Days", "isLeap", "(I)Z"⟩ ∈ BIG := bigT (i := 248) (by decide +kernel) (by decide +kernel)
theorem k_249 : .code ⟨"LongNames$Days", "isLeap", "(I)Z"⟩ prog_2_method_7_code 1 (some .boolean) ∈ BIG := bigT (i := 249) (by decide +kernel) (by decide +kernel)
theorem k_250 : .fieldLink "LongNames$Days" 51 "LongNames$Days" "MONTHS" "[I" ∈ BIG := bigT (i := 250) (by decide +kernel) (by decide +kernel)
theorem k_252 : .methodLink "LongNames" 151 ⟨"LongNames$Days", "isTime", "(I)Z"⟩ ∈ BIG := bigT (i := 252) (by decide +kernel) (by decide +kernel)
theorem k_253 : .static ⟨"LongNames$Days", "isTime", "(I)Z"⟩ ∈ BIG := bigT (i := 253) (by decide +kernel) (by decide +kernel)
theorem k_254 : .code ⟨"LongNames$Days", "isTime", "(I)Z"⟩ prog_2_method_3_code 1 (some .boolean) ∈ BIG := bigT (i := 254) (by decide +kernel) (by decide +kernel)
theorem k_255 : .methodLink "LongNames$Days" 26 ⟨"LongNames$Days", "hourOf", "(I)I"⟩ ∈ BIG := bigT (i := 255) (by decide +kernel) (by decide +kernel)
theorem k_256 : .static ⟨"LongNames$Days", "hourOf", "(I)I"⟩ ∈ BIG := bigT (i := 256) (by decide +kernel) (by decide +kernel)
theorem k_257 : .code ⟨"LongNames$Days", "hourOf", "(I)I"⟩ prog_2_method_11_code 1 (some .int) ∈ BIG := bigT (i := 257) (by decide +kernel) (by decide +kernel)
theorem k_258 : .methodLink "LongNames$Days" 29 ⟨"LongNames$Days", "minuteOf", "(I)I"⟩ ∈ BIG := bigT (i := 258) (by decide +kernel) (by decide +kernel)
theorem k_259 : .static ⟨"LongNames$Days", "minuteOf", "(I)I"⟩ ∈ BIG := bigT (i := 259) (by decide +kernel) (by decide +kernel)
theorem k_260 : .code ⟨"LongNames$Days", "minuteOf", "(I)I"⟩ prog_2_method_12_code 1 (some .int) ∈ BIG := bigT (i := 260) (by decide +kernel) (by decide +kernel)
theorem k_261 : .methodLink "LongNames$Days" 32 ⟨"LongNames$Days", "halfOf", "(I)I"⟩ ∈ BIG := bigT (i := 261) (by decide +kernel) (by decide +kernel)
theorem k_262 : .static ⟨"LongNames$Days", "halfOf", "(I)I"⟩ ∈ BIG := bigT (i := 262) (by decide +kernel) (by decide +kernel)
theorem k_263 : .code ⟨"LongNames$Days", "halfOf", "(I)I"⟩ prog_2_method_13_code 1 (some .int) ∈ BIG := bigT (i := 263) (by decide +kernel) (by decide +kernel)
theorem k_264 : .constantLong "LongNames" 154 (-1) ∈ BIG := bigT (i := 264) (by decide +kernel) (by decide +kernel)
theorem k_265 : .methodLink "LongNames" 156 ⟨"LongNames$Days", "secondsBeforeDay", "(I)J"⟩ ∈ BIG := bigT (i := 265) (by decide +kernel) (by decide +kernel)
theorem k_266 : .static ⟨"LongNames$Days", "secondsBeforeDay", "(I)J"⟩ ∈ BIG := bigT (i := 266) (by decide +kernel) (by decide +kernel)
theorem k_267 : .code ⟨"LongNames$Days", "secondsBeforeDay", "(I)J"⟩ prog_2_method_4_code 6 (some .long) ∈ BIG := bigT (i := 267) (by decide +kernel) (by decide +kernel)
theorem k_268 : .constantLong "LongNames$Days" 39 366 ∈ BIG := bigT (i := 268) (by decide +kernel) (by decide +kernel)
theorem k_269 : .constantLong "LongNames$Days" 41 365 ∈ BIG := bigT (i := 269) (by decide +kernel) (by decide +kernel)
theorem k_270 : .constantLong "LongNames$Days" 43 86400 ∈ BIG := bigT (i := 270) (by decide +kernel) (by decide +kernel)
theorem k_271 : .methodLink "LongNames" 160 ⟨"LongNames$Days", "secondsOfTime", "(I)J"⟩ ∈ BIG := bigT (i := 271) (by decide +kernel) (by decide +kernel)
theorem k_272 : .static ⟨"LongNames$Days", "secondsOfTime", "(I)J"⟩ ∈ BIG := bigT (i := 272) (by decide +kernel) (by decide +kernel)
theorem k_273 : .code ⟨"LongNames$Days", "secondsOfTime", "(I)J"⟩ prog_2_method_5_code 1 (some .long) ∈ BIG := bigT (i := 273) (by decide +kernel) (by decide +kernel)
theorem k_274 : .constantLong "LongNames$Days" 45 3600 ∈ BIG := bigT (i := 274) (by decide +kernel) (by decide +kernel)
theorem k_275 : .constantLong "LongNames$Days" 47 60 ∈ BIG := bigT (i := 275) (by decide +kernel) (by decide +kernel)
theorem k_276 : .constantLong "LongNames$Days" 49 2 ∈ BIG := bigT (i := 276) (by decide +kernel) (by decide +kernel)
theorem k_277 : .methodLink "LongNamesLaw" 50 ⟨"LongNamesLaw", "write", "(LLongNames;III[J)I"⟩ ∈ BIG := bigT (i := 277) (by decide +kernel) (by decide +kernel)
theorem k_278 : .static ⟨"LongNamesLaw", "write", "(LLongNames;III[J)I"⟩ ∈ BIG := bigT (i := 278) (by decide +kernel) (by decide +kernel)
theorem k_280 : .classLink "LongNamesLaw" 13 "java/lang/IllegalArgumentException" ∈ BIG := bigT (i := 280) (by decide +kernel) (by decide +kernel)
theorem k_281 : .classLink "LongNamesLaw" 15 "java/lang/IndexOutOfBoundsException" ∈ BIG := bigT (i := 281) (by decide +kernel) (by decide +kernel)
theorem k_282 : .methodLink "LongNamesLaw" 7 ⟨"LongNames", "write", "(III)I"⟩ ∈ BIG := bigT (i := 282) (by decide +kernel) (by decide +kernel)
theorem k_283 : .instanceMethod ⟨"LongNames", "write", "(III)I"⟩ ∈ BIG := bigT (i := 283) (by decide +kernel) (by decide +kernel)
theorem k_284 : .selects "LongNames" ⟨"LongNames", "write", "(III)I"⟩ ⟨"LongNames", "write", "(III)I"⟩ ∈ BIG := bigT (i := 284) (by decide +kernel) (by decide +kernel)
theorem k_285 : .code ⟨"LongNames", "write", "(III)I"⟩ prog_1_method_7_code 6 (some .int) ∈ BIG := bigT (i := 285) (by decide +kernel) (by decide +kernel)
theorem k_286 : .classLink "LongNames" 77 "java/lang/IllegalArgumentException" ∈ BIG := bigT (i := 286) (by decide +kernel) (by decide +kernel)
theorem k_287 : .instantiable "java/lang/IllegalArgumentException" 6 ∈ BIG := bigT (i := 287) (by decide +kernel) (by decide +kernel)
theorem k_295 : .selects "java/lang/IllegalArgumentException" ⟨"java/lang/Throwable", "fillInStackTrace", "(I)Ljava/lang/Throwable;"⟩ ⟨"java/lang/Throwable", "fillInStackTrace", "(I)Ljava/lang/Throwable;"⟩ ∈ BIG := bigT (i := 295) (by decide +kernel) (by decide +kernel)
theorem k_296 : .selects "java/lang/IllegalArgumentException" ⟨"java/lang/Throwable", "fillInStackTrace", "()Ljava/lang/Throwable;"⟩ ⟨"java/lang/Throwable", "fillInStackTrace", "()Ljava/lang/Throwable;"⟩ ∈ BIG := bigT (i := 296) (by decide +kernel) (by decide +kernel)
theorem k_297 : .lays "java/lang/IllegalArgumentException" "java/lang/Throwable" "cause" "Ljava/lang/Throwable;" ∈ BIG := bigT (i := 297) (by decide +kernel) (by decide +kernel)
theorem k_298 : .lays "java/lang/Throwable" "java/lang/Throwable" "cause" "Ljava/lang/Throwable;" ∈ BIG := bigT (i := 298) (by decide +kernel) (by decide +kernel)
theorem k_299 : .lays "java/lang/IllegalArgumentException" "java/lang/Throwable" "stackTrace" "[Ljava/lang/StackTraceElement;" ∈ BIG := bigT (i := 299) (by decide +kernel) (by decide +kernel)
theorem k_300 : .lays "java/lang/Throwable" "java/lang/Throwable" "stackTrace" "[Ljava/lang/StackTraceElement;" ∈ BIG := bigT (i := 300) (by decide +kernel) (by decide +kernel)
theorem k_301 : .lays "java/lang/IllegalArgumentException" "java/lang/Throwable" "suppressedExceptions" "Ljava/util/List;" ∈ BIG := bigT (i := 301) (by decide +kernel) (by decide +kernel)
theorem k_302 : .lays "java/lang/Throwable" "java/lang/Throwable" "suppressedExceptions" "Ljava/util/List;" ∈ BIG := bigT (i := 302) (by decide +kernel) (by decide +kernel)
theorem k_303 : .lays "java/lang/IllegalArgumentException" "java/lang/Throwable" "detailMessage" "Ljava/lang/String;" ∈ BIG := bigT (i := 303) (by decide +kernel) (by decide +kernel)
theorem k_304 : .lays "java/lang/Throwable" "java/lang/Throwable" "detailMessage" "Ljava/lang/String;" ∈ BIG := bigT (i := 304) (by decide +kernel) (by decide +kernel)
theorem k_305 : .lays "java/lang/IllegalArgumentException" "java/lang/Throwable" "backtrace" "Ljava/lang/Object;" ∈ BIG := bigT (i := 305) (by decide +kernel) (by decide +kernel)
theorem k_306 : .lays "java/lang/Throwable" "java/lang/Throwable" "backtrace" "Ljava/lang/Object;" ∈ BIG := bigT (i := 306) (by decide +kernel) (by decide +kernel)
theorem k_307 : .fieldLink "java/lang/Throwable" 198 "java/lang/Throwable" "backtrace" "Ljava/lang/Object;" ∈ BIG := bigT (i := 307) (by decide +kernel) (by decide +kernel)
theorem k_308 : .superclass "java/lang/Throwable" "java/lang/Object" ∈ BIG := bigT (i := 308) (by decide +kernel) (by decide +kernel)
theorem k_309 : .instanceMethod ⟨"java/lang/Throwable", "<init>", "()V"⟩ ∈ BIG := bigT (i := 309) (by decide +kernel) (by decide +kernel)
theorem k_310 : .code ⟨"java/lang/Throwable", "<init>", "()V"⟩ prog_16_method_1_code 1 none ∈ BIG := bigT (i := 310) (by decide +kernel) (by decide +kernel)
theorem k_311 : .methodLink "java/lang/Throwable" 1 ⟨"java/lang/Object", "<init>", "()V"⟩ ∈ BIG := bigT (i := 311) (by decide +kernel) (by decide +kernel)
theorem k_312 : .fieldLink "java/lang/Throwable" 13 "java/lang/Throwable" "UNASSIGNED_STACK" "[Ljava/lang/StackTraceElement;" ∈ BIG := bigT (i := 312) (by decide +kernel) (by decide +kernel)
theorem k_314 : .fieldLink "java/lang/Throwable" 20 "java/lang/Throwable" "SUPPRESSED_SENTINEL" "Ljava/util/List;" ∈ BIG := bigT (i := 314) (by decide +kernel) (by decide +kernel)
theorem k_316 : .methodLink "java/lang/Throwable" 27 ⟨"java/lang/Throwable", "fillInStackTrace", "()Ljava/lang/Throwable;"⟩ ∈ BIG := bigT (i := 316) (by decide +kernel) (by decide +kernel)
theorem k_317 : .instanceMethod ⟨"java/lang/Throwable", "fillInStackTrace", "()Ljava/lang/Throwable;"⟩ ∈ BIG := bigT (i := 317) (by decide +kernel) (by decide +kernel)
theorem k_319 : .selects "java/lang/IllegalStateException" ⟨"java/lang/Throwable", "fillInStackTrace", "()Ljava/lang/Throwable;"⟩ ⟨"java/lang/Throwable", "fillInStackTrace", "()Ljava/lang/Throwable;"⟩ ∈ BIG := bigT (i := 319) (by decide +kernel) (by decide +kernel)
theorem k_320 : .selects "java/lang/IndexOutOfBoundsException" ⟨"java/lang/Throwable", "fillInStackTrace", "()Ljava/lang/Throwable;"⟩ ⟨"java/lang/Throwable", "fillInStackTrace", "()Ljava/lang/Throwable;"⟩ ∈ BIG := bigT (i := 320) (by decide +kernel) (by decide +kernel)
theorem k_321 : .codeSync ⟨"java/lang/Throwable", "fillInStackTrace", "()Ljava/lang/Throwable;"⟩ prog_16_method_18_code 1 (some (.object "java/lang/Throwable")) ∈ BIG := bigT (i := 321) (by decide +kernel) (by decide +kernel)
theorem k_322 : .methodLink "java/lang/Throwable" 202 ⟨"java/lang/Throwable", "fillInStackTrace", "(I)Ljava/lang/Throwable;"⟩ ∈ BIG := bigT (i := 322) (by decide +kernel) (by decide +kernel)
theorem k_324 : .instanceMethod ⟨"java/lang/Throwable", "fillInStackTrace", "(I)Ljava/lang/Throwable;"⟩ ∈ BIG := bigT (i := 324) (by decide +kernel) (by decide +kernel)
theorem k_325 : .instantiable "java/lang/Throwable" 6 ∈ BIG := bigT (i := 325) (by decide +kernel) (by decide +kernel)
theorem k_326 : .native ⟨"java/lang/Throwable", "fillInStackTrace", "(I)Ljava/lang/Throwable;"⟩ ∈ BIG := bigT (i := 326) (by decide +kernel) (by decide +kernel)
theorem k_328 : .methodLink "LongNames" 81 ⟨"java/lang/IllegalArgumentException", "<init>", "(Ljava/lang/String;)V"⟩ ∈ BIG := bigT (i := 328) (by decide +kernel) (by decide +kernel)
theorem k_329 : .instanceMethod ⟨"java/lang/IllegalArgumentException", "<init>", "(Ljava/lang/String;)V"⟩ ∈ BIG := bigT (i := 329) (by decide +kernel) (by decide +kernel)
theorem k_330 : .code ⟨"java/lang/IllegalArgumentException", "<init>", "(Ljava/lang/String;)V"⟩ prog_11_method_2_code 2 none ∈ BIG := bigT (i := 330) (by decide +kernel) (by decide +kernel)
theorem k_331 : .methodLink "java/lang/IllegalArgumentException" 7 ⟨"java/lang/RuntimeException", "<init>", "(Ljava/lang/String;)V"⟩ ∈ BIG := bigT (i := 331) (by decide +kernel) (by decide +kernel)
theorem k_332 : .instanceMethod ⟨"java/lang/RuntimeException", "<init>", "(Ljava/lang/String;)V"⟩ ∈ BIG := bigT (i := 332) (by decide +kernel) (by decide +kernel)
theorem k_333 : .code ⟨"java/lang/RuntimeException", "<init>", "(Ljava/lang/String;)V"⟩ prog_14_method_2_code 2 none ∈ BIG := bigT (i := 333) (by decide +kernel) (by decide +kernel)
theorem k_334 : .methodLink "java/lang/RuntimeException" 7 ⟨"java/lang/Exception", "<init>", "(Ljava/lang/String;)V"⟩ ∈ BIG := bigT (i := 334) (by decide +kernel) (by decide +kernel)
theorem k_335 : .instanceMethod ⟨"java/lang/Exception", "<init>", "(Ljava/lang/String;)V"⟩ ∈ BIG := bigT (i := 335) (by decide +kernel) (by decide +kernel)
theorem k_336 : .code ⟨"java/lang/Exception", "<init>", "(Ljava/lang/String;)V"⟩ prog_10_method_2_code 2 none ∈ BIG := bigT (i := 336) (by decide +kernel) (by decide +kernel)
theorem k_337 : .methodLink "java/lang/Exception" 7 ⟨"java/lang/Throwable", "<init>", "(Ljava/lang/String;)V"⟩ ∈ BIG := bigT (i := 337) (by decide +kernel) (by decide +kernel)
theorem k_338 : .instanceMethod ⟨"java/lang/Throwable", "<init>", "(Ljava/lang/String;)V"⟩ ∈ BIG := bigT (i := 338) (by decide +kernel) (by decide +kernel)
theorem k_339 : .code ⟨"java/lang/Throwable", "<init>", "(Ljava/lang/String;)V"⟩ prog_16_method_2_code 2 none ∈ BIG := bigT (i := 339) (by decide +kernel) (by decide +kernel)
theorem k_340 : .fieldLink "java/lang/Throwable" 198 "java/lang/Throwable" "backtrace" "Ljava/lang/Object;" ∈ BIG := bigT (i := 340) (by decide +kernel) (by decide +kernel)
theorem k_341 : .fieldLink "java/lang/Throwable" 31 "java/lang/Throwable" "detailMessage" "Ljava/lang/String;" ∈ BIG := bigT (i := 341) (by decide +kernel) (by decide +kernel)
theorem k_342 : .fieldLink "java/lang/Throwable" 7 "java/lang/Throwable" "cause" "Ljava/lang/Throwable;" ∈ BIG := bigT (i := 342) (by decide +kernel) (by decide +kernel)
theorem k_343 : .fieldLink "java/lang/Throwable" 17 "java/lang/Throwable" "stackTrace" "[Ljava/lang/StackTraceElement;" ∈ BIG := bigT (i := 343) (by decide +kernel) (by decide +kernel)
theorem k_344 : .fieldLink "java/lang/Throwable" 24 "java/lang/Throwable" "suppressedExceptions" "Ljava/util/List;" ∈ BIG := bigT (i := 344) (by decide +kernel) (by decide +kernel)
theorem k_349 : .lays "java/lang/IllegalArgumentException" "java/lang/Throwable" "depth" "I" ∈ BIG := bigT (i := 349) (by decide +kernel) (by decide +kernel)
theorem k_352 : .superclass "java/lang/IllegalArgumentException" "java/lang/RuntimeException" ∈ BIG := bigT (i := 352) (by decide +kernel) (by decide +kernel)
theorem k_353 : .arrayClass .byte ∈ BIG := bigT (i := 353) (by decide +kernel) (by decide +kernel)
theorem k_356 : .classLink "LongNames" 91 "java/lang/IndexOutOfBoundsException" ∈ BIG := bigT (i := 356) (by decide +kernel) (by decide +kernel)
theorem k_357 : .instantiable "java/lang/IndexOutOfBoundsException" 6 ∈ BIG := bigT (i := 357) (by decide +kernel) (by decide +kernel)
theorem k_359 : .selects "java/lang/IndexOutOfBoundsException" ⟨"java/lang/Throwable", "fillInStackTrace", "(I)Ljava/lang/Throwable;"⟩ ⟨"java/lang/Throwable", "fillInStackTrace", "(I)Ljava/lang/Throwable;"⟩ ∈ BIG := bigT (i := 359) (by decide +kernel) (by decide +kernel)
theorem k_360 : .lays "java/lang/IndexOutOfBoundsException" "java/lang/Throwable" "cause" "Ljava/lang/Throwable;" ∈ BIG := bigT (i := 360) (by decide +kernel) (by decide +kernel)
theorem k_361 : .lays "java/lang/IndexOutOfBoundsException" "java/lang/Throwable" "stackTrace" "[Ljava/lang/StackTraceElement;" ∈ BIG := bigT (i := 361) (by decide +kernel) (by decide +kernel)
theorem k_362 : .lays "java/lang/IndexOutOfBoundsException" "java/lang/Throwable" "suppressedExceptions" "Ljava/util/List;" ∈ BIG := bigT (i := 362) (by decide +kernel) (by decide +kernel)
theorem k_363 : .lays "java/lang/IndexOutOfBoundsException" "java/lang/Throwable" "detailMessage" "Ljava/lang/String;" ∈ BIG := bigT (i := 363) (by decide +kernel) (by decide +kernel)
theorem k_364 : .lays "java/lang/IndexOutOfBoundsException" "java/lang/Throwable" "backtrace" "Ljava/lang/Object;" ∈ BIG := bigT (i := 364) (by decide +kernel) (by decide +kernel)
theorem k_366 : .methodLink "LongNames" 95 ⟨"java/lang/IndexOutOfBoundsException", "<init>", "(Ljava/lang/String;)V"⟩ ∈ BIG := bigT (i := 366) (by decide +kernel) (by decide +kernel)
theorem k_367 : .instanceMethod ⟨"java/lang/IndexOutOfBoundsException", "<init>", "(Ljava/lang/String;)V"⟩ ∈ BIG := bigT (i := 367) (by decide +kernel) (by decide +kernel)
theorem k_368 : .code ⟨"java/lang/IndexOutOfBoundsException", "<init>", "(Ljava/lang/String;)V"⟩ prog_13_method_2_code 2 none ∈ BIG := bigT (i := 368) (by decide +kernel) (by decide +kernel)
theorem k_369 : .methodLink "java/lang/IndexOutOfBoundsException" 7 ⟨"java/lang/RuntimeException", "<init>", "(Ljava/lang/String;)V"⟩ ∈ BIG := bigT (i := 369) (by decide +kernel) (by decide +kernel)
theorem k_370 : .lays "java/lang/IndexOutOfBoundsException" "java/lang/Throwable" "depth" "I" ∈ BIG := bigT (i := 370) (by decide +kernel) (by decide +kernel)
theorem k_371 : .superclass "java/lang/IndexOutOfBoundsException" "java/lang/RuntimeException" ∈ BIG := bigT (i := 371) (by decide +kernel) (by decide +kernel)
theorem k_372 : .methodLink "LongNames" 96 ⟨"LongNames$ShortName", "takeShown", "(LLongNames$Row;)V"⟩ ∈ BIG := bigT (i := 372) (by decide +kernel) (by decide +kernel)
theorem k_373 : .instanceMethod ⟨"LongNames$ShortName", "takeShown", "(LLongNames$Row;)V"⟩ ∈ BIG := bigT (i := 373) (by decide +kernel) (by decide +kernel)
theorem k_374 : .selects "LongNames$ShortName" ⟨"LongNames$ShortName", "takeShown", "(LLongNames$Row;)V"⟩ ⟨"LongNames$ShortName", "takeShown", "(LLongNames$Row;)V"⟩ ∈ BIG := bigT (i := 374) (by decide +kernel) (by decide +kernel)
theorem k_375 : .code ⟨"LongNames$ShortName", "takeShown", "(LLongNames$Row;)V"⟩ prog_5_method_2_code 4 none ∈ BIG := bigT (i := 375) (by decide +kernel) (by decide +kernel)
theorem k_376 : .methodLink "LongNames$ShortName" 15 ⟨"java/util/Arrays", "fill", "([II)V"⟩ ∈ BIG := bigT (i := 376) (by decide +kernel) (by decide +kernel)
theorem k_377 : .static ⟨"java/util/Arrays", "fill", "([II)V"⟩ ∈ BIG := bigT (i := 377) (by decide +kernel) (by decide +kernel)
theorem k_378 : .code ⟨"java/util/Arrays", "fill", "([II)V"⟩ prog_17_method_103_code 4 none ∈ BIG := bigT (i := 378) (by decide +kernel) (by decide +kernel)
theorem k_379 : .methodLink "LongNames$ShortName" 21 ⟨"LongNames$Row", "lastPoint", "()I"⟩ ∈ BIG := bigT (i := 379) (by decide +kernel) (by decide +kernel)
theorem k_380 : .methodLink "LongNames$ShortName" 27 ⟨"LongNames$Row", "size", "()I"⟩ ∈ BIG := bigT (i := 380) (by decide +kernel) (by decide +kernel)
theorem k_381 : .methodLink "LongNames$ShortName" 30 ⟨"LongNames$ShortName", "shorten", "(LLongNames$Row;IIII)I"⟩ ∈ BIG := bigT (i := 381) (by decide +kernel) (by decide +kernel)
theorem k_383 : .instanceMethod ⟨"LongNames$ShortName", "shorten", "(LLongNames$Row;IIII)I"⟩ ∈ BIG := bigT (i := 383) (by decide +kernel) (by decide +kernel)
theorem k_384 : .code ⟨"LongNames$ShortName", "shorten", "(LLongNames$Row;IIII)I"⟩ prog_5_method_10_code 9 (some .int) ∈ BIG := bigT (i := 384) (by decide +kernel) (by decide +kernel)
theorem k_385 : .methodLink "LongNames$ShortName" 75 ⟨"LongNames$Row", "get", "(I)I"⟩ ∈ BIG := bigT (i := 385) (by decide +kernel) (by decide +kernel)
theorem k_386 : .methodLink "LongNames$ShortName" 76 ⟨"LongNames$Units", "shortened", "(I)I"⟩ ∈ BIG := bigT (i := 386) (by decide +kernel) (by decide +kernel)
theorem k_387 : .static ⟨"LongNames$Units", "shortened", "(I)I"⟩ ∈ BIG := bigT (i := 387) (by decide +kernel) (by decide +kernel)
theorem k_388 : .code ⟨"LongNames$Units", "shortened", "(I)I"⟩ prog_7_method_5_code 2 (some .int) ∈ BIG := bigT (i := 388) (by decide +kernel) (by decide +kernel)
theorem k_389 : .methodLink "LongNames$Units" 10 ⟨"LongNames$Units", "capital", "(I)I"⟩ ∈ BIG := bigT (i := 389) (by decide +kernel) (by decide +kernel)
theorem k_390 : .methodLink "LongNames$Units" 16 ⟨"LongNames$Units", "mayStandInShortName", "(I)Z"⟩ ∈ BIG := bigT (i := 390) (by decide +kernel) (by decide +kernel)
theorem k_391 : .methodLink "LongNames$ShortName" 38 ⟨"LongNames$ShortName", "set", "(II)V"⟩ ∈ BIG := bigT (i := 391) (by decide +kernel) (by decide +kernel)
theorem k_393 : .instanceMethod ⟨"LongNames$ShortName", "set", "(II)V"⟩ ∈ BIG := bigT (i := 393) (by decide +kernel) (by decide +kernel)
theorem k_394 : .code ⟨"LongNames$ShortName", "set", "(II)V"⟩ prog_5_method_13_code 3 none ∈ BIG := bigT (i := 394) (by decide +kernel) (by decide +kernel)
theorem k_395 : .methodLink "LongNames" 100 ⟨"LongNames$ShortName", "takeTailed", "(LLongNames$Row;I)V"⟩ ∈ BIG := bigT (i := 395) (by decide +kernel) (by decide +kernel)
theorem k_396 : .instanceMethod ⟨"LongNames$ShortName", "takeTailed", "(LLongNames$Row;I)V"⟩ ∈ BIG := bigT (i := 396) (by decide +kernel) (by decide +kernel)
theorem k_397 : .selects "LongNames$ShortName" ⟨"LongNames$ShortName", "takeTailed", "(LLongNames$Row;I)V"⟩ ⟨"LongNames$ShortName", "takeTailed", "(LLongNames$Row;I)V"⟩ ∈ BIG := bigT (i := 397) (by decide +kernel) (by decide +kernel)
theorem k_398 : .code ⟨"LongNames$ShortName", "takeTailed", "(LLongNames$Row;I)V"⟩ prog_5_method_3_code 7 none ∈ BIG := bigT (i := 398) (by decide +kernel) (by decide +kernel)
theorem k_399 : .methodLink "LongNames$ShortName" 34 ⟨"LongNames$ShortName", "digitsOf", "(I)I"⟩ ∈ BIG := bigT (i := 399) (by decide +kernel) (by decide +kernel)
theorem k_400 : .static ⟨"LongNames$ShortName", "digitsOf", "(I)I"⟩ ∈ BIG := bigT (i := 400) (by decide +kernel) (by decide +kernel)
theorem k_401 : .code ⟨"LongNames$ShortName", "digitsOf", "(I)I"⟩ prog_5_method_12_code 1 (some .int) ∈ BIG := bigT (i := 401) (by decide +kernel) (by decide +kernel)
theorem k_402 : .methodLink "LongNames$ShortName" 42 ⟨"LongNames$ShortName", "setNumber", "(III)V"⟩ ∈ BIG := bigT (i := 402) (by decide +kernel) (by decide +kernel)
theorem k_404 : .instanceMethod ⟨"LongNames$ShortName", "setNumber", "(III)V"⟩ ∈ BIG := bigT (i := 404) (by decide +kernel) (by decide +kernel)
theorem k_405 : .code ⟨"LongNames$ShortName", "setNumber", "(III)V"⟩ prog_5_method_11_code 6 none ∈ BIG := bigT (i := 405) (by decide +kernel) (by decide +kernel)
theorem k_406 : .methodLink "LongNames" 104 ⟨"LongNames", "writeSlots", "(LLongNames$Row;II)V"⟩ ∈ BIG := bigT (i := 406) (by decide +kernel) (by decide +kernel)
theorem k_408 : .instanceMethod ⟨"LongNames", "writeSlots", "(LLongNames$Row;II)V"⟩ ∈ BIG := bigT (i := 408) (by decide +kernel) (by decide +kernel)
theorem k_409 : .code ⟨"LongNames", "writeSlots", "(LLongNames$Row;II)V"⟩ prog_1_method_14_code 6 none ∈ BIG := bigT (i := 409) (by decide +kernel) (by decide +kernel)
theorem k_410 : .methodLink "LongNames" 163 ⟨"LongNames$ShortName", "storeEntry", "(LLongNames$Slots;I)V"⟩ ∈ BIG := bigT (i := 410) (by decide +kernel) (by decide +kernel)
theorem k_411 : .instanceMethod ⟨"LongNames$ShortName", "storeEntry", "(LLongNames$Slots;I)V"⟩ ∈ BIG := bigT (i := 411) (by decide +kernel) (by decide +kernel)
theorem k_412 : .selects "LongNames$ShortName" ⟨"LongNames$ShortName", "storeEntry", "(LLongNames$Slots;I)V"⟩ ⟨"LongNames$ShortName", "storeEntry", "(LLongNames$Slots;I)V"⟩ ∈ BIG := bigT (i := 412) (by decide +kernel) (by decide +kernel)
theorem k_413 : .code ⟨"LongNames$ShortName", "storeEntry", "(LLongNames$Slots;I)V"⟩ prog_5_method_5_code 4 none ∈ BIG := bigT (i := 413) (by decide +kernel) (by decide +kernel)
theorem k_414 : .methodLink "LongNames$ShortName" 52 ⟨"LongNames$ShortName", "get", "(I)I"⟩ ∈ BIG := bigT (i := 414) (by decide +kernel) (by decide +kernel)
theorem k_416 : .instanceMethod ⟨"LongNames$ShortName", "get", "(I)I"⟩ ∈ BIG := bigT (i := 416) (by decide +kernel) (by decide +kernel)
theorem k_417 : .code ⟨"LongNames$ShortName", "get", "(I)I"⟩ prog_5_method_14_code 2 (some .int) ∈ BIG := bigT (i := 417) (by decide +kernel) (by decide +kernel)
theorem k_418 : .methodLink "LongNames$ShortName" 54 ⟨"LongNames$Slots", "put", "(III)Z"⟩ ∈ BIG := bigT (i := 418) (by decide +kernel) (by decide +kernel)
theorem k_419 : .methodLink "LongNames" 166 ⟨"LongNames$Part", "build", "(LLongNames$Row;II)V"⟩ ∈ BIG := bigT (i := 419) (by decide +kernel) (by decide +kernel)
theorem k_420 : .instanceMethod ⟨"LongNames$Part", "build", "(LLongNames$Row;II)V"⟩ ∈ BIG := bigT (i := 420) (by decide +kernel) (by decide +kernel)
theorem k_421 : .selects "LongNames$Part" ⟨"LongNames$Part", "build", "(LLongNames$Row;II)V"⟩ ⟨"LongNames$Part", "build", "(LLongNames$Row;II)V"⟩ ∈ BIG := bigT (i := 421) (by decide +kernel) (by decide +kernel)
theorem k_422 : .code ⟨"LongNames$Part", "build", "(LLongNames$Row;II)V"⟩ prog_3_method_2_code 6 none ∈ BIG := bigT (i := 422) (by decide +kernel) (by decide +kernel)
theorem k_423 : .methodLink "LongNames$Part" 17 ⟨"java/util/Arrays", "fill", "([II)V"⟩ ∈ BIG := bigT (i := 423) (by decide +kernel) (by decide +kernel)
theorem k_424 : .methodLink "LongNames$Part" 23 ⟨"LongNames$Row", "partsNeeded", "()I"⟩ ∈ BIG := bigT (i := 424) (by decide +kernel) (by decide +kernel)
theorem k_425 : .methodLink "LongNames$Part" 29 ⟨"LongNames$Part", "set", "(II)V"⟩ ∈ BIG := bigT (i := 425) (by decide +kernel) (by decide +kernel)
theorem k_427 : .instanceMethod ⟨"LongNames$Part", "set", "(II)V"⟩ ∈ BIG := bigT (i := 427) (by decide +kernel) (by decide +kernel)
theorem k_428 : .code ⟨"LongNames$Part", "set", "(II)V"⟩ prog_3_method_8_code 3 none ∈ BIG := bigT (i := 428) (by decide +kernel) (by decide +kernel)
theorem k_429 : .methodLink "LongNames$Part" 33 ⟨"LongNames$Part", "unitOrFill", "(LLongNames$Row;I)I"⟩ ∈ BIG := bigT (i := 429) (by decide +kernel) (by decide +kernel)
theorem k_430 : .static ⟨"LongNames$Part", "unitOrFill", "(LLongNames$Row;I)I"⟩ ∈ BIG := bigT (i := 430) (by decide +kernel) (by decide +kernel)
theorem k_431 : .code ⟨"LongNames$Part", "unitOrFill", "(LLongNames$Row;I)I"⟩ prog_3_method_6_code 2 (some .int) ∈ BIG := bigT (i := 431) (by decide +kernel) (by decide +kernel)
theorem k_432 : .methodLink "LongNames$Part" 51 ⟨"LongNames$Row", "size", "()I"⟩ ∈ BIG := bigT (i := 432) (by decide +kernel) (by decide +kernel)
theorem k_433 : .methodLink "LongNames$Part" 54 ⟨"LongNames$Row", "get", "(I)I"⟩ ∈ BIG := bigT (i := 433) (by decide +kernel) (by decide +kernel)
theorem k_434 : .constant "LongNames$Part" 55 65535 ∈ BIG := bigT (i := 434) (by decide +kernel) (by decide +kernel)
theorem k_435 : .methodLink "LongNames$Part" 37 ⟨"LongNames$Part", "placeOf", "(I)I"⟩ ∈ BIG := bigT (i := 435) (by decide +kernel) (by decide +kernel)
theorem k_436 : .static ⟨"LongNames$Part", "placeOf", "(I)I"⟩ ∈ BIG := bigT (i := 436) (by decide +kernel) (by decide +kernel)
theorem k_437 : .code ⟨"LongNames$Part", "placeOf", "(I)I"⟩ prog_3_method_7_code 1 (some .int) ∈ BIG := bigT (i := 437) (by decide +kernel) (by decide +kernel)
theorem k_438 : .fieldLink "LongNames$Part" 56 "LongNames$Part" "PLACES" "[I" ∈ BIG := bigT (i := 438) (by decide +kernel) (by decide +kernel)
theorem k_440 : .methodLink "LongNames" 169 ⟨"LongNames$Part", "storeIn", "(LLongNames$Slots;I)V"⟩ ∈ BIG := bigT (i := 440) (by decide +kernel) (by decide +kernel)
theorem k_441 : .instanceMethod ⟨"LongNames$Part", "storeIn", "(LLongNames$Slots;I)V"⟩ ∈ BIG := bigT (i := 441) (by decide +kernel) (by decide +kernel)
theorem k_442 : .selects "LongNames$Part" ⟨"LongNames$Part", "storeIn", "(LLongNames$Slots;I)V"⟩ ⟨"LongNames$Part", "storeIn", "(LLongNames$Slots;I)V"⟩ ∈ BIG := bigT (i := 442) (by decide +kernel) (by decide +kernel)
theorem k_443 : .code ⟨"LongNames$Part", "storeIn", "(LLongNames$Slots;I)V"⟩ prog_3_method_3_code 4 none ∈ BIG := bigT (i := 443) (by decide +kernel) (by decide +kernel)
theorem k_444 : .methodLink "LongNames$Part" 41 ⟨"LongNames$Part", "get", "(I)I"⟩ ∈ BIG := bigT (i := 444) (by decide +kernel) (by decide +kernel)
theorem k_446 : .instanceMethod ⟨"LongNames$Part", "get", "(I)I"⟩ ∈ BIG := bigT (i := 446) (by decide +kernel) (by decide +kernel)
theorem k_447 : .code ⟨"LongNames$Part", "get", "(I)I"⟩ prog_3_method_9_code 2 (some .int) ∈ BIG := bigT (i := 447) (by decide +kernel) (by decide +kernel)
theorem k_448 : .methodLink "LongNames$Part" 44 ⟨"LongNames$Slots", "put", "(III)Z"⟩ ∈ BIG := bigT (i := 448) (by decide +kernel) (by decide +kernel)
theorem k_449 : .methodLink "LongNamesLaw" 60 ⟨"LongNamesLaw", "read", "(LLongNames;III[J)I"⟩ ∈ BIG := bigT (i := 449) (by decide +kernel) (by decide +kernel)
theorem k_450 : .static ⟨"LongNamesLaw", "read", "(LLongNames;III[J)I"⟩ ∈ BIG := bigT (i := 450) (by decide +kernel) (by decide +kernel)
theorem k_452 : .classLink "LongNamesLaw" 20 "java/lang/IllegalStateException" ∈ BIG := bigT (i := 452) (by decide +kernel) (by decide +kernel)
theorem k_453 : .methodLink "LongNamesLaw" 17 ⟨"LongNames", "read", "(III)I"⟩ ∈ BIG := bigT (i := 453) (by decide +kernel) (by decide +kernel)
theorem k_454 : .instanceMethod ⟨"LongNames", "read", "(III)I"⟩ ∈ BIG := bigT (i := 454) (by decide +kernel) (by decide +kernel)
theorem k_455 : .selects "LongNames" ⟨"LongNames", "read", "(III)I"⟩ ⟨"LongNames", "read", "(III)I"⟩ ∈ BIG := bigT (i := 455) (by decide +kernel) (by decide +kernel)
theorem k_456 : .code ⟨"LongNames", "read", "(III)I"⟩ prog_1_method_8_code 5 (some .int) ∈ BIG := bigT (i := 456) (by decide +kernel) (by decide +kernel)
theorem k_460 : .methodLink "LongNames" 114 ⟨"LongNames$ShortName", "takeEntry", "(LLongNames$Slots;I)V"⟩ ∈ BIG := bigT (i := 460) (by decide +kernel) (by decide +kernel)
theorem k_461 : .instanceMethod ⟨"LongNames$ShortName", "takeEntry", "(LLongNames$Slots;I)V"⟩ ∈ BIG := bigT (i := 461) (by decide +kernel) (by decide +kernel)
theorem k_462 : .selects "LongNames$ShortName" ⟨"LongNames$ShortName", "takeEntry", "(LLongNames$Slots;I)V"⟩ ⟨"LongNames$ShortName", "takeEntry", "(LLongNames$Slots;I)V"⟩ ∈ BIG := bigT (i := 462) (by decide +kernel) (by decide +kernel)
theorem k_463 : .code ⟨"LongNames$ShortName", "takeEntry", "(LLongNames$Slots;I)V"⟩ prog_5_method_4_code 4 none ∈ BIG := bigT (i := 463) (by decide +kernel) (by decide +kernel)
theorem k_464 : .methodLink "LongNames$ShortName" 46 ⟨"LongNames$Slots", "get", "(II)I"⟩ ∈ BIG := bigT (i := 464) (by decide +kernel) (by decide +kernel)
theorem k_465 : .methodLink "LongNames" 118 ⟨"LongNames$ShortName", "isValid", "()Z"⟩ ∈ BIG := bigT (i := 465) (by decide +kernel) (by decide +kernel)
theorem k_466 : .instanceMethod ⟨"LongNames$ShortName", "isValid", "()Z"⟩ ∈ BIG := bigT (i := 466) (by decide +kernel) (by decide +kernel)
theorem k_467 : .selects "LongNames$ShortName" ⟨"LongNames$ShortName", "isValid", "()Z"⟩ ⟨"LongNames$ShortName", "isValid", "()Z"⟩ ∈ BIG := bigT (i := 467) (by decide +kernel) (by decide +kernel)
theorem k_468 : .code ⟨"LongNames$ShortName", "isValid", "()Z"⟩ prog_5_method_6_code 1 (some .boolean) ∈ BIG := bigT (i := 468) (by decide +kernel) (by decide +kernel)
theorem k_469 : .methodLink "LongNames$ShortName" 58 ⟨"LongNames$ShortName", "blanksOnlyEnd", "(II)Z"⟩ ∈ BIG := bigT (i := 469) (by decide +kernel) (by decide +kernel)
theorem k_471 : .instanceMethod ⟨"LongNames$ShortName", "blanksOnlyEnd", "(II)Z"⟩ ∈ BIG := bigT (i := 471) (by decide +kernel) (by decide +kernel)
theorem k_472 : .code ⟨"LongNames$ShortName", "blanksOnlyEnd", "(II)Z"⟩ prog_5_method_9_code 5 (some .boolean) ∈ BIG := bigT (i := 472) (by decide +kernel) (by decide +kernel)
theorem k_473 : .methodLink "LongNames$ShortName" 70 ⟨"LongNames$Units", "mayStandInShortName", "(I)Z"⟩ ∈ BIG := bigT (i := 473) (by decide +kernel) (by decide +kernel)
theorem k_474 : .classLink "LongNames" 121 "java/lang/IllegalStateException" ∈ BIG := bigT (i := 474) (by decide +kernel) (by decide +kernel)
theorem k_475 : .instantiable "java/lang/IllegalStateException" 6 ∈ BIG := bigT (i := 475) (by decide +kernel) (by decide +kernel)
theorem k_477 : .selects "java/lang/IllegalStateException" ⟨"java/lang/Throwable", "fillInStackTrace", "(I)Ljava/lang/Throwable;"⟩ ⟨"java/lang/Throwable", "fillInStackTrace", "(I)Ljava/lang/Throwable;"⟩ ∈ BIG := bigT (i := 477) (by decide +kernel) (by decide +kernel)
theorem k_478 : .lays "java/lang/IllegalStateException" "java/lang/Throwable" "cause" "Ljava/lang/Throwable;" ∈ BIG := bigT (i := 478) (by decide +kernel) (by decide +kernel)
theorem k_479 : .lays "java/lang/IllegalStateException" "java/lang/Throwable" "stackTrace" "[Ljava/lang/StackTraceElement;" ∈ BIG := bigT (i := 479) (by decide +kernel) (by decide +kernel)
theorem k_480 : .lays "java/lang/IllegalStateException" "java/lang/Throwable" "suppressedExceptions" "Ljava/util/List;" ∈ BIG := bigT (i := 480) (by decide +kernel) (by decide +kernel)
theorem k_481 : .lays "java/lang/IllegalStateException" "java/lang/Throwable" "detailMessage" "Ljava/lang/String;" ∈ BIG := bigT (i := 481) (by decide +kernel) (by decide +kernel)
theorem k_482 : .lays "java/lang/IllegalStateException" "java/lang/Throwable" "backtrace" "Ljava/lang/Object;" ∈ BIG := bigT (i := 482) (by decide +kernel) (by decide +kernel)
theorem k_484 : .methodLink "LongNames" 125 ⟨"java/lang/IllegalStateException", "<init>", "(Ljava/lang/String;)V"⟩ ∈ BIG := bigT (i := 484) (by decide +kernel) (by decide +kernel)
theorem k_485 : .instanceMethod ⟨"java/lang/IllegalStateException", "<init>", "(Ljava/lang/String;)V"⟩ ∈ BIG := bigT (i := 485) (by decide +kernel) (by decide +kernel)
theorem k_486 : .code ⟨"java/lang/IllegalStateException", "<init>", "(Ljava/lang/String;)V"⟩ prog_12_method_2_code 2 none ∈ BIG := bigT (i := 486) (by decide +kernel) (by decide +kernel)
theorem k_487 : .methodLink "java/lang/IllegalStateException" 7 ⟨"java/lang/RuntimeException", "<init>", "(Ljava/lang/String;)V"⟩ ∈ BIG := bigT (i := 487) (by decide +kernel) (by decide +kernel)
theorem k_488 : .lays "java/lang/IllegalStateException" "java/lang/Throwable" "depth" "I" ∈ BIG := bigT (i := 488) (by decide +kernel) (by decide +kernel)
theorem k_489 : .superclass "java/lang/IllegalStateException" "java/lang/RuntimeException" ∈ BIG := bigT (i := 489) (by decide +kernel) (by decide +kernel)
theorem k_490 : .methodLink "LongNames" 126 ⟨"LongNames$ShortName", "showIn", "(LLongNames$Row;)V"⟩ ∈ BIG := bigT (i := 490) (by decide +kernel) (by decide +kernel)
theorem k_491 : .instanceMethod ⟨"LongNames$ShortName", "showIn", "(LLongNames$Row;)V"⟩ ∈ BIG := bigT (i := 491) (by decide +kernel) (by decide +kernel)
theorem k_492 : .selects "LongNames$ShortName" ⟨"LongNames$ShortName", "showIn", "(LLongNames$Row;)V"⟩ ⟨"LongNames$ShortName", "showIn", "(LLongNames$Row;)V"⟩ ∈ BIG := bigT (i := 492) (by decide +kernel) (by decide +kernel)
theorem k_493 : .code ⟨"LongNames$ShortName", "showIn", "(LLongNames$Row;)V"⟩ prog_5_method_7_code 2 none ∈ BIG := bigT (i := 493) (by decide +kernel) (by decide +kernel)
theorem k_494 : .methodLink "LongNames$ShortName" 62 ⟨"LongNames$ShortName", "showBytes", "(LLongNames$Row;II)V"⟩ ∈ BIG := bigT (i := 494) (by decide +kernel) (by decide +kernel)
theorem k_496 : .instanceMethod ⟨"LongNames$ShortName", "showBytes", "(LLongNames$Row;II)V"⟩ ∈ BIG := bigT (i := 496) (by decide +kernel) (by decide +kernel)
theorem k_497 : .code ⟨"LongNames$ShortName", "showBytes", "(LLongNames$Row;II)V"⟩ prog_5_method_8_code 5 none ∈ BIG := bigT (i := 497) (by decide +kernel) (by decide +kernel)
theorem k_498 : .methodLink "LongNames$ShortName" 66 ⟨"LongNames$Row", "append", "(I)Z"⟩ ∈ BIG := bigT (i := 498) (by decide +kernel) (by decide +kernel)
theorem k_499 : .methodLink "LongNames" 129 ⟨"LongNames", "readParts", "(LLongNames$Row;II)Z"⟩ ∈ BIG := bigT (i := 499) (by decide +kernel) (by decide +kernel)
theorem k_501 : .instanceMethod ⟨"LongNames", "readParts", "(LLongNames$Row;II)Z"⟩ ∈ BIG := bigT (i := 501) (by decide +kernel) (by decide +kernel)
theorem k_502 : .code ⟨"LongNames", "readParts", "(LLongNames$Row;II)Z"⟩ prog_1_method_15_code 6 (some .boolean) ∈ BIG := bigT (i := 502) (by decide +kernel) (by decide +kernel)
theorem k_503 : .methodLink "LongNames" 172 ⟨"LongNames", "collectUnits", "(LLongNames$Row;II)V"⟩ ∈ BIG := bigT (i := 503) (by decide +kernel) (by decide +kernel)
theorem k_505 : .instanceMethod ⟨"LongNames", "collectUnits", "(LLongNames$Row;II)V"⟩ ∈ BIG := bigT (i := 505) (by decide +kernel) (by decide +kernel)
theorem k_506 : .code ⟨"LongNames", "collectUnits", "(LLongNames$Row;II)V"⟩ prog_1_method_16_code 7 none ∈ BIG := bigT (i := 506) (by decide +kernel) (by decide +kernel)
theorem k_507 : .methodLink "LongNames" 179 ⟨"LongNames$Part", "unitIn", "(LLongNames$Slots;II)I"⟩ ∈ BIG := bigT (i := 507) (by decide +kernel) (by decide +kernel)
theorem k_508 : .static ⟨"LongNames$Part", "unitIn", "(LLongNames$Slots;II)I"⟩ ∈ BIG := bigT (i := 508) (by decide +kernel) (by decide +kernel)
theorem k_509 : .code ⟨"LongNames$Part", "unitIn", "(LLongNames$Slots;II)I"⟩ prog_3_method_5_code 4 (some .int) ∈ BIG := bigT (i := 509) (by decide +kernel) (by decide +kernel)
theorem k_510 : .methodLink "LongNames$Part" 48 ⟨"LongNames$Slots", "get", "(II)I"⟩ ∈ BIG := bigT (i := 510) (by decide +kernel) (by decide +kernel)
theorem k_511 : .methodLink "LongNames" 175 ⟨"LongNames$Part", "isIn", "(LLongNames$Slots;I)Z"⟩ ∈ BIG := bigT (i := 511) (by decide +kernel) (by decide +kernel)
theorem k_512 : .instanceMethod ⟨"LongNames$Part", "isIn", "(LLongNames$Slots;I)Z"⟩ ∈ BIG := bigT (i := 512) (by decide +kernel) (by decide +kernel)
theorem k_513 : .selects "LongNames$Part" ⟨"LongNames$Part", "isIn", "(LLongNames$Slots;I)Z"⟩ ⟨"LongNames$Part", "isIn", "(LLongNames$Slots;I)Z"⟩ ∈ BIG := bigT (i := 513) (by decide +kernel) (by decide +kernel)
theorem k_514 : .code ⟨"LongNames$Part", "isIn", "(LLongNames$Slots;I)Z"⟩ prog_3_method_4_code 4 (some .boolean) ∈ BIG := bigT (i := 514) (by decide +kernel) (by decide +kernel)
theorem k_516 : .classLink "LongNamesLaw" 23 "LongNamesModel" ∈ BIG := bigT (i := 516) (by decide +kernel) (by decide +kernel)
theorem k_517 : .instantiable "LongNamesModel" 5 ∈ BIG := bigT (i := 517) (by decide +kernel) (by decide +kernel)
theorem k_518 : .methodLink "LongNamesLaw" 25 ⟨"LongNamesModel", "<init>", "()V"⟩ ∈ BIG := bigT (i := 518) (by decide +kernel) (by decide +kernel)
theorem k_519 : .instanceMethod ⟨"LongNamesModel", "<init>", "()V"⟩ ∈ BIG := bigT (i := 519) (by decide +kernel) (by decide +kernel)
theorem k_520 : .code ⟨"LongNamesModel", "<init>", "()V"⟩ prog_9_method_1_code 1 none ∈ BIG := bigT (i := 520) (by decide +kernel) (by decide +kernel)
theorem k_521 : .methodLink "LongNamesModel" 1 ⟨"java/lang/Object", "<init>", "()V"⟩ ∈ BIG := bigT (i := 521) (by decide +kernel) (by decide +kernel)
theorem k_522 : .fieldLink "LongNamesModel" 22 "LongNamesModel" "thrown" "I" ∈ BIG := bigT (i := 522) (by decide +kernel) (by decide +kernel)
theorem k_523 : .fieldLink "LongNamesModel" 7 "LongNamesModel" "units" "[I" ∈ BIG := bigT (i := 523) (by decide +kernel) (by decide +kernel)
theorem k_524 : .fieldLink "LongNamesModel" 13 "LongNamesModel" "sizes" "[I" ∈ BIG := bigT (i := 524) (by decide +kernel) (by decide +kernel)
theorem k_525 : .fieldLink "LongNamesModel" 16 "LongNamesModel" "bytes" "[I" ∈ BIG := bigT (i := 525) (by decide +kernel) (by decide +kernel)
theorem k_526 : .fieldLink "LongNamesModel" 19 "LongNamesModel" "brief" "[I" ∈ BIG := bigT (i := 526) (by decide +kernel) (by decide +kernel)
theorem k_527 : .lays "LongNamesModel" "LongNamesModel" "thrown" "I" ∈ BIG := bigT (i := 527) (by decide +kernel) (by decide +kernel)
theorem k_529 : .laysFinal "LongNamesModel" "LongNamesModel" "units" "[I" ∈ BIG := bigT (i := 529) (by decide +kernel) (by decide +kernel)
theorem k_531 : .laysFinal "LongNamesModel" "LongNamesModel" "sizes" "[I" ∈ BIG := bigT (i := 531) (by decide +kernel) (by decide +kernel)
theorem k_533 : .laysFinal "LongNamesModel" "LongNamesModel" "bytes" "[I" ∈ BIG := bigT (i := 533) (by decide +kernel) (by decide +kernel)
theorem k_535 : .laysFinal "LongNamesModel" "LongNamesModel" "brief" "[I" ∈ BIG := bigT (i := 535) (by decide +kernel) (by decide +kernel)
theorem k_537 : .superclass "LongNamesModel" "java/lang/Object" ∈ BIG := bigT (i := 537) (by decide +kernel) (by decide +kernel)
theorem k_538 : .methodLink "LongNamesLaw" 56 ⟨"LongNamesModel", "thrown", "()I"⟩ ∈ BIG := bigT (i := 538) (by decide +kernel) (by decide +kernel)
theorem k_539 : .instanceMethod ⟨"LongNamesModel", "thrown", "()I"⟩ ∈ BIG := bigT (i := 539) (by decide +kernel) (by decide +kernel)
theorem k_540 : .selects "LongNamesModel" ⟨"LongNamesModel", "thrown", "()I"⟩ ⟨"LongNamesModel", "thrown", "()I"⟩ ∈ BIG := bigT (i := 540) (by decide +kernel) (by decide +kernel)
theorem k_541 : .code ⟨"LongNamesModel", "thrown", "()I"⟩ prog_9_method_2_code 1 (some .int) ∈ BIG := bigT (i := 541) (by decide +kernel) (by decide +kernel)
theorem k_542 : .methodLink "LongNamesLaw" 30 ⟨"LongNamesModel", "unit", "(II)Z"⟩ ∈ BIG := bigT (i := 542) (by decide +kernel) (by decide +kernel)
theorem k_543 : .instanceMethod ⟨"LongNamesModel", "unit", "(II)Z"⟩ ∈ BIG := bigT (i := 543) (by decide +kernel) (by decide +kernel)
theorem k_544 : .selects "LongNamesModel" ⟨"LongNamesModel", "unit", "(II)Z"⟩ ⟨"LongNamesModel", "unit", "(II)Z"⟩ ∈ BIG := bigT (i := 544) (by decide +kernel) (by decide +kernel)
theorem k_545 : .code ⟨"LongNamesModel", "unit", "(II)Z"⟩ prog_9_method_5_code 3 (some .boolean) ∈ BIG := bigT (i := 545) (by decide +kernel) (by decide +kernel)
theorem k_546 : .methodLink "LongNamesModel" 26 ⟨"LongNamesModel", "isRow", "(I)Z"⟩ ∈ BIG := bigT (i := 546) (by decide +kernel) (by decide +kernel)
theorem k_547 : .static ⟨"LongNamesModel", "isRow", "(I)Z"⟩ ∈ BIG := bigT (i := 547) (by decide +kernel) (by decide +kernel)
theorem k_548 : .code ⟨"LongNamesModel", "isRow", "(I)Z"⟩ prog_9_method_3_code 1 (some .boolean) ∈ BIG := bigT (i := 548) (by decide +kernel) (by decide +kernel)
theorem k_549 : .constant "LongNamesModel" 30 65535 ∈ BIG := bigT (i := 549) (by decide +kernel) (by decide +kernel)
theorem k_550 : .methodLink "LongNamesLaw" 35 ⟨"LongNamesModel", "clear", "(I)I"⟩ ∈ BIG := bigT (i := 550) (by decide +kernel) (by decide +kernel)
theorem k_551 : .instanceMethod ⟨"LongNamesModel", "clear", "(I)I"⟩ ∈ BIG := bigT (i := 551) (by decide +kernel) (by decide +kernel)
theorem k_552 : .selects "LongNamesModel" ⟨"LongNamesModel", "clear", "(I)I"⟩ ⟨"LongNamesModel", "clear", "(I)I"⟩ ∈ BIG := bigT (i := 552) (by decide +kernel) (by decide +kernel)
theorem k_553 : .code ⟨"LongNamesModel", "clear", "(I)I"⟩ prog_9_method_6_code 3 (some .int) ∈ BIG := bigT (i := 553) (by decide +kernel) (by decide +kernel)
theorem k_554 : .methodLink "LongNamesLaw" 40 ⟨"LongNamesModel", "about", "(II)I"⟩ ∈ BIG := bigT (i := 554) (by decide +kernel) (by decide +kernel)
theorem k_555 : .instanceMethod ⟨"LongNamesModel", "about", "(II)I"⟩ ∈ BIG := bigT (i := 555) (by decide +kernel) (by decide +kernel)
theorem k_556 : .selects "LongNamesModel" ⟨"LongNamesModel", "about", "(II)I"⟩ ⟨"LongNamesModel", "about", "(II)I"⟩ ∈ BIG := bigT (i := 556) (by decide +kernel) (by decide +kernel)
theorem k_557 : .code ⟨"LongNamesModel", "about", "(II)I"⟩ prog_9_method_14_code 6 (some .int) ∈ BIG := bigT (i := 557) (by decide +kernel) (by decide +kernel)
theorem k_558 : .methodLink "LongNamesModel" 48 ⟨"LongNamesModel", "isName", "(I)Z"⟩ ∈ BIG := bigT (i := 558) (by decide +kernel) (by decide +kernel)
theorem k_560 : .instanceMethod ⟨"LongNamesModel", "isName", "(I)Z"⟩ ∈ BIG := bigT (i := 560) (by decide +kernel) (by decide +kernel)
theorem k_561 : .code ⟨"LongNamesModel", "isName", "(I)Z"⟩ prog_9_method_10_code 4 (some .boolean) ∈ BIG := bigT (i := 561) (by decide +kernel) (by decide +kernel)
theorem k_562 : .methodLink "LongNamesModel" 34 ⟨"LongNamesModel", "at", "(II)I"⟩ ∈ BIG := bigT (i := 562) (by decide +kernel) (by decide +kernel)
theorem k_564 : .instanceMethod ⟨"LongNamesModel", "at", "(II)I"⟩ ∈ BIG := bigT (i := 564) (by decide +kernel) (by decide +kernel)
theorem k_565 : .code ⟨"LongNamesModel", "at", "(II)I"⟩ prog_9_method_4_code 3 (some .int) ∈ BIG := bigT (i := 565) (by decide +kernel) (by decide +kernel)
theorem k_566 : .methodLink "LongNamesModel" 38 ⟨"LongNamesModel", "barred", "(I)Z"⟩ ∈ BIG := bigT (i := 566) (by decide +kernel) (by decide +kernel)
theorem k_567 : .static ⟨"LongNamesModel", "barred", "(I)Z"⟩ ∈ BIG := bigT (i := 567) (by decide +kernel) (by decide +kernel)
theorem k_568 : .code ⟨"LongNamesModel", "barred", "(I)Z"⟩ prog_9_method_9_code 1 (some .boolean) ∈ BIG := bigT (i := 568) (by decide +kernel) (by decide +kernel)
theorem k_569 : .constant "LongNamesModel" 31 65533 ∈ BIG := bigT (i := 569) (by decide +kernel) (by decide +kernel)
theorem k_570 : .constant "LongNamesModel" 32 55296 ∈ BIG := bigT (i := 570) (by decide +kernel) (by decide +kernel)
theorem k_571 : .constant "LongNamesModel" 33 57343 ∈ BIG := bigT (i := 571) (by decide +kernel) (by decide +kernel)
theorem k_572 : .methodLink "LongNamesModel" 51 ⟨"LongNamesModel", "isShown", "(I)Z"⟩ ∈ BIG := bigT (i := 572) (by decide +kernel) (by decide +kernel)
theorem k_574 : .instanceMethod ⟨"LongNamesModel", "isShown", "(I)Z"⟩ ∈ BIG := bigT (i := 574) (by decide +kernel) (by decide +kernel)
theorem k_575 : .code ⟨"LongNamesModel", "isShown", "(I)Z"⟩ prog_9_method_13_code 5 (some .boolean) ∈ BIG := bigT (i := 575) (by decide +kernel) (by decide +kernel)
theorem k_576 : .methodLink "LongNamesModel" 41 ⟨"LongNamesModel", "pointOf", "(I)I"⟩ ∈ BIG := bigT (i := 576) (by decide +kernel) (by decide +kernel)
theorem k_578 : .instanceMethod ⟨"LongNamesModel", "pointOf", "(I)I"⟩ ∈ BIG := bigT (i := 578) (by decide +kernel) (by decide +kernel)
theorem k_579 : .code ⟨"LongNamesModel", "pointOf", "(I)I"⟩ prog_9_method_12_code 3 (some .int) ∈ BIG := bigT (i := 579) (by decide +kernel) (by decide +kernel)
theorem k_580 : .methodLink "LongNamesModel" 45 ⟨"LongNamesModel", "isSign", "(I)Z"⟩ ∈ BIG := bigT (i := 580) (by decide +kernel) (by decide +kernel)
theorem k_581 : .static ⟨"LongNamesModel", "isSign", "(I)Z"⟩ ∈ BIG := bigT (i := 581) (by decide +kernel) (by decide +kernel)
theorem k_582 : .code ⟨"LongNamesModel", "isSign", "(I)Z"⟩ prog_9_method_11_code 1 (some .boolean) ∈ BIG := bigT (i := 582) (by decide +kernel) (by decide +kernel)
theorem k_583 : .methodLink "LongNamesModel" 54 ⟨"LongNamesModel", "partsOf", "(I)I"⟩ ∈ BIG := bigT (i := 583) (by decide +kernel) (by decide +kernel)
theorem k_584 : .static ⟨"LongNamesModel", "partsOf", "(I)I"⟩ ∈ BIG := bigT (i := 584) (by decide +kernel) (by decide +kernel)
theorem k_585 : .code ⟨"LongNamesModel", "partsOf", "(I)I"⟩ prog_9_method_7_code 1 (some .int) ∈ BIG := bigT (i := 585) (by decide +kernel) (by decide +kernel)
theorem k_586 : .methodLink "LongNamesModel" 57 ⟨"LongNamesModel", "width", "(I)I"⟩ ∈ BIG := bigT (i := 586) (by decide +kernel) (by decide +kernel)
theorem k_587 : .static ⟨"LongNamesModel", "width", "(I)I"⟩ ∈ BIG := bigT (i := 587) (by decide +kernel) (by decide +kernel)
theorem k_588 : .code ⟨"LongNamesModel", "width", "(I)I"⟩ prog_9_method_8_code 1 (some .int) ∈ BIG := bigT (i := 588) (by decide +kernel) (by decide +kernel)
theorem k_589 : .methodLink "LongNamesLaw" 44 ⟨"LongNamesModel", "letter", "(II)I"⟩ ∈ BIG := bigT (i := 589) (by decide +kernel) (by decide +kernel)
theorem k_590 : .instanceMethod ⟨"LongNamesModel", "letter", "(II)I"⟩ ∈ BIG := bigT (i := 590) (by decide +kernel) (by decide +kernel)
theorem k_591 : .selects "LongNamesModel" ⟨"LongNamesModel", "letter", "(II)I"⟩ ⟨"LongNamesModel", "letter", "(II)I"⟩ ∈ BIG := bigT (i := 591) (by decide +kernel) (by decide +kernel)
theorem k_592 : .code ⟨"LongNamesModel", "letter", "(II)I"⟩ prog_9_method_15_code 9 (some .int) ∈ BIG := bigT (i := 592) (by decide +kernel) (by decide +kernel)
theorem k_593 : .methodLink "LongNamesLaw" 49 ⟨"LongNamesModel", "alike", "()Z"⟩ ∈ BIG := bigT (i := 593) (by decide +kernel) (by decide +kernel)
theorem k_594 : .instanceMethod ⟨"LongNamesModel", "alike", "()Z"⟩ ∈ BIG := bigT (i := 594) (by decide +kernel) (by decide +kernel)
theorem k_595 : .selects "LongNamesModel" ⟨"LongNamesModel", "alike", "()Z"⟩ ⟨"LongNamesModel", "alike", "()Z"⟩ ∈ BIG := bigT (i := 595) (by decide +kernel) (by decide +kernel)
theorem k_596 : .code ⟨"LongNamesModel", "alike", "()Z"⟩ prog_9_method_17_code 3 (some .boolean) ∈ BIG := bigT (i := 596) (by decide +kernel) (by decide +kernel)
theorem k_597 : .methodLink "LongNamesModel" 60 ⟨"LongNamesModel", "capital", "(I)I"⟩ ∈ BIG := bigT (i := 597) (by decide +kernel) (by decide +kernel)
theorem k_598 : .static ⟨"LongNamesModel", "capital", "(I)I"⟩ ∈ BIG := bigT (i := 598) (by decide +kernel) (by decide +kernel)
theorem k_599 : .code ⟨"LongNamesModel", "capital", "(I)I"⟩ prog_9_method_16_code 1 (some .int) ∈ BIG := bigT (i := 599) (by decide +kernel) (by decide +kernel)
theorem k_600 : .methodLink "LongNamesLaw" 55 ⟨"LongNamesModel", "write", "(III)I"⟩ ∈ BIG := bigT (i := 600) (by decide +kernel) (by decide +kernel)
theorem k_601 : .instanceMethod ⟨"LongNamesModel", "write", "(III)I"⟩ ∈ BIG := bigT (i := 601) (by decide +kernel) (by decide +kernel)
theorem k_602 : .selects "LongNamesModel" ⟨"LongNamesModel", "write", "(III)I"⟩ ⟨"LongNamesModel", "write", "(III)I"⟩ ∈ BIG := bigT (i := 602) (by decide +kernel) (by decide +kernel)
theorem k_603 : .code ⟨"LongNamesModel", "write", "(III)I"⟩ prog_9_method_23_code 12 (some .int) ∈ BIG := bigT (i := 603) (by decide +kernel) (by decide +kernel)
theorem k_604 : .methodLink "LongNamesModel" 66 ⟨"LongNamesModel", "tailed", "(II)V"⟩ ∈ BIG := bigT (i := 604) (by decide +kernel) (by decide +kernel)
theorem k_606 : .instanceMethod ⟨"LongNamesModel", "tailed", "(II)V"⟩ ∈ BIG := bigT (i := 606) (by decide +kernel) (by decide +kernel)
theorem k_607 : .code ⟨"LongNamesModel", "tailed", "(II)V"⟩ prog_9_method_19_code 12 none ∈ BIG := bigT (i := 607) (by decide +kernel) (by decide +kernel)
theorem k_608 : .methodLink "LongNamesModel" 63 ⟨"LongNamesModel", "folded", "(I)I"⟩ ∈ BIG := bigT (i := 608) (by decide +kernel) (by decide +kernel)
theorem k_609 : .static ⟨"LongNamesModel", "folded", "(I)I"⟩ ∈ BIG := bigT (i := 609) (by decide +kernel) (by decide +kernel)
theorem k_610 : .code ⟨"LongNamesModel", "folded", "(I)I"⟩ prog_9_method_18_code 1 (some .int) ∈ BIG := bigT (i := 610) (by decide +kernel) (by decide +kernel)
theorem k_611 : .methodLink "LongNamesModel" 70 ⟨"LongNamesModel", "sumOf", "(I)I"⟩ ∈ BIG := bigT (i := 611) (by decide +kernel) (by decide +kernel)
theorem k_613 : .instanceMethod ⟨"LongNamesModel", "sumOf", "(I)I"⟩ ∈ BIG := bigT (i := 613) (by decide +kernel) (by decide +kernel)
theorem k_614 : .code ⟨"LongNamesModel", "sumOf", "(I)I"⟩ prog_9_method_20_code 4 (some .int) ∈ BIG := bigT (i := 614) (by decide +kernel) (by decide +kernel)
theorem k_615 : .methodLink "LongNamesModel" 73 ⟨"LongNamesModel", "due", "(IIZI)I"⟩ ∈ BIG := bigT (i := 615) (by decide +kernel) (by decide +kernel)
theorem k_616 : .static ⟨"LongNamesModel", "due", "(IIZI)I"⟩ ∈ BIG := bigT (i := 616) (by decide +kernel) (by decide +kernel)
theorem k_617 : .code ⟨"LongNamesModel", "due", "(IIZI)I"⟩ prog_9_method_22_code 4 (some .int) ∈ BIG := bigT (i := 617) (by decide +kernel) (by decide +kernel)
theorem k_618 : .methodLink "LongNamesModel" 77 ⟨"LongNamesModel", "placeOf", "(I)I"⟩ ∈ BIG := bigT (i := 618) (by decide +kernel) (by decide +kernel)
theorem k_619 : .static ⟨"LongNamesModel", "placeOf", "(I)I"⟩ ∈ BIG := bigT (i := 619) (by decide +kernel) (by decide +kernel)
theorem k_620 : .code ⟨"LongNamesModel", "placeOf", "(I)I"⟩ prog_9_method_21_code 1 (some .int) ∈ BIG := bigT (i := 620) (by decide +kernel) (by decide +kernel)
theorem k_621 : .methodLink "LongNamesLaw" 62 ⟨"LongNamesModel", "read", "(III)I"⟩ ∈ BIG := bigT (i := 621) (by decide +kernel) (by decide +kernel)
theorem k_622 : .instanceMethod ⟨"LongNamesModel", "read", "(III)I"⟩ ∈ BIG := bigT (i := 622) (by decide +kernel) (by decide +kernel)
theorem k_623 : .selects "LongNamesModel" ⟨"LongNamesModel", "read", "(III)I"⟩ ⟨"LongNamesModel", "read", "(III)I"⟩ ∈ BIG := bigT (i := 623) (by decide +kernel) (by decide +kernel)
theorem k_624 : .code ⟨"LongNamesModel", "read", "(III)I"⟩ prog_9_method_28_code 6 (some .int) ∈ BIG := bigT (i := 624) (by decide +kernel) (by decide +kernel)
theorem k_625 : .methodLink "LongNamesModel" 83 ⟨"LongNamesModel", "isShort", "(I)Z"⟩ ∈ BIG := bigT (i := 625) (by decide +kernel) (by decide +kernel)
theorem k_627 : .instanceMethod ⟨"LongNamesModel", "isShort", "(I)Z"⟩ ∈ BIG := bigT (i := 627) (by decide +kernel) (by decide +kernel)
theorem k_628 : .code ⟨"LongNamesModel", "isShort", "(I)Z"⟩ prog_9_method_24_code 4 (some .boolean) ∈ BIG := bigT (i := 628) (by decide +kernel) (by decide +kernel)
theorem k_629 : .methodLink "LongNamesModel" 86 ⟨"LongNamesModel", "readShown", "(II)V"⟩ ∈ BIG := bigT (i := 629) (by decide +kernel) (by decide +kernel)
theorem k_631 : .instanceMethod ⟨"LongNamesModel", "readShown", "(II)V"⟩ ∈ BIG := bigT (i := 631) (by decide +kernel) (by decide +kernel)
theorem k_632 : .code ⟨"LongNamesModel", "readShown", "(II)V"⟩ prog_9_method_26_code 4 none ∈ BIG := bigT (i := 632) (by decide +kernel) (by decide +kernel)
theorem k_633 : .methodLink "LongNamesModel" 80 ⟨"LongNamesModel", "add", "(II)V"⟩ ∈ BIG := bigT (i := 633) (by decide +kernel) (by decide +kernel)
theorem k_635 : .instanceMethod ⟨"LongNamesModel", "add", "(II)V"⟩ ∈ BIG := bigT (i := 635) (by decide +kernel) (by decide +kernel)
theorem k_636 : .code ⟨"LongNamesModel", "add", "(II)V"⟩ prog_9_method_25_code 3 none ∈ BIG := bigT (i := 636) (by decide +kernel) (by decide +kernel)
theorem k_637 : .methodLink "LongNamesModel" 89 ⟨"LongNamesModel", "readParts", "(III)Z"⟩ ∈ BIG := bigT (i := 637) (by decide +kernel) (by decide +kernel)
theorem k_639 : .instanceMethod ⟨"LongNamesModel", "readParts", "(III)Z"⟩ ∈ BIG := bigT (i := 639) (by decide +kernel) (by decide +kernel)
theorem k_640 : .code ⟨"LongNamesModel", "readParts", "(III)Z"⟩ prog_9_method_27_code 10 (some .boolean) ∈ BIG := bigT (i := 640) (by decide +kernel) (by decide +kernel)
theorem k_641 : .methodLink "LongNamesLaw" 67 ⟨"LongNamesModel", "poke", "(III)Z"⟩ ∈ BIG := bigT (i := 641) (by decide +kernel) (by decide +kernel)
theorem k_642 : .instanceMethod ⟨"LongNamesModel", "poke", "(III)Z"⟩ ∈ BIG := bigT (i := 642) (by decide +kernel) (by decide +kernel)
theorem k_643 : .selects "LongNamesModel" ⟨"LongNamesModel", "poke", "(III)Z"⟩ ⟨"LongNamesModel", "poke", "(III)Z"⟩ ∈ BIG := bigT (i := 643) (by decide +kernel) (by decide +kernel)
theorem k_644 : .code ⟨"LongNamesModel", "poke", "(III)Z"⟩ prog_9_method_30_code 4 (some .boolean) ∈ BIG := bigT (i := 644) (by decide +kernel) (by decide +kernel)
theorem k_645 : .methodLink "LongNamesModel" 93 ⟨"LongNamesModel", "isByte", "(II)Z"⟩ ∈ BIG := bigT (i := 645) (by decide +kernel) (by decide +kernel)
theorem k_646 : .static ⟨"LongNamesModel", "isByte", "(II)Z"⟩ ∈ BIG := bigT (i := 646) (by decide +kernel) (by decide +kernel)
theorem k_647 : .code ⟨"LongNamesModel", "isByte", "(II)Z"⟩ prog_9_method_29_code 2 (some .boolean) ∈ BIG := bigT (i := 647) (by decide +kernel) (by decide +kernel)
theorem k_648 : .methodLink "LongNamesLaw" 71 ⟨"LongNamesModel", "byteAt", "(II)I"⟩ ∈ BIG := bigT (i := 648) (by decide +kernel) (by decide +kernel)
theorem k_649 : .instanceMethod ⟨"LongNamesModel", "byteAt", "(II)I"⟩ ∈ BIG := bigT (i := 649) (by decide +kernel) (by decide +kernel)
theorem k_650 : .selects "LongNamesModel" ⟨"LongNamesModel", "byteAt", "(II)I"⟩ ⟨"LongNamesModel", "byteAt", "(II)I"⟩ ∈ BIG := bigT (i := 650) (by decide +kernel) (by decide +kernel)
theorem k_651 : .code ⟨"LongNamesModel", "byteAt", "(II)I"⟩ prog_9_method_31_code 3 (some .int) ∈ BIG := bigT (i := 651) (by decide +kernel) (by decide +kernel)
theorem k_652 : .methodLink "LongNamesLaw" 75 ⟨"LongNamesModel", "sum", "(I)I"⟩ ∈ BIG := bigT (i := 652) (by decide +kernel) (by decide +kernel)
theorem k_653 : .instanceMethod ⟨"LongNamesModel", "sum", "(I)I"⟩ ∈ BIG := bigT (i := 653) (by decide +kernel) (by decide +kernel)
theorem k_654 : .selects "LongNamesModel" ⟨"LongNamesModel", "sum", "(I)I"⟩ ⟨"LongNamesModel", "sum", "(I)I"⟩ ∈ BIG := bigT (i := 654) (by decide +kernel) (by decide +kernel)
theorem k_655 : .code ⟨"LongNamesModel", "sum", "(I)I"⟩ prog_9_method_32_code 2 (some .int) ∈ BIG := bigT (i := 655) (by decide +kernel) (by decide +kernel)
theorem k_656 : .methodLink "LongNamesLaw" 80 ⟨"LongNamesModel", "seconds", "(II)J"⟩ ∈ BIG := bigT (i := 656) (by decide +kernel) (by decide +kernel)
theorem k_657 : .instanceMethod ⟨"LongNamesModel", "seconds", "(II)J"⟩ ∈ BIG := bigT (i := 657) (by decide +kernel) (by decide +kernel)
theorem k_658 : .selects "LongNamesModel" ⟨"LongNamesModel", "seconds", "(II)J"⟩ ⟨"LongNamesModel", "seconds", "(II)J"⟩ ∈ BIG := bigT (i := 658) (by decide +kernel) (by decide +kernel)
theorem k_659 : .code ⟨"LongNamesModel", "seconds", "(II)J"⟩ prog_9_method_35_code 11 (some .long) ∈ BIG := bigT (i := 659) (by decide +kernel) (by decide +kernel)
theorem k_660 : .constantLong "LongNamesModel" 100 (-1) ∈ BIG := bigT (i := 660) (by decide +kernel) (by decide +kernel)
theorem k_661 : .methodLink "LongNamesModel" 102 ⟨"LongNamesModel", "lengthOf", "(II)I"⟩ ∈ BIG := bigT (i := 661) (by decide +kernel) (by decide +kernel)
theorem k_662 : .static ⟨"LongNamesModel", "lengthOf", "(II)I"⟩ ∈ BIG := bigT (i := 662) (by decide +kernel) (by decide +kernel)
theorem k_663 : .code ⟨"LongNamesModel", "lengthOf", "(II)I"⟩ prog_9_method_34_code 2 (some .int) ∈ BIG := bigT (i := 663) (by decide +kernel) (by decide +kernel)
theorem k_664 : .methodLink "LongNamesModel" 97 ⟨"LongNamesModel", "isLeap", "(I)Z"⟩ ∈ BIG := bigT (i := 664) (by decide +kernel) (by decide +kernel)
theorem k_665 : .static ⟨"LongNamesModel", "isLeap", "(I)Z"⟩ ∈ BIG := bigT (i := 665) (by decide +kernel) (by decide +kernel)
theorem k_666 : .code ⟨"LongNamesModel", "isLeap", "(I)Z"⟩ prog_9_method_33_code 1 (some .boolean) ∈ BIG := bigT (i := 666) (by decide +kernel) (by decide +kernel)
theorem k_667 : .constantLong "LongNamesModel" 105 24 ∈ BIG := bigT (i := 667) (by decide +kernel) (by decide +kernel)
theorem k_668 : .constantLong "LongNamesModel" 107 60 ∈ BIG := bigT (i := 668) (by decide +kernel) (by decide +kernel)
theorem k_669 : .arrayClass .long ∈ BIG := bigT (i := 669) (by decide +kernel) (by decide +kernel)
end
section
/-! calls: the words of a callee are BIG's -/
section GW
variable {R : Room} {s : State} {args : Array Value} {own C : String} {idx maxL mc ms : Nat} {y : MethodName} {bytes : ByteArray} {ret : Option FieldType} {rm : Room} {z : Cond}
theorem g_in {w : List Cond} (h : ∀ x ∈ w, x ∈ BIG) : GoodIn (z :: BIG) w := fun x hx => ⟨List.mem_cons_of_mem _ (h x hx), good_of_word (big_good x (h x hx))⟩
theorem gV (n : Nat) (ht : ∀ w ∈ z :: BIG, w.before args s = true) (h1 : Cond.methodLink own idx y ∈ BIG) (h2 : Cond.instanceMethod y ∈ BIG) (h3 : Cond.selects C y y ∈ BIG) (h4 : Cond.initialized C ∈ BIG) (h5 : Cond.code y bytes maxL ret ∈ BIG)
    (hd : y.cls = C ∧ y.cls ≠ "java/lang/invoke/MethodHandle" ∧ y.cls ≠ "java/lang/invoke/VarHandle" ∧ (parseMethodDescriptor y.desc).map (fun d => d.parameters.length) = some n) (hR : rm.frames + 1 ≤ R.frames ∧ 8 + (maxL + 11) + rm.locals ≤ R.locals) (hrc : rm.cells = mc := by rfl) (hrs : rm.slots = ms := by rfl) :
    CallW R s args own C idx y bytes maxL ret (Cond.code y bytes maxL ret :: BIG) rm mc ms n := by
  refine cwV n ht (g_in (fun x hx => ?_)) rfl hrc hrs hd hR
  simp only [wsV, List.cons_append, List.nil_append, List.mem_cons] at hx
  rcases hx with rfl | rfl | rfl | rfl | rfl | hx
  · exact h1
  · exact h2
  · exact h3
  · exact h4
  · exact h5
  · exact hx
theorem gS (n : Nat) (ht : ∀ w ∈ z :: BIG, w.before args s = true) (h1 : Cond.methodLink own idx y ∈ BIG) (h2 : Cond.static y ∈ BIG) (h4 : Cond.initialized y.cls ∈ BIG) (h5 : Cond.code y bytes maxL ret ∈ BIG)
    (hd : y.cls ≠ "java/lang/invoke/MethodHandle" ∧ y.cls ≠ "java/lang/invoke/VarHandle" ∧ (parseMethodDescriptor y.desc).map (fun d => d.parameters.length) = some n) (hR : rm.frames + 1 ≤ R.frames ∧ 8 + (maxL + 11) + rm.locals ≤ R.locals) (hrc : rm.cells = mc := by rfl) (hrs : rm.slots = ms := by rfl) :
    CallB R s args own idx y bytes maxL ret (Cond.code y bytes maxL ret :: BIG) rm mc ms n ∧ (Cond.static y).before args s = true := by
  refine va_cwS n ht (g_in (fun x hx => ?_)) rfl hrc hrs hd hR
  simp only [va_wsS, List.cons_append, List.nil_append, List.mem_cons] at hx
  rcases hx with rfl | rfl | rfl | rfl | hx
  · exact h1
  · exact h2
  · exact h4
  · exact h5
  · exact hx
end GW
/-! what the static tables hold, the nest's words, the texts -/
def plN (j : Nat) : Nat := if j < 5 then 2 * j + 1 else if j < 11 then 2 * j + 4 else 2 * j + 6
def mlN (j : Nat) : Nat := if j = 1 then 28 else if j = 3 ∨ j = 5 ∨ j = 8 ∨ j = 10 then 30 else 31
def nestW : List Cond := [.methodLinkNest "LongNames" 9 ⟨"LongNames$Row", "<init>", "()V"⟩ "LongNames", .methodLinkNest "LongNames" 21 ⟨"LongNames$ShortName", "<init>", "()V"⟩ "LongNames", .methodLinkNest "LongNames" 28 ⟨"LongNames$Part", "<init>", "()V"⟩ "LongNames", .methodLinkNest "LongNames" 35 ⟨"LongNames$Slots", "<init>", "()V"⟩ "LongNames"]
def strW : List (Nat × String) := [(79, "the row is no name"), (84, "the tail is not 0 to 9999"), (86, "a name that is not short needs a tail"), (93, "there are too few slots"), (108, "there is no such row"), (110, "the parts are not 0 to 20"), (112, "there is no such slot, or too few before it"), (123, "the entry has no short name"), (133, "the parts are not those of the entry")]
def sTt (A : Nat → Prop) (U : State) (H : Heap) : Prop := ∃ t1 t2 : Nat, va_Z "LongNames$Part" "PLACES" "[I" (.ref t1) A U H ∧ va_T .int t1 13 (fun j => .int (nI (plN j))) A U H ∧ va_Z "LongNames$Days" "MONTHS" "[I" (.ref t2) A U H ∧ va_T .int t2 12 (fun j => .int (nI (mlN j))) A U H
def sT (A : Nat → Prop) (U : State) (H : Heap) : Prop := sTt A U H ∧ va_Zq Bundle.tN "UNASSIGNED_STACK" Bundle.steD A U H ∧ va_Zq Bundle.tN "SUPPRESSED_SENTINEL" Bundle.listD A U H ∧ (∀ w ∈ nestW, va_Nw w U) ∧ (∀ z ∈ strW, ∃ q : Nat, vk_R "LongNames" z.1 z.2 q U)
section ST
variable {A B : Nat → Prop} {s u U : State} {H H1 : Heap}
theorem sT.tabs (h : sT A U H) : sTt A U H := h.1
theorem sT.un (h : sT A U H) : va_Zq Bundle.tN "UNASSIGNED_STACK" Bundle.steD A U H := h.2.1
theorem sT.se (h : sT A U H) : va_Zq Bundle.tN "SUPPRESSED_SENTINEL" Bundle.listD A U H := h.2.2.1
theorem sT.nest (h : sT A U H) (w : Cond) (hw : w ∈ nestW) : va_Nw w U := h.2.2.2.1 w hw
theorem sT.str (h : sT A U H) (z : Nat × String) (hz : z ∈ strW) : ∃ q : Nat, vk_R "LongNames" z.1 z.2 q U := h.2.2.2.2 z hz
theorem sT.kept (h : sT A U H) (hq : ∀ a : Nat, a < H.size → ¬ A a → H1[a]? = H[a]?) : sT A U H1 := by
  obtain ⟨⟨t1, t2, a1, a2, a3, a4⟩, b1, b2, b3, b4⟩ := h
  exact ⟨⟨t1, t2, a1.kept hq, a2.kept hq, a3.kept hq, a4.kept hq⟩, b1.kept hq, b2.kept hq, b3, b4⟩
theorem sT.narrow (h : sT A U H) (hAB : ∀ q, B q → A q) : sT B U H := by
  obtain ⟨⟨t1, t2, a1, a2, a3, a4⟩, b1, b2, b3, b4⟩ := h
  exact ⟨⟨t1, t2, a1.narrow hAB, a2.narrow hAB, a3.narrow hAB, a4.narrow hAB⟩, b1.narrow hAB, b2.narrow hAB, b3, b4⟩
theorem sT.warm (hW : s.WarmedH U.vm) (h : sT A s H) : sT A U H := by
  obtain ⟨⟨t1, t2, a1, a2, a3, a4⟩, b1, b2, b3, b4⟩ := h
  refine ⟨⟨t1, t2, va_Z.moved hW.alike a1, va_T.moved hW.alike a2, va_Z.moved hW.alike a3, va_T.moved hW.alike a4⟩, va_Zq.moved hW.alike b1, va_Zq.moved hW.alike b2, fun w hw => ?_, fun z hz => ?_⟩
  · have h9 := b3 w hw
    simp only [nestW, List.mem_cons, List.not_mem_nil, or_false] at hw
    rcases hw with rfl | rfl | rfl | rfl <;> exact va_Nw.warmM hW h9
  · obtain ⟨q, h9⟩ := b4 z hz
    exact ⟨q, vk_R.warm hW h9⟩
theorem sT.same (e : u.vm = U.vm) (h : sT A u H) : sT A U H := by
  obtain ⟨⟨t1, t2, a1, a2, a3, a4⟩, b1, b2, b3, b4⟩ := h
  have ha : u.vm.Alike U.vm := e ▸ Vm.Alike.refl u.vm
  refine ⟨⟨t1, t2, va_Z.moved ha a1, va_T.moved ha a2, va_Z.moved ha a3, va_T.moved ha a4⟩, va_Zq.moved ha b1, va_Zq.moved ha b2, fun w hw => ?_, fun z hz => ?_⟩
  · have h9 := b3 w hw
    simp only [nestW, List.mem_cons, List.not_mem_nil, or_false] at hw
    rcases hw with rfl | rfl | rfl | rfl <;> exact va_Nw.same rfl e h9
  · obtain ⟨q, h9⟩ := b4 z hz
    exact ⟨q, vk_R.same e.symm h9⟩
end ST
/-! Contracts of two kinds, and their calls. A reader (mR): the heap stays, the answer is ro. A writer (mM): the world w becomes w1 (the same addresses), nothing else changes. sT: what the static tables hold. -/
section MK
variable {p : Program} {l : Launch} {e : Env} {R : Room} {s : State} {m : MethodId} {args : Array Value} {below : List Frame} {meth : Method} {c : Code} {H : Heap} {locs : List Loc} {cells slots : Nat} {Q : State → Prop}
variable {pc : Nat} {ls : Array Slot} {rest st0 : List Value} {a : Array Value} {D : va_G} {cl : List vw_C} {tys : List (ClassId × FieldType)} {A : Nat → Prop} {H0 : Heap}
def mk_rq (ro : Option Value) : Array Value → State → Outcome → State → Prop := fun _ st o t => o = .returned ro ∧ t.heap = st.heap
def mk_wq (ro : Option Value) (D : va_G) (cl : List vw_C) (w1 : va_W) (A : Nat → Prop) : Array Value → State → Outcome → State → Prop := fun _ st o t => o = .returned ro ∧ va_P D cl w1 t.heap ∧ va_D A w1 ∧ va_F A st t
def mk_pR (D : va_G) (cl : List vw_C) (tys : List (ClassId × FieldType)) (w : va_W) : State → Prop := fun U => va_P D cl w U.heap ∧ va_K D cl tys U ∧ sT (fun _ => False) U U.heap
def mk_pM (D : va_G) (cl : List vw_C) (tys : List (ClassId × FieldType)) (w : va_W) (sz : Nat) : State → Prop := fun U => U.heap.size = sz ∧ va_P D cl w U.heap ∧ va_K D cl tys U ∧ va_D (fun _ => True) w ∧ sT (va_A w sz) U U.heap
def mR (l : Launch) (y : MethodName) (ws : List Cond) (rm : Room) (av : List Value) (D : va_G) (cl : List vw_C) (tys : List (ClassId × FieldType)) (w : va_W) (ro : Option Value) : Prop := Met l y ws rm (va_Pc av (mk_pR D cl tys w)) (mk_rq ro) 0 0 (fun _ => False)
def mM (l : Launch) (y : MethodName) (ws : List Cond) (rm : Room) (av : List Value) (D : va_G) (cl : List vw_C) (tys : List (ClassId × FieldType)) (w : va_W) (ro : Option Value) (w1 : va_W) : Prop := ∀ sz : Nat, Met l y ws rm (va_Pc av (mk_pM D cl tys w sz)) (mk_wq ro D cl w1 (va_A w sz)) 0 0 (va_A w sz)
/-- behind a reader's call -/
theorem mk_r1 {v : Value} (hr : CallRun p l e R s m args below meth c H locs cells slots 0 0 (F0 m pc ls st0) rest (mk_rq (some v) a) (fun _ => False))
    (kk : W p l e R s m args below meth c H locs cells slots Q (F0 m (pc + 3) ls (v :: rest))) : W p l e R s m args below meth c H locs cells slots Q (F0 m pc ls st0) := by
  intro T hT X
  obtain ⟨v2, st₀, t, T', L, h0, X', hL, e1, ⟨hv, hh⟩, st⟩ := hr T hT X
  cases hv
  obtain ⟨t2, a1, b1⟩ := kk T' (by rw [e1, hh, h0]) (Stand.forget X' (fun q h => (hL q h).elim))
  exact ⟨t2, st t2 a1, b1⟩
theorem mk_sJ {wc w1 : va_W} {L : List Loc} {st₀ t : State} (h0 : st₀.heap = H) (hS : va_S A H0 H locs) (hF : ∀ q, va_A wc H.size q → A q) (hFr : va_F (va_A wc H.size) st₀ t) (hL : ∀ q ∈ L, va_A wc H.size q.base) : va_S A H0 t.heap (locs ++ L) := by
  obtain ⟨f1, f2⟩ := hFr
  rw [h0] at f1 f2
  refine ⟨Nat.le_trans hS.1 f1, fun q h1 h2 => ?_, fun q hq => ?_⟩
  · rw [f2 q (Nat.lt_of_lt_of_le h1 hS.1) (fun z => h2 (hF q z))]
    exact hS.2.1 q h1 h2
  · rcases List.mem_append.mp hq with h | h
    · exact hS.2.2 q h
    · exact hF _ (hL q h)
/-- behind a writer's call: the rest, and the callee's world -/
theorem mk_w1 {v : Value} {ws wc wr w1 : va_W} (hr : CallRun p l e R s m args below meth c H locs cells slots 0 0 (F0 m pc ls st0) rest (mk_wq (some v) D cl w1 (va_A wc H.size) a) (va_A wc H.size))
    (hP : va_P D cl ws H) (hD : va_D A ws) (hS : va_S A H0 H locs) (hA : ∀ q, H0.size ≤ q → A q) (isC isR : List Nat) (hC : isC.map (fun i => ws[i]?) = wc.map some) (hR : isR.map (fun i => ws[i]?) = wr.map some) (hn : va_nd isR = true) (hdis : ∀ i ∈ isR, i ∉ isC)
    (kk : ∀ (H1 : Heap) (locs1 : List Loc), va_P D cl (wr ++ w1) H1 → va_D A (wr ++ w1) → va_S A H0 H1 locs1 → W p l e R s m args below meth c H1 locs1 cells slots Q (F0 m (pc + 3) ls (v :: rest))) : W p l e R s m args below meth c H locs cells slots Q (F0 m pc ls st0) := by
  have hF := va_free hD hS hA isC hC
  intro T hT X
  obtain ⟨v2, st₀, t, T', L, h0, X', hL, e1, ⟨hv, hP1, hD1, hFr⟩, st⟩ := hr T hT X
  cases hv
  obtain ⟨hP', hD'⟩ := va_join hP hD isC isR hC hR hn hdis (fun q h1 h2 => by rw [hFr.2 q (by rw [h0]; exact h1) h2, h0]) hF hP1 hD1
  obtain ⟨t2, a1, b1⟩ := kk t.heap (locs ++ L) hP' hD' (mk_sJ (w1 := w1) h0 hS hF hFr hL) T' e1 X'
  exact ⟨t2, st t2 a1, b1⟩
theorem mk_w0 {ws wc wr w1 : va_W} (hr : CallRun p l e R s m args below meth c H locs cells slots 0 0 (F0 m pc ls st0) rest (mk_wq none D cl w1 (va_A wc H.size) a) (va_A wc H.size))
    (hP : va_P D cl ws H) (hD : va_D A ws) (hS : va_S A H0 H locs) (hA : ∀ q, H0.size ≤ q → A q) (isC isR : List Nat) (hC : isC.map (fun i => ws[i]?) = wc.map some) (hR : isR.map (fun i => ws[i]?) = wr.map some) (hn : va_nd isR = true) (hdis : ∀ i ∈ isR, i ∉ isC)
    (kk : ∀ (H1 : Heap) (locs1 : List Loc), va_P D cl (wr ++ w1) H1 → va_D A (wr ++ w1) → va_S A H0 H1 locs1 → W p l e R s m args below meth c H1 locs1 cells slots Q (F0 m (pc + 3) ls rest)) : W p l e R s m args below meth c H locs cells slots Q (F0 m pc ls st0) := by
  have hF := va_free hD hS hA isC hC
  intro T hT X
  obtain ⟨v2, st₀, t, T', L, h0, X', hL, e1, ⟨hv, hP1, hD1, hFr⟩, st⟩ := hr T hT X
  cases hv
  obtain ⟨hP', hD'⟩ := va_join hP hD isC isR hC hR hn hdis (fun q h1 h2 => by rw [hFr.2 q (by rw [h0]; exact h1) h2, h0]) hF hP1 hD1
  obtain ⟨t2, a1, b1⟩ := kk t.heap (locs ++ L) hP' hD' (mk_sJ (w1 := w1) h0 hS hF hFr hL) T' e1 X'
  exact ⟨t2, st t2 a1, b1⟩
/-- what a call gives its callee -/
theorem mk_bR {av : List Value} {w : va_W} : FrameBlind (va_Pc av (mk_pR D cl tys w)) := by
  intro a U g mk h
  obtain ⟨h1, h2, h3, h4⟩ := h
  exact ⟨h1, h2, va_K.moved (u := U) (U := U.calling g mk a) (Vm.Alike.refl U.vm) h3, sT.same (u := U) (U := U.calling g mk a) rfl h4⟩
theorem mk_bM {av : List Value} {w : va_W} {sz : Nat} : FrameBlind (va_Pc av (mk_pM D cl tys w sz)) := by
  intro a U g mk h
  obtain ⟨h1, h2, h3, h4, h5, h6⟩ := h
  exact ⟨h1, h2, h3, va_K.moved (u := U) (U := U.calling g mk a) (Vm.Alike.refl U.vm) h4, h5, sT.same (u := U) (U := U.calling g mk a) rfl h6⟩
theorem mk_sR {As : List Value} {ws w : va_W} (hP : va_P D cl ws H) (hK : va_K D cl tys s) (hT : sT A s s.heap) (hS : va_S A s.heap H locs) (is : List Nat) (hs : is.filterMap (fun i => ws[i]?) = w) : PreS s H (va_Pc As (mk_pR D cl tys w)) As :=
  ⟨mk_bR, fun U hU hW => ⟨rfl, by rw [hU]; exact hP.sub is hs, va_K.moved hW.alike hK, by rw [hU]; exact sT.warm hW ((hT.kept (fun q h1 h2 => hS.2.1 q h1 h2)).narrow (fun _ h => h.elim))⟩⟩
theorem mk_sM {As : List Value} {ws w : va_W} (hP : va_P D cl ws H) (hD : va_D A ws) (hK : va_K D cl tys s) (hT : sT A s s.heap) (hS : va_S A s.heap H locs) (hA : ∀ q, s.heap.size ≤ q → A q) (is : List Nat) (hs : is.filterMap (fun i => ws[i]?) = w) (hs2 : is.map (fun i => ws[i]?) = w.map some) (hn : va_nd is = true) : PreS s H (va_Pc As (mk_pM D cl tys w H.size)) As :=
  ⟨mk_bM, fun U hU hW => ⟨rfl, by rw [hU], by rw [hU]; exact hP.sub is hs, va_K.moved hW.alike hK, (hD.sub is hn hs2).weaken (fun _ _ _ _ => trivial), by rw [hU]; exact sT.warm hW ((hT.kept (fun q h1 h2 => hS.2.1 q h1 h2)).narrow (va_free hD hS hA is hs2))⟩⟩
theorem mk_vR {As : List Value} {ws w : va_W} {C : String} {b : Nat} (hP : va_P D cl ws H) (hK : va_K D cl tys s) (hT : sT A s s.heap) (hS : va_S A s.heap H locs) (is : List Nat) (hs : is.filterMap (fun i => ws[i]?) = w) {q0 ci : Nat} {T : u_T} {N : Nat} {fs : List Value} (hc : cl[ci]? = some (C, T, N)) (he : ws[q0]? = some (b, .inr (ci, fs))) : PreV s H C b (va_Pc (.ref b :: As) (mk_pR D cl tys w)) As :=
  ⟨mk_bR, va_recv hK hP hc he, (mk_sR hP hK hT hS is hs).2⟩
theorem mk_vM {As : List Value} {ws w : va_W} {C : String} {b : Nat} (hP : va_P D cl ws H) (hD : va_D A ws) (hK : va_K D cl tys s) (hT : sT A s s.heap) (hS : va_S A s.heap H locs) (hA : ∀ q, s.heap.size ≤ q → A q) (is : List Nat) (hs : is.filterMap (fun i => ws[i]?) = w) (hs2 : is.map (fun i => ws[i]?) = w.map some) (hn : va_nd is = true) {q0 ci : Nat} {T : u_T} {N : Nat} {fs : List Value} (hc : cl[ci]? = some (C, T, N)) (he : ws[q0]? = some (b, .inr (ci, fs))) : PreV s H C b (va_Pc (.ref b :: As) (mk_pM D cl tys w H.size)) As :=
  ⟨mk_bM, va_recv hK hP hc he, (mk_sM hP hD hK hT hS hA is hs hs2 hn).2⟩
end MK
section MI
variable {l : Launch} {y : MethodName} {ws ws' : List Cond} {rm : Room} {cc : ByteArray} {maxL : Nat} {av : List Value} {D : va_G} {cl : List vw_C} {tys : List (ClassId × FieldType)} {w : va_W}
/-- a reader's body: int, boolean -/
theorem mk_Ri {ty : FieldType} {r : Int32} (hy : plainName y.cls = true) (hw : ws = Cond.code y cc maxL (some ty) :: ws') (hlen : (lg_sl av).length ≤ maxL) (hnar : narrow ty (.int r) = .int r)
    (body : ∀ (p : Program) (e : Env) (s : State) (m : MethodId) (below : List Frame) (meth : Method) (c : Code) (Q : State → Prop) (A : Nat → Prop) (ls : Array Slot), CallFix p m c cc maxL s av.toArray ws y.cls → va_P D cl w s.heap → va_K D cl tys s → sT A s s.heap → va_S A s.heap s.heap [] → lv_has ls maxL (lv_args 0 av) →
      (∀ (pc : Nat) (ls : Array Slot), decode cc pc = .ok (.ireturn, 1) → W p l e rm s m av.toArray below meth c s.heap [] 0 0 Q (F0 m pc ls [.int r])) → W p l e rm s m av.toArray below meth c s.heap [] 0 0 Q (F0 m 0 ls [])) : mR l y ws rm av D cl tys w (some (.int r)) := by
  refine Met.ofW (cc := cc) (maxL := maxL) (ret := some ty) hy hw ?_
  intro p e s m args below meth c s₁ B hml hv
  obtain ⟨rfl, hP, hK, hT⟩ := hv
  have hl := lv_entry av (n := maxL) hlen
  have hlocks := B.notSynchronized
  rw [lg_entry_eq]
  generalize (lg_sl av ++ List.replicate (maxL - (lg_sl av).length) Slot.unset).toArray = ls at hl ⊢
  exact body p e s m below meth c _ _ ls ⟨B.exec, B.bytes, hml, findClass_of_methodNamed B.named, atoms_spec (ws := ws) B.pre⟩ hP hK hT va_S.rf hl
    (fun pc ls hd => W.zret B.exec B.bytes B.returns hnar (fun t ht hW => ⟨rfl, ht⟩) (fun q h => by cases h) hd)
/-- long -/
theorem mk_Rl {r : Int64} (hy : plainName y.cls = true) (hw : ws = Cond.code y cc maxL (some .long) :: ws') (hlen : (lg_sl av).length ≤ maxL)
    (body : ∀ (p : Program) (e : Env) (s : State) (m : MethodId) (below : List Frame) (meth : Method) (c : Code) (Q : State → Prop) (A : Nat → Prop) (ls : Array Slot), CallFix p m c cc maxL s av.toArray ws y.cls → va_P D cl w s.heap → va_K D cl tys s → sT A s s.heap → va_S A s.heap s.heap [] → lv_has ls maxL (lv_args 0 av) →
      (∀ (pc : Nat) (ls : Array Slot), decode cc pc = .ok (.lreturn, 1) → W p l e rm s m av.toArray below meth c s.heap [] 0 0 Q (F0 m pc ls [.long r])) → W p l e rm s m av.toArray below meth c s.heap [] 0 0 Q (F0 m 0 ls [])) : mR l y ws rm av D cl tys w (some (.long r)) := by
  refine Met.ofW (cc := cc) (maxL := maxL) (ret := some .long) hy hw ?_
  intro p e s m args below meth c s₁ B hml hv
  obtain ⟨rfl, hP, hK, hT⟩ := hv
  have hl := lv_entry av (n := maxL) hlen
  have hlocks := B.notSynchronized
  rw [lg_entry_eq]
  generalize (lg_sl av ++ List.replicate (maxL - (lg_sl av).length) Slot.unset).toArray = ls at hl ⊢
  exact body p e s m below meth c _ _ ls ⟨B.exec, B.bytes, hml, findClass_of_methodNamed B.named, atoms_spec (ws := ws) B.pre⟩ hP hK hT va_S.rf hl
    (fun pc ls hd => W.lret B.exec B.bytes B.returns (fun t ht hW => ⟨rfl, ht⟩) (fun q h => by cases h) hd)
/-- a reference or null -/
theorem mk_Ra {rt : FieldType} {v : Value} (hy : plainName y.cls = true) (hw : ws = Cond.code y cc maxL (some rt) :: ws') (hlen : (lg_sl av).length ≤ maxL) (hrt : (∃ n, rt = .object n) ∨ ∃ t, rt = .array t) (hv : v = .null ∨ ∃ a, v = .ref a)
    (body : ∀ (p : Program) (e : Env) (s : State) (m : MethodId) (below : List Frame) (meth : Method) (c : Code) (Q : State → Prop) (A : Nat → Prop) (ls : Array Slot), CallFix p m c cc maxL s av.toArray ws y.cls → va_P D cl w s.heap → va_K D cl tys s → sT A s s.heap → va_S A s.heap s.heap [] → lv_has ls maxL (lv_args 0 av) →
      (∀ (pc : Nat) (ls : Array Slot), decode cc pc = .ok (.areturn, 1) → W p l e rm s m av.toArray below meth c s.heap [] 0 0 Q (F0 m pc ls [v])) → W p l e rm s m av.toArray below meth c s.heap [] 0 0 Q (F0 m 0 ls [])) : mR l y ws rm av D cl tys w (some v) := by
  refine Met.ofW (cc := cc) (maxL := maxL) (ret := some rt) hy hw ?_
  intro p e s m args below meth c s₁ B hml hv2
  obtain ⟨rfl, hP, hK, hT⟩ := hv2
  have hl := lv_entry av (n := maxL) hlen
  have hlocks := B.notSynchronized
  rw [lg_entry_eq]
  generalize (lg_sl av ++ List.replicate (maxL - (lg_sl av).length) Slot.unset).toArray = ls at hl ⊢
  exact body p e s m below meth c _ _ ls ⟨B.exec, B.bytes, hml, findClass_of_methodNamed B.named, atoms_spec (ws := ws) B.pre⟩ hP hK hT va_S.rf hl
    (fun pc ls hd => W.aret B.exec B.bytes B.returns hrt hv (fun t ht hW => ⟨rfl, ht⟩) (fun q h => by cases h) hd)
/-- a writer's body: int, boolean -/
theorem mk_Mi {ty : FieldType} {r : Int32} {w1 : va_W} (hy : plainName y.cls = true) (hw : ws = Cond.code y cc maxL (some ty) :: ws') (hlen : (lg_sl av).length ≤ maxL) (hnar : narrow ty (.int r) = .int r)
    (body : ∀ (p : Program) (e : Env) (s : State) (m : MethodId) (below : List Frame) (meth : Method) (c : Code) (Q : State → Prop) (A : Nat → Prop) (ls : Array Slot), CallFix p m c cc maxL s av.toArray ws y.cls → va_P D cl w s.heap → va_K D cl tys s → sT A s s.heap → va_S A s.heap s.heap [] → lv_has ls maxL (lv_args 0 av) → va_D A w → (∀ q : Nat, s.heap.size ≤ q → A q) →
      (∀ (pc : Nat) (ls : Array Slot) (H : Heap) (locs : List Loc), decode cc pc = .ok (.ireturn, 1) → va_P D cl w1 H → va_D A w1 → va_S A s.heap H locs → W p l e rm s m av.toArray below meth c H locs 0 0 Q (F0 m pc ls [.int r])) → W p l e rm s m av.toArray below meth c s.heap [] 0 0 Q (F0 m 0 ls [])) : mM l y ws rm av D cl tys w (some (.int r)) w1 := by
  intro sz
  refine Met.ofW (cc := cc) (maxL := maxL) (ret := some ty) hy hw ?_
  intro p e s m args below meth c s₁ B hml hv
  obtain ⟨rfl, hsz, hP, hK, hD0, hT⟩ := hv
  subst hsz
  have hD := hD0.self (sz := s.heap.size)
  have hA : ∀ q : Nat, s.heap.size ≤ q → va_A w s.heap.size q := fun q h => Or.inr h
  have hl := lv_entry av (n := maxL) hlen
  have hlocks := B.notSynchronized
  rw [lg_entry_eq]
  generalize (lg_sl av ++ List.replicate (maxL - (lg_sl av).length) Slot.unset).toArray = ls at hl ⊢
  generalize va_A w s.heap.size = A at hD hA hT ⊢
  exact body p e s m below meth c _ A ls ⟨B.exec, B.bytes, hml, findClass_of_methodNamed B.named, atoms_spec (ws := ws) B.pre⟩ hP hK hT va_S.rf hl hD hA
    (fun pc ls H locs hd hP1 hD1 hS1 => W.zret B.exec B.bytes B.returns hnar (fun t ht hW => ⟨rfl, by rw [ht]; exact hP1, hD1, hS1.F ht⟩) hS1.2.2 hd)
/-- a writer's body: void -/
theorem mk_Mv {w1 : va_W} (hy : plainName y.cls = true) (hw : ws = Cond.code y cc maxL none :: ws') (hlen : (lg_sl av).length ≤ maxL)
    (body : ∀ (p : Program) (e : Env) (s : State) (m : MethodId) (below : List Frame) (meth : Method) (c : Code) (Q : State → Prop) (A : Nat → Prop) (ls : Array Slot), CallFix p m c cc maxL s av.toArray ws y.cls → va_P D cl w s.heap → va_K D cl tys s → sT A s s.heap → va_S A s.heap s.heap [] → lv_has ls maxL (lv_args 0 av) → va_D A w → (∀ q : Nat, s.heap.size ≤ q → A q) →
      (∀ (pc : Nat) (ls : Array Slot) (H : Heap) (locs : List Loc), decode cc pc = .ok (.return_, 1) → va_P D cl w1 H → va_D A w1 → va_S A s.heap H locs → W p l e rm s m av.toArray below meth c H locs 0 0 Q (F0 m pc ls [])) → W p l e rm s m av.toArray below meth c s.heap [] 0 0 Q (F0 m 0 ls [])) : mM l y ws rm av D cl tys w none w1 := by
  intro sz
  refine Met.ofW (cc := cc) (maxL := maxL) (ret := none) hy hw ?_
  intro p e s m args below meth c s₁ B hml hv
  obtain ⟨rfl, hsz, hP, hK, hD0, hT⟩ := hv
  subst hsz
  have hD := hD0.self (sz := s.heap.size)
  have hA : ∀ q : Nat, s.heap.size ≤ q → va_A w s.heap.size q := fun q h => Or.inr h
  have hl := lv_entry av (n := maxL) hlen
  have hlocks := B.notSynchronized
  rw [lg_entry_eq]
  generalize (lg_sl av ++ List.replicate (maxL - (lg_sl av).length) Slot.unset).toArray = ls at hl ⊢
  generalize va_A w s.heap.size = A at hD hA hT ⊢
  exact body p e s m below meth c _ A ls ⟨B.exec, B.bytes, hml, findClass_of_methodNamed B.named, atoms_spec (ws := ws) B.pre⟩ hP hK hT va_S.rf hl hD hA
    (fun pc ls H locs hd hP1 hD1 hS1 => W.vret B.exec B.bytes B.returns (fun t ht hW => ⟨rfl, by rw [ht]; exact hP1, hD1, hS1.F ht⟩) hS1.2.2 hd)
end MI
section MT
variable {p : Program} {l : Launch} {e : Env} {R : Room} {s : State} {m : MethodId} {args : Array Value} {below : List Frame} {meth : Method} {c : Code} {H : Heap} {locs : List Loc} {cells slots : Nat} {Q : State → Prop}
variable {pc : Nat} {ls : Array Slot} {rest : List Value}
theorem mk_ti {x y : Int32} (h : x = y) (k : W p l e R s m args below meth c H locs cells slots Q (F0 m pc ls (.int y :: rest))) : W p l e R s m args below meth c H locs cells slots Q (F0 m pc ls (.int x :: rest)) := by rw [h]; exact k
theorem mk_tl {x y : Int64} (h : x = y) (k : W p l e R s m args below meth c H locs cells slots Q (F0 m pc ls (.long y :: rest))) : W p l e R s m args below meth c H locs cells slots Q (F0 m pc ls (.long x :: rest)) := by rw [h]; exact k
theorem mk_tv {x y : Value} (h : x = y) (k : W p l e R s m args below meth c H locs cells slots Q (F0 m pc ls (y :: rest))) : W p l e R s m args below meth c H locs cells slots Q (F0 m pc ls (x :: rest)) := by rw [h]; exact k
end MT
def bI (b : Bool) : Int32 := if b then 1 else 0
theorem bI_t : bI true = 1 := rfl
theorem bI_f : bI false = 0 := rfl
theorem bI_0 {b : Bool} (h : bI b = 0) : b = false := by
  cases b
  · rfl
  · exact absurd h (by decide)
theorem bI_1 {b : Bool} (h : ¬ bI b = 0) : b = true := by
  cases b
  · exact absurd rfl h
  · rfl
theorem mk_nz (b : Bool) : narrow .boolean (.int (bI b)) = .int (bI b) := by cases b <;> rfl
theorem mk_i1 (i : Nat) : nI i + Int32.ofInt 1 = nI (i + 1) := nI_1 i
theorem mk_im1 (i : Nat) : nI (i + 1) + Int32.ofInt (-1) = nI i := pk_m1 i
theorem mk_dec (x : Int32) : x + Int32.ofInt (-1) = x - 1 := by
  rw [show Int32.ofInt (-1) = -1 from rfl, Int32.sub_eq_add_neg]
theorem mk_clt {n : Nat} (h : n < 2 ^ 31) : (nI n < 0) ↔ False := ⟨fun q => nI_pos h q, fun q => q.elim⟩
theorem mk_cge {n : Nat} (h : n < 2 ^ 31) : (0 ≤ nI n) ↔ True := ⟨fun _ => trivial, fun _ => nI_pos' h⟩
theorem mk_cgt {n : Nat} (h : n < 2 ^ 31) : (0 < nI n) ↔ 0 < n := by
  rw [← nI_0]; exact nI_ltI (by decide) h
theorem mk_cle {n : Nat} (h : n < 2 ^ 31) : (nI n ≤ 0) ↔ n = 0 := by
  rw [← nI_0, nI_leI h (by decide)]; omega
theorem mk_ceq {n : Nat} (h : n < 2 ^ 31) : (nI n = 0) ↔ n = 0 := by
  rw [← nI_0]; exact nI_eq h (by decide)
theorem mk_in {x : Int32} {n : Nat} (h0 : ¬ x < 0) (h1 : ¬ nI n ≤ x) (hn : n < 2 ^ 31) : vp_in x n := by
  rcases pk_ix x hn with h | h | ⟨j, hj, rfl⟩
  · exact absurd h h0
  · exact absurd h h1
  · exact vp_in_nI hj hn
/-! constructors: the world w, and cells that come, at addresses q 0, q 1 .. -/
def mk_cq (D : va_G) (cl : List vw_C) (w1 : (Nat → Nat) → va_W) (A : Nat → Prop) : Array Value → State → Outcome → State → Prop := fun _ st o t => o = .returned none ∧ ∃ q : Nat → Nat, va_P D cl (w1 q) t.heap ∧ va_D A (w1 q) ∧ va_F A st t
def mC (l : Launch) (y : MethodName) (ws : List Cond) (rm : Room) (av : List Value) (D : va_G) (cl : List vw_C) (tys : List (ClassId × FieldType)) (w : va_W) (w1 : (Nat → Nat) → va_W) (mc ms : Nat) : Prop := ∀ sz : Nat, Met l y ws rm (va_Pc av (mk_pM D cl tys w sz)) (mk_cq D cl w1 (va_A w sz)) mc ms (va_A w sz)
section MC
variable {p : Program} {l : Launch} {e : Env} {R : Room} {s : State} {m : MethodId} {args : Array Value} {below : List Frame} {meth : Method} {c : Code} {H : Heap} {locs : List Loc} {cells slots : Nat} {Q : State → Prop}
variable {pc : Nat} {ls : Array Slot} {rest st0 : List Value} {a : Array Value} {D : va_G} {cl : List vw_C} {tys : List (ClassId × FieldType)} {A : Nat → Prop} {H0 : Heap}
theorem mk_c0 {mc ms : Nat} {ws wc wr : va_W} {w1 : (Nat → Nat) → va_W} (hr : CallRun p l e R s m args below meth c H locs cells slots mc ms (F0 m pc ls st0) rest (mk_cq D cl w1 (va_A wc H.size) a) (va_A wc H.size))
    (hP : va_P D cl ws H) (hD : va_D A ws) (hS : va_S A H0 H locs) (hA : ∀ q, H0.size ≤ q → A q) (isC isR : List Nat) (hC : isC.map (fun i => ws[i]?) = wc.map some) (hR : isR.map (fun i => ws[i]?) = wr.map some) (hn : va_nd isR = true) (hdis : ∀ i ∈ isR, i ∉ isC)
    (kk : ∀ (q : Nat → Nat) (H1 : Heap) (locs1 : List Loc), va_P D cl (wr ++ w1 q) H1 → va_D A (wr ++ w1 q) → va_S A H0 H1 locs1 → W p l e R s m args below meth c H1 locs1 (cells + mc) (slots + ms) Q (F0 m (pc + 3) ls rest)) : W p l e R s m args below meth c H locs cells slots Q (F0 m pc ls st0) := by
  have hF := va_free hD hS hA isC hC
  intro T hT X
  obtain ⟨v2, st₀, t, T', L, h0, X', hL, e1, ⟨hv, q, hP1, hD1, hFr⟩, st⟩ := hr T hT X
  cases hv
  obtain ⟨hP', hD'⟩ := va_join hP hD isC isR hC hR hn hdis (fun q h1 h2 => by rw [hFr.2 q (by rw [h0]; exact h1) h2, h0]) hF hP1 hD1
  obtain ⟨t2, a1, b1⟩ := kk q t.heap (locs ++ L) hP' hD' (mk_sJ (w1 := w1 q) h0 hS hF hFr hL) T' e1 X'
  exact ⟨t2, st t2 a1, b1⟩
theorem mk_cA {cI cA : ClassId} (h : va_K D cl ([(cI, .int)] ++ [(cA, .int)]) s) : cA = cI :=
  Option.some.inj ((va_nm_int (h.2 1 (cA, .int) rfl).2).symm.trans (va_nm_int (h.2 0 (cI, .int) rfl).2))
end MC
section MCI
variable {l : Launch} {y : MethodName} {ws ws' : List Cond} {rm : Room} {cc : ByteArray} {maxL : Nat} {av : List Value} {D : va_G} {cl : List vw_C} {tys : List (ClassId × FieldType)} {w : va_W}
theorem mk_Cv {w1 : (Nat → Nat) → va_W} {mc ms : Nat} (hy : plainName y.cls = true) (hw : ws = Cond.code y cc maxL none :: ws') (hlen : (lg_sl av).length ≤ maxL)
    (body : ∀ (p : Program) (e : Env) (s : State) (m : MethodId) (below : List Frame) (meth : Method) (c : Code) (Q : State → Prop) (A : Nat → Prop) (ls : Array Slot), CallFix p m c cc maxL s av.toArray ws y.cls → va_P D cl w s.heap → va_K D cl tys s → sT A s s.heap → va_S A s.heap s.heap [] → lv_has ls maxL (lv_args 0 av) → va_D A w → (∀ q : Nat, s.heap.size ≤ q → A q) → meth.name = y.name →
      (∀ (pc : Nat) (ls : Array Slot) (H : Heap) (locs : List Loc) (q : Nat → Nat), decode cc pc = .ok (.return_, 1) → va_P D cl (w1 q) H → va_D A (w1 q) → va_S A s.heap H locs → W p l e rm s m av.toArray below meth c H locs mc ms Q (F0 m pc ls [])) → W p l e rm s m av.toArray below meth c s.heap [] 0 0 Q (F0 m 0 ls [])) : mC l y ws rm av D cl tys w w1 mc ms := by
  intro sz
  refine Met.ofW (cc := cc) (maxL := maxL) (ret := none) hy hw ?_
  intro p e s m args below meth c s₁ B hml hv
  obtain ⟨rfl, hsz, hP, hK, hD0, hT⟩ := hv
  subst hsz
  have hD := hD0.self (sz := s.heap.size)
  have hA : ∀ q : Nat, s.heap.size ≤ q → va_A w s.heap.size q := fun q h => Or.inr h
  have hl := lv_entry av (n := maxL) hlen
  have hlocks := B.notSynchronized
  rw [lg_entry_eq]
  generalize (lg_sl av ++ List.replicate (maxL - (lg_sl av).length) Slot.unset).toArray = ls at hl ⊢
  generalize va_A w s.heap.size = A at hD hA hT ⊢
  exact body p e s m below meth c _ A ls ⟨B.exec, B.bytes, hml, findClass_of_methodNamed B.named, atoms_spec (ws := ws) B.pre⟩ hP hK hT va_S.rf hl hD hA (name_of_methodNamed B.named B.method).1
    (fun pc ls H locs q hd hP1 hD1 hS1 => W.vret B.exec B.bytes B.returns (fun t ht hW => ⟨rfl, q, by rw [ht]; exact hP1, hD1, hS1.F ht⟩) hS1.2.2 hd)
end MCI
end
