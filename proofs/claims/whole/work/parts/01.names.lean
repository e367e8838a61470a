-- ===== PART A: goes FIRST, ahead of the names: the tables' words, and 'selects' of the private methods out of them =====
/-- a private method of a class that the tables say can be made, by its rows of tables_1 -/
def lw_okq (q : MethodName × Nat) : Prop := (q.1.cls ≠ "java/lang/invoke/MethodHandle" ∧ q.1.cls ≠ "java/lang/invoke/VarHandle") ∧ Cond.instantiable q.1.cls q.2 ∈ tables_1 ∧ Cond.privateMethod q.1 ∈ tables_1 ∧ Cond.instanceMethod q.1 ∈ tables_1
theorem lw_p0 : lw_okq (⟨"LongNames", "rowOf", "(I)LLongNames$Row;"⟩, 5) := ⟨⟨by decide +kernel, by decide +kernel⟩, List.mem_of_getElem? (i := 17) (by decide +kernel), List.mem_of_getElem? (i := 89) (by decide +kernel), List.mem_of_getElem? (i := 90) (by decide +kernel)⟩
theorem lw_p1 : lw_okq (⟨"java/lang/Throwable", "fillInStackTrace", "(I)Ljava/lang/Throwable;"⟩, 6) := ⟨⟨by decide +kernel, by decide +kernel⟩, List.mem_of_getElem? (i := 302) (by decide +kernel), List.mem_of_getElem? (i := 300) (by decide +kernel), List.mem_of_getElem? (i := 301) (by decide +kernel)⟩
theorem lw_p2 : lw_okq (⟨"LongNames$ShortName", "shorten", "(LLongNames$Row;IIII)I"⟩, 1) := ⟨⟨by decide +kernel, by decide +kernel⟩, List.mem_of_getElem? (i := 39) (by decide +kernel), List.mem_of_getElem? (i := 359) (by decide +kernel), List.mem_of_getElem? (i := 360) (by decide +kernel)⟩
theorem lw_p3 : lw_okq (⟨"LongNames$ShortName", "set", "(II)V"⟩, 1) := ⟨⟨by decide +kernel, by decide +kernel⟩, List.mem_of_getElem? (i := 39) (by decide +kernel), List.mem_of_getElem? (i := 369) (by decide +kernel), List.mem_of_getElem? (i := 370) (by decide +kernel)⟩
theorem lw_p4 : lw_okq (⟨"LongNames$ShortName", "setNumber", "(III)V"⟩, 1) := ⟨⟨by decide +kernel, by decide +kernel⟩, List.mem_of_getElem? (i := 39) (by decide +kernel), List.mem_of_getElem? (i := 380) (by decide +kernel), List.mem_of_getElem? (i := 381) (by decide +kernel)⟩
theorem lw_p5 : lw_okq (⟨"LongNames", "writeSlots", "(LLongNames$Row;II)V"⟩, 5) := ⟨⟨by decide +kernel, by decide +kernel⟩, List.mem_of_getElem? (i := 17) (by decide +kernel), List.mem_of_getElem? (i := 384) (by decide +kernel), List.mem_of_getElem? (i := 385) (by decide +kernel)⟩
theorem lw_p6 : lw_okq (⟨"LongNames$ShortName", "get", "(I)I"⟩, 1) := ⟨⟨by decide +kernel, by decide +kernel⟩, List.mem_of_getElem? (i := 39) (by decide +kernel), List.mem_of_getElem? (i := 392) (by decide +kernel), List.mem_of_getElem? (i := 393) (by decide +kernel)⟩
theorem lw_p7 : lw_okq (⟨"LongNames$Part", "set", "(II)V"⟩, 1) := ⟨⟨by decide +kernel, by decide +kernel⟩, List.mem_of_getElem? (i := 49) (by decide +kernel), List.mem_of_getElem? (i := 403) (by decide +kernel), List.mem_of_getElem? (i := 404) (by decide +kernel)⟩
theorem lw_p8 : lw_okq (⟨"LongNames$Part", "get", "(I)I"⟩, 1) := ⟨⟨by decide +kernel, by decide +kernel⟩, List.mem_of_getElem? (i := 49) (by decide +kernel), List.mem_of_getElem? (i := 422) (by decide +kernel), List.mem_of_getElem? (i := 423) (by decide +kernel)⟩
theorem lw_p9 : lw_okq (⟨"LongNames$ShortName", "blanksOnlyEnd", "(II)Z"⟩, 1) := ⟨⟨by decide +kernel, by decide +kernel⟩, List.mem_of_getElem? (i := 39) (by decide +kernel), List.mem_of_getElem? (i := 447) (by decide +kernel), List.mem_of_getElem? (i := 448) (by decide +kernel)⟩
theorem lw_p10 : lw_okq (⟨"LongNames$ShortName", "showBytes", "(LLongNames$Row;II)V"⟩, 1) := ⟨⟨by decide +kernel, by decide +kernel⟩, List.mem_of_getElem? (i := 39) (by decide +kernel), List.mem_of_getElem? (i := 472) (by decide +kernel), List.mem_of_getElem? (i := 473) (by decide +kernel)⟩
theorem lw_p11 : lw_okq (⟨"LongNames", "readParts", "(LLongNames$Row;II)Z"⟩, 5) := ⟨⟨by decide +kernel, by decide +kernel⟩, List.mem_of_getElem? (i := 17) (by decide +kernel), List.mem_of_getElem? (i := 477) (by decide +kernel), List.mem_of_getElem? (i := 478) (by decide +kernel)⟩
theorem lw_p12 : lw_okq (⟨"LongNames", "collectUnits", "(LLongNames$Row;II)V"⟩, 5) := ⟨⟨by decide +kernel, by decide +kernel⟩, List.mem_of_getElem? (i := 17) (by decide +kernel), List.mem_of_getElem? (i := 481) (by decide +kernel), List.mem_of_getElem? (i := 482) (by decide +kernel)⟩
theorem lw_p13 : lw_okq (⟨"LongNamesModel", "isName", "(I)Z"⟩, 5) := ⟨⟨by decide +kernel, by decide +kernel⟩, List.mem_of_getElem? (i := 494) (by decide +kernel), List.mem_of_getElem? (i := 536) (by decide +kernel), List.mem_of_getElem? (i := 537) (by decide +kernel)⟩
theorem lw_p14 : lw_okq (⟨"LongNamesModel", "at", "(II)I"⟩, 5) := ⟨⟨by decide +kernel, by decide +kernel⟩, List.mem_of_getElem? (i := 494) (by decide +kernel), List.mem_of_getElem? (i := 540) (by decide +kernel), List.mem_of_getElem? (i := 541) (by decide +kernel)⟩
theorem lw_p15 : lw_okq (⟨"LongNamesModel", "isShown", "(I)Z"⟩, 5) := ⟨⟨by decide +kernel, by decide +kernel⟩, List.mem_of_getElem? (i := 494) (by decide +kernel), List.mem_of_getElem? (i := 550) (by decide +kernel), List.mem_of_getElem? (i := 551) (by decide +kernel)⟩
def lw_privs_1 : List (MethodName × Nat) := [(⟨"LongNames", "rowOf", "(I)LLongNames$Row;"⟩, 5), (⟨"java/lang/Throwable", "fillInStackTrace", "(I)Ljava/lang/Throwable;"⟩, 6), (⟨"LongNames$ShortName", "shorten", "(LLongNames$Row;IIII)I"⟩, 1), (⟨"LongNames$ShortName", "set", "(II)V"⟩, 1), (⟨"LongNames$ShortName", "setNumber", "(III)V"⟩, 1), (⟨"LongNames", "writeSlots", "(LLongNames$Row;II)V"⟩, 5), (⟨"LongNames$ShortName", "get", "(I)I"⟩, 1), (⟨"LongNames$Part", "set", "(II)V"⟩, 1), (⟨"LongNames$Part", "get", "(I)I"⟩, 1), (⟨"LongNames$ShortName", "blanksOnlyEnd", "(II)Z"⟩, 1), (⟨"LongNames$ShortName", "showBytes", "(LLongNames$Row;II)V"⟩, 1), (⟨"LongNames", "readParts", "(LLongNames$Row;II)Z"⟩, 5), (⟨"LongNames", "collectUnits", "(LLongNames$Row;II)V"⟩, 5), (⟨"LongNamesModel", "isName", "(I)Z"⟩, 5), (⟨"LongNamesModel", "at", "(II)I"⟩, 5), (⟨"LongNamesModel", "isShown", "(I)Z"⟩, 5)]
theorem lw_r1 : ∀ q ∈ lw_privs_1, lw_okq q := List.forall_mem_cons.mpr ⟨lw_p0, List.forall_mem_cons.mpr ⟨lw_p1, List.forall_mem_cons.mpr ⟨lw_p2, List.forall_mem_cons.mpr ⟨lw_p3, List.forall_mem_cons.mpr ⟨lw_p4, List.forall_mem_cons.mpr ⟨lw_p5, List.forall_mem_cons.mpr ⟨lw_p6, List.forall_mem_cons.mpr ⟨lw_p7, List.forall_mem_cons.mpr ⟨lw_p8, List.forall_mem_cons.mpr ⟨lw_p9, List.forall_mem_cons.mpr ⟨lw_p10, List.forall_mem_cons.mpr ⟨lw_p11, List.forall_mem_cons.mpr ⟨lw_p12, List.forall_mem_cons.mpr ⟨lw_p13, List.forall_mem_cons.mpr ⟨lw_p14, List.forall_mem_cons.mpr ⟨lw_p15, fun _ h => absurd h List.not_mem_nil⟩⟩⟩⟩⟩⟩⟩⟩⟩⟩⟩⟩⟩⟩⟩⟩
theorem lw_p16 : lw_okq (⟨"LongNamesModel", "pointOf", "(I)I"⟩, 5) := ⟨⟨by decide +kernel, by decide +kernel⟩, List.mem_of_getElem? (i := 494) (by decide +kernel), List.mem_of_getElem? (i := 554) (by decide +kernel), List.mem_of_getElem? (i := 555) (by decide +kernel)⟩
theorem lw_p17 : lw_okq (⟨"LongNamesModel", "tailed", "(II)V"⟩, 5) := ⟨⟨by decide +kernel, by decide +kernel⟩, List.mem_of_getElem? (i := 494) (by decide +kernel), List.mem_of_getElem? (i := 582) (by decide +kernel), List.mem_of_getElem? (i := 583) (by decide +kernel)⟩
theorem lw_p18 : lw_okq (⟨"LongNamesModel", "sumOf", "(I)I"⟩, 5) := ⟨⟨by decide +kernel, by decide +kernel⟩, List.mem_of_getElem? (i := 494) (by decide +kernel), List.mem_of_getElem? (i := 589) (by decide +kernel), List.mem_of_getElem? (i := 590) (by decide +kernel)⟩
theorem lw_p19 : lw_okq (⟨"LongNamesModel", "isShort", "(I)Z"⟩, 5) := ⟨⟨by decide +kernel, by decide +kernel⟩, List.mem_of_getElem? (i := 494) (by decide +kernel), List.mem_of_getElem? (i := 603) (by decide +kernel), List.mem_of_getElem? (i := 604) (by decide +kernel)⟩
theorem lw_p20 : lw_okq (⟨"LongNamesModel", "readShown", "(II)V"⟩, 5) := ⟨⟨by decide +kernel, by decide +kernel⟩, List.mem_of_getElem? (i := 494) (by decide +kernel), List.mem_of_getElem? (i := 607) (by decide +kernel), List.mem_of_getElem? (i := 608) (by decide +kernel)⟩
theorem lw_p21 : lw_okq (⟨"LongNamesModel", "add", "(II)V"⟩, 5) := ⟨⟨by decide +kernel, by decide +kernel⟩, List.mem_of_getElem? (i := 494) (by decide +kernel), List.mem_of_getElem? (i := 611) (by decide +kernel), List.mem_of_getElem? (i := 612) (by decide +kernel)⟩
theorem lw_p22 : lw_okq (⟨"LongNamesModel", "readParts", "(III)Z"⟩, 5) := ⟨⟨by decide +kernel, by decide +kernel⟩, List.mem_of_getElem? (i := 494) (by decide +kernel), List.mem_of_getElem? (i := 615) (by decide +kernel), List.mem_of_getElem? (i := 616) (by decide +kernel)⟩
def lw_privs_2 : List (MethodName × Nat) := [(⟨"LongNamesModel", "pointOf", "(I)I"⟩, 5), (⟨"LongNamesModel", "tailed", "(II)V"⟩, 5), (⟨"LongNamesModel", "sumOf", "(I)I"⟩, 5), (⟨"LongNamesModel", "isShort", "(I)Z"⟩, 5), (⟨"LongNamesModel", "readShown", "(II)V"⟩, 5), (⟨"LongNamesModel", "add", "(II)V"⟩, 5), (⟨"LongNamesModel", "readParts", "(III)Z"⟩, 5)]
theorem lw_r2 : ∀ q ∈ lw_privs_2, lw_okq q := List.forall_mem_cons.mpr ⟨lw_p16, List.forall_mem_cons.mpr ⟨lw_p17, List.forall_mem_cons.mpr ⟨lw_p18, List.forall_mem_cons.mpr ⟨lw_p19, List.forall_mem_cons.mpr ⟨lw_p20, List.forall_mem_cons.mpr ⟨lw_p21, List.forall_mem_cons.mpr ⟨lw_p22, fun _ h => absurd h List.not_mem_nil⟩⟩⟩⟩⟩⟩⟩
def lw_privs : List (MethodName × Nat) := lw_privs_1 ++ (lw_privs_2)
def lw_tbl : List Cond := k2_sels lw_privs ++ tables_1
theorem lw_privs_ok : ∀ q ∈ lw_privs, lw_okq q := by
  show ∀ q ∈ lw_privs_1 ++ (lw_privs_2), lw_okq q
  exact List.forall_mem_append.mpr ⟨lw_r1, lw_r2⟩
/-! names: the words of the tables that every method may use -/
def BIG : List Cond := lw_tbl.filter goodWord
theorem bigT {w : Cond} {i : Nat} (h : lw_tbl[i]? = some w) (hg : goodWord w = true) : w ∈ BIG := List.mem_filter.mpr ⟨List.mem_of_getElem? h, hg⟩
theorem big_good (w : Cond) (h : w ∈ BIG) : goodWord w = true := (List.mem_filter.mp h).2
def F_LN : u_T := fun k => match k with
  | 0 => ("LongNames", "first", "LLongNames$Row;", true)
  | 1 => ("LongNames", "second", "LLongNames$Row;", true)
  | 2 => ("LongNames", "shortName", "LLongNames$ShortName;", true)
  | 3 => ("LongNames", "part", "LLongNames$Part;", true)
  | _ => ("LongNames", "slots", "LLongNames$Slots;", true)
def t_LN : Nat → FieldType := fun k => match k with
  | 0 => .object "LongNames$Row"
  | 1 => .object "LongNames$Row"
  | 2 => .object "LongNames$ShortName"
  | 3 => .object "LongNames$Part"
  | _ => .object "LongNames$Slots"
theorem n_LN : ∀ a, a < 5 → ∀ b, b < 5 → a ≠ b → (F_LN a).2.1 ≠ (F_LN b).2.1 := by decide +kernel
theorem t_LN_ok : ∀ k, k < 5 → parseFieldDescriptor (F_LN k).2.2.1 = some (t_LN k) := by decide +kernel
theorem iB_LN : ∀ w ∈ u_ws "LongNames" F_LN 5, w ∈ BIG := by decide +kernel
theorem iw_LN (z : Cond) : ∀ w ∈ u_ws "LongNames" F_LN 5, w ∈ z :: BIG := fun w h => List.mem_cons_of_mem _ (iB_LN w h)
def F_Ro : u_T := fun k => match k with
  | 0 => ("LongNames$Row", "units", "[I", true)
  | _ => ("LongNames$Row", "count", "I", false)
def t_Ro : Nat → FieldType := fun k => match k with
  | 0 => .array .int
  | _ => .int
theorem n_Ro : ∀ a, a < 2 → ∀ b, b < 2 → a ≠ b → (F_Ro a).2.1 ≠ (F_Ro b).2.1 := by decide +kernel
theorem t_Ro_ok : ∀ k, k < 2 → parseFieldDescriptor (F_Ro k).2.2.1 = some (t_Ro k) := by decide +kernel
theorem iB_Ro : ∀ w ∈ u_ws "LongNames$Row" F_Ro 2, w ∈ BIG := by decide +kernel
theorem iw_Ro (z : Cond) : ∀ w ∈ u_ws "LongNames$Row" F_Ro 2, w ∈ z :: BIG := fun w h => List.mem_cons_of_mem _ (iB_Ro w h)
def F_Sn : u_T := fun k => match k with
  | _ => ("LongNames$ShortName", "bytes", "[I", true)
def t_Sn : Nat → FieldType := fun k => match k with
  | _ => .array .int
theorem n_Sn : ∀ a, a < 1 → ∀ b, b < 1 → a ≠ b → (F_Sn a).2.1 ≠ (F_Sn b).2.1 := by decide +kernel
theorem t_Sn_ok : ∀ k, k < 1 → parseFieldDescriptor (F_Sn k).2.2.1 = some (t_Sn k) := by decide +kernel
theorem iB_Sn : ∀ w ∈ u_ws "LongNames$ShortName" F_Sn 1, w ∈ BIG := by decide +kernel
theorem iw_Sn (z : Cond) : ∀ w ∈ u_ws "LongNames$ShortName" F_Sn 1, w ∈ z :: BIG := fun w h => List.mem_cons_of_mem _ (iB_Sn w h)
def F_Pt : u_T := fun k => match k with
  | _ => ("LongNames$Part", "bytes", "[I", true)
def t_Pt : Nat → FieldType := fun k => match k with
  | _ => .array .int
theorem n_Pt : ∀ a, a < 1 → ∀ b, b < 1 → a ≠ b → (F_Pt a).2.1 ≠ (F_Pt b).2.1 := by decide +kernel
theorem t_Pt_ok : ∀ k, k < 1 → parseFieldDescriptor (F_Pt k).2.2.1 = some (t_Pt k) := by decide +kernel
theorem iB_Pt : ∀ w ∈ u_ws "LongNames$Part" F_Pt 1, w ∈ BIG := by decide +kernel
theorem iw_Pt (z : Cond) : ∀ w ∈ u_ws "LongNames$Part" F_Pt 1, w ∈ z :: BIG := fun w h => List.mem_cons_of_mem _ (iB_Pt w h)
def F_Sl : u_T := fun k => match k with
  | _ => ("LongNames$Slots", "bytes", "[I", true)
def t_Sl : Nat → FieldType := fun k => match k with
  | _ => .array .int
theorem n_Sl : ∀ a, a < 1 → ∀ b, b < 1 → a ≠ b → (F_Sl a).2.1 ≠ (F_Sl b).2.1 := by decide +kernel
theorem t_Sl_ok : ∀ k, k < 1 → parseFieldDescriptor (F_Sl k).2.2.1 = some (t_Sl k) := by decide +kernel
theorem iB_Sl : ∀ w ∈ u_ws "LongNames$Slots" F_Sl 1, w ∈ BIG := by decide +kernel
theorem iw_Sl (z : Cond) : ∀ w ∈ u_ws "LongNames$Slots" F_Sl 1, w ∈ z :: BIG := fun w h => List.mem_cons_of_mem _ (iB_Sl w h)
def F_Mo : u_T := fun k => match k with
  | 0 => ("LongNamesModel", "thrown", "I", false)
  | 1 => ("LongNamesModel", "units", "[I", true)
  | 2 => ("LongNamesModel", "sizes", "[I", true)
  | 3 => ("LongNamesModel", "bytes", "[I", true)
  | _ => ("LongNamesModel", "brief", "[I", true)
def t_Mo : Nat → FieldType := fun k => match k with
  | 0 => .int
  | 1 => .array .int
  | 2 => .array .int
  | 3 => .array .int
  | _ => .array .int
theorem n_Mo : ∀ a, a < 5 → ∀ b, b < 5 → a ≠ b → (F_Mo a).2.1 ≠ (F_Mo b).2.1 := by decide +kernel
theorem t_Mo_ok : ∀ k, k < 5 → parseFieldDescriptor (F_Mo k).2.2.1 = some (t_Mo k) := by decide +kernel
theorem iB_Mo : ∀ w ∈ u_ws "LongNamesModel" F_Mo 5, w ∈ BIG := by decide +kernel
theorem iw_Mo (z : Cond) : ∀ w ∈ u_ws "LongNamesModel" F_Mo 5, w ∈ z :: BIG := fun w h => List.mem_cons_of_mem _ (iB_Mo w h)
abbrev vwCl : List vw_C := [("LongNames", F_LN, 5), ("LongNames$Row", F_Ro, 2), ("LongNames$ShortName", F_Sn, 1), ("LongNames$Part", F_Pt, 1), ("LongNames$Slots", F_Sl, 1), ("LongNamesModel", F_Mo, 5)]
