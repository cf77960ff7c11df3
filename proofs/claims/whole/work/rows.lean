section
-- ===== PART A: goes FIRST, ahead of the names: the tables' words, and 'selects' of the private methods out of them =====
/-- a private method of a class that the tables say can be made, by its rows of tables_1 -/
def lw_okq (q : MethodName × Nat) : Prop := (q.1.cls ≠ "java/lang/invoke/MethodHandle" ∧ q.1.cls ≠ "java/lang/invoke/VarHandle") ∧ Cond.instantiable q.1.cls q.2 ∈ tables_1 ∧ Cond.privateMethod q.1 ∈ tables_1 ∧ Cond.instanceMethod q.1 ∈ tables_1
theorem lw_p0 : lw_okq (⟨"DelayedExtents", "countPages", "()I"⟩, 2) := ⟨⟨by decide +kernel, by decide +kernel⟩, List.mem_of_getElem? (i := 15) (by decide +kernel), List.mem_of_getElem? (i := 85) (by decide +kernel), List.mem_of_getElem? (i := 86) (by decide +kernel)⟩
theorem lw_p1 : lw_okq (⟨"DelayedExtents$BlockFile", "continuesRow", "(I)Z"⟩, 8) := ⟨⟨by decide +kernel, by decide +kernel⟩, List.mem_of_getElem? (i := 41) (by decide +kernel), List.mem_of_getElem? (i := 128) (by decide +kernel), List.mem_of_getElem? (i := 129) (by decide +kernel)⟩
theorem lw_p2 : lw_okq (⟨"java/lang/Throwable", "fillInStackTrace", "(I)Ljava/lang/Throwable;"⟩, 6) := ⟨⟨by decide +kernel, by decide +kernel⟩, List.mem_of_getElem? (i := 203) (by decide +kernel), List.mem_of_getElem? (i := 201) (by decide +kernel), List.mem_of_getElem? (i := 202) (by decide +kernel)⟩
theorem lw_p3 : lw_okq (⟨"DelayedExtents", "isOverbooked", "()Z"⟩, 2) := ⟨⟨by decide +kernel, by decide +kernel⟩, List.mem_of_getElem? (i := 15) (by decide +kernel), List.mem_of_getElem? (i := 251) (by decide +kernel), List.mem_of_getElem? (i := 252) (by decide +kernel)⟩
theorem lw_p4 : lw_okq (⟨"DelayedExtents$BlockFile", "endOfRow", "(IIZ)I"⟩, 8) := ⟨⟨by decide +kernel, by decide +kernel⟩, List.mem_of_getElem? (i := 41) (by decide +kernel), List.mem_of_getElem? (i := 331) (by decide +kernel), List.mem_of_getElem? (i := 332) (by decide +kernel)⟩
theorem lw_p5 : lw_okq (⟨"DelayedExtents$BlockFile", "mapRow", "(II)V"⟩, 8) := ⟨⟨by decide +kernel, by decide +kernel⟩, List.mem_of_getElem? (i := 41) (by decide +kernel), List.mem_of_getElem? (i := 335) (by decide +kernel), List.mem_of_getElem? (i := 336) (by decide +kernel)⟩
theorem lw_p6 : lw_okq (⟨"DelayedExtents$BlockFile", "placeBehind", "(I)I"⟩, 8) := ⟨⟨by decide +kernel, by decide +kernel⟩, List.mem_of_getElem? (i := 41) (by decide +kernel), List.mem_of_getElem? (i := 339) (by decide +kernel), List.mem_of_getElem? (i := 340) (by decide +kernel)⟩
theorem lw_p7 : lw_okq (⟨"DelayedExtents$Volume", "untakenFrom", "(I)I"⟩, 2) := ⟨⟨by decide +kernel, by decide +kernel⟩, List.mem_of_getElem? (i := 23) (by decide +kernel), List.mem_of_getElem? (i := 351) (by decide +kernel), List.mem_of_getElem? (i := 352) (by decide +kernel)⟩
theorem lw_p8 : lw_okq (⟨"DelayedExtents$BlockFile", "mapTo", "(II)V"⟩, 8) := ⟨⟨by decide +kernel, by decide +kernel⟩, List.mem_of_getElem? (i := 41) (by decide +kernel), List.mem_of_getElem? (i := 358) (by decide +kernel), List.mem_of_getElem? (i := 359) (by decide +kernel)⟩
theorem lw_p9 : lw_okq (⟨"DelayedExtents$BlockFile", "unmap", "(I)V"⟩, 8) := ⟨⟨by decide +kernel, by decide +kernel⟩, List.mem_of_getElem? (i := 41) (by decide +kernel), List.mem_of_getElem? (i := 370) (by decide +kernel), List.mem_of_getElem? (i := 371) (by decide +kernel)⟩
theorem lw_p10 : lw_okq (⟨"DelayedExtents$BlockFile", "writePage", "(I)V"⟩, 8) := ⟨⟨by decide +kernel, by decide +kernel⟩, List.mem_of_getElem? (i := 41) (by decide +kernel), List.mem_of_getElem? (i := 411) (by decide +kernel), List.mem_of_getElem? (i := 412) (by decide +kernel)⟩
theorem lw_p11 : lw_okq (⟨"DelayedExtentsModel", "pagesOf", "(I)I"⟩, 11) := ⟨⟨by decide +kernel, by decide +kernel⟩, List.mem_of_getElem? (i := 472) (by decide +kernel), List.mem_of_getElem? (i := 520) (by decide +kernel), List.mem_of_getElem? (i := 521) (by decide +kernel)⟩
theorem lw_p12 : lw_okq (⟨"DelayedExtentsModel", "allFree", "()I"⟩, 11) := ⟨⟨by decide +kernel, by decide +kernel⟩, List.mem_of_getElem? (i := 472) (by decide +kernel), List.mem_of_getElem? (i := 530) (by decide +kernel), List.mem_of_getElem? (i := 531) (by decide +kernel)⟩
theorem lw_p13 : lw_okq (⟨"DelayedExtentsModel", "mappedOf", "(I)I"⟩, 11) := ⟨⟨by decide +kernel, by decide +kernel⟩, List.mem_of_getElem? (i := 472) (by decide +kernel), List.mem_of_getElem? (i := 534) (by decide +kernel), List.mem_of_getElem? (i := 535) (by decide +kernel)⟩
theorem lw_p14 : lw_okq (⟨"DelayedExtentsModel", "extents", "(II)I"⟩, 11) := ⟨⟨by decide +kernel, by decide +kernel⟩, List.mem_of_getElem? (i := 472) (by decide +kernel), List.mem_of_getElem? (i := 538) (by decide +kernel), List.mem_of_getElem? (i := 539) (by decide +kernel)⟩
theorem lw_p15 : lw_okq (⟨"DelayedExtentsModel", "goesOn", "(I)Z"⟩, 11) := ⟨⟨by decide +kernel, by decide +kernel⟩, List.mem_of_getElem? (i := 472) (by decide +kernel), List.mem_of_getElem? (i := 542) (by decide +kernel), List.mem_of_getElem? (i := 543) (by decide +kernel)⟩
def lw_privs_1 : List (MethodName × Nat) := [(⟨"DelayedExtents", "countPages", "()I"⟩, 2), (⟨"DelayedExtents$BlockFile", "continuesRow", "(I)Z"⟩, 8), (⟨"java/lang/Throwable", "fillInStackTrace", "(I)Ljava/lang/Throwable;"⟩, 6), (⟨"DelayedExtents", "isOverbooked", "()Z"⟩, 2), (⟨"DelayedExtents$BlockFile", "endOfRow", "(IIZ)I"⟩, 8), (⟨"DelayedExtents$BlockFile", "mapRow", "(II)V"⟩, 8), (⟨"DelayedExtents$BlockFile", "placeBehind", "(I)I"⟩, 8), (⟨"DelayedExtents$Volume", "untakenFrom", "(I)I"⟩, 2), (⟨"DelayedExtents$BlockFile", "mapTo", "(II)V"⟩, 8), (⟨"DelayedExtents$BlockFile", "unmap", "(I)V"⟩, 8), (⟨"DelayedExtents$BlockFile", "writePage", "(I)V"⟩, 8), (⟨"DelayedExtentsModel", "pagesOf", "(I)I"⟩, 11), (⟨"DelayedExtentsModel", "allFree", "()I"⟩, 11), (⟨"DelayedExtentsModel", "mappedOf", "(I)I"⟩, 11), (⟨"DelayedExtentsModel", "extents", "(II)I"⟩, 11), (⟨"DelayedExtentsModel", "goesOn", "(I)Z"⟩, 11)]
theorem lw_r1 : ∀ q ∈ lw_privs_1, lw_okq q := List.forall_mem_cons.mpr ⟨lw_p0, List.forall_mem_cons.mpr ⟨lw_p1, List.forall_mem_cons.mpr ⟨lw_p2, List.forall_mem_cons.mpr ⟨lw_p3, List.forall_mem_cons.mpr ⟨lw_p4, List.forall_mem_cons.mpr ⟨lw_p5, List.forall_mem_cons.mpr ⟨lw_p6, List.forall_mem_cons.mpr ⟨lw_p7, List.forall_mem_cons.mpr ⟨lw_p8, List.forall_mem_cons.mpr ⟨lw_p9, List.forall_mem_cons.mpr ⟨lw_p10, List.forall_mem_cons.mpr ⟨lw_p11, List.forall_mem_cons.mpr ⟨lw_p12, List.forall_mem_cons.mpr ⟨lw_p13, List.forall_mem_cons.mpr ⟨lw_p14, List.forall_mem_cons.mpr ⟨lw_p15, fun _ h => absurd h List.not_mem_nil⟩⟩⟩⟩⟩⟩⟩⟩⟩⟩⟩⟩⟩⟩⟩⟩
theorem lw_p16 : lw_okq (⟨"DelayedExtentsModel", "allReserved", "()I"⟩, 11) := ⟨⟨by decide +kernel, by decide +kernel⟩, List.mem_of_getElem? (i := 472) (by decide +kernel), List.mem_of_getElem? (i := 549) (by decide +kernel), List.mem_of_getElem? (i := 550) (by decide +kernel)⟩
theorem lw_p17 : lw_okq (⟨"DelayedExtentsModel", "reservedOf", "(I)I"⟩, 11) := ⟨⟨by decide +kernel, by decide +kernel⟩, List.mem_of_getElem? (i := 472) (by decide +kernel), List.mem_of_getElem? (i := 553) (by decide +kernel), List.mem_of_getElem? (i := 554) (by decide +kernel)⟩
theorem lw_p18 : lw_okq (⟨"DelayedExtentsModel", "mapHoles", "(IIZ)V"⟩, 11) := ⟨⟨by decide +kernel, by decide +kernel⟩, List.mem_of_getElem? (i := 472) (by decide +kernel), List.mem_of_getElem? (i := 565) (by decide +kernel), List.mem_of_getElem? (i := 566) (by decide +kernel)⟩
theorem lw_p19 : lw_okq (⟨"DelayedExtentsModel", "mapRow", "(II)V"⟩, 11) := ⟨⟨by decide +kernel, by decide +kernel⟩, List.mem_of_getElem? (i := 472) (by decide +kernel), List.mem_of_getElem? (i := 569) (by decide +kernel), List.mem_of_getElem? (i := 570) (by decide +kernel)⟩
theorem lw_p20 : lw_okq (⟨"DelayedExtentsModel", "map", "(II)V"⟩, 11) := ⟨⟨by decide +kernel, by decide +kernel⟩, List.mem_of_getElem? (i := 472) (by decide +kernel), List.mem_of_getElem? (i := 573) (by decide +kernel), List.mem_of_getElem? (i := 574) (by decide +kernel)⟩
theorem lw_p21 : lw_okq (⟨"DelayedExtentsModel", "bestFor", "(I)I"⟩, 11) := ⟨⟨by decide +kernel, by decide +kernel⟩, List.mem_of_getElem? (i := 472) (by decide +kernel), List.mem_of_getElem? (i := 577) (by decide +kernel), List.mem_of_getElem? (i := 578) (by decide +kernel)⟩
theorem lw_p22 : lw_okq (⟨"DelayedExtentsModel", "room", "(I)I"⟩, 11) := ⟨⟨by decide +kernel, by decide +kernel⟩, List.mem_of_getElem? (i := 472) (by decide +kernel), List.mem_of_getElem? (i := 581) (by decide +kernel), List.mem_of_getElem? (i := 582) (by decide +kernel)⟩
theorem lw_p23 : lw_okq (⟨"DelayedExtentsModel", "unmap", "(I)V"⟩, 11) := ⟨⟨by decide +kernel, by decide +kernel⟩, List.mem_of_getElem? (i := 472) (by decide +kernel), List.mem_of_getElem? (i := 585) (by decide +kernel), List.mem_of_getElem? (i := 586) (by decide +kernel)⟩
theorem lw_p24 : lw_okq (⟨"DelayedExtentsModel", "empty", "(II)I"⟩, 11) := ⟨⟨by decide +kernel, by decide +kernel⟩, List.mem_of_getElem? (i := 472) (by decide +kernel), List.mem_of_getElem? (i := 593) (by decide +kernel), List.mem_of_getElem? (i := 594) (by decide +kernel)⟩
def lw_privs_2 : List (MethodName × Nat) := [(⟨"DelayedExtentsModel", "allReserved", "()I"⟩, 11), (⟨"DelayedExtentsModel", "reservedOf", "(I)I"⟩, 11), (⟨"DelayedExtentsModel", "mapHoles", "(IIZ)V"⟩, 11), (⟨"DelayedExtentsModel", "mapRow", "(II)V"⟩, 11), (⟨"DelayedExtentsModel", "map", "(II)V"⟩, 11), (⟨"DelayedExtentsModel", "bestFor", "(I)I"⟩, 11), (⟨"DelayedExtentsModel", "room", "(I)I"⟩, 11), (⟨"DelayedExtentsModel", "unmap", "(I)V"⟩, 11), (⟨"DelayedExtentsModel", "empty", "(II)I"⟩, 11)]
theorem lw_r2 : ∀ q ∈ lw_privs_2, lw_okq q := List.forall_mem_cons.mpr ⟨lw_p16, List.forall_mem_cons.mpr ⟨lw_p17, List.forall_mem_cons.mpr ⟨lw_p18, List.forall_mem_cons.mpr ⟨lw_p19, List.forall_mem_cons.mpr ⟨lw_p20, List.forall_mem_cons.mpr ⟨lw_p21, List.forall_mem_cons.mpr ⟨lw_p22, List.forall_mem_cons.mpr ⟨lw_p23, List.forall_mem_cons.mpr ⟨lw_p24, fun _ h => absurd h List.not_mem_nil⟩⟩⟩⟩⟩⟩⟩⟩⟩
def lw_privs : List (MethodName × Nat) := lw_privs_1 ++ (lw_privs_2)
def lw_tbl : List Cond := k2_sels lw_privs ++ tables_1
theorem lw_privs_ok : ∀ q ∈ lw_privs, lw_okq q := by
  show ∀ q ∈ lw_privs_1 ++ (lw_privs_2), lw_okq q
  exact List.forall_mem_append.mpr ⟨lw_r1, lw_r2⟩
def lw_good : List Cond := lw_tbl.filter goodWord
def cs_BF : String := "DelayedExtents$BlockFile"
def ct_BF : u_T := fun k => match k with
  | 0 => ("DelayedExtents$BlockFile", "volume", "LDelayedExtents$Volume;", true)
  | 1 => ("DelayedExtents$BlockFile", "firstOwner", "I", true)
  | 2 => ("DelayedExtents$BlockFile", "places", "[I", true)
  | 3 => ("DelayedExtents$BlockFile", "written", "[Z", true)
  | 4 => ("DelayedExtents$BlockFile", "paged", "[Z", true)
  | 5 => ("DelayedExtents$BlockFile", "pageValues", "[I", true)
  | 6 => ("DelayedExtents$BlockFile", "notedHoles", "[Z", true)
  | _ => ("DelayedExtents$BlockFile", "size", "I", false)
def cy_BF : Nat → FieldType := fun k => match k with
  | 0 => .object "DelayedExtents$Volume"
  | 1 => .int
  | 2 => .array .int
  | 3 => .array .boolean
  | 4 => .array .boolean
  | 5 => .array .int
  | 6 => .array .boolean
  | _ => .int
theorem cy_BF_ok : ∀ k, k < 8 → parseFieldDescriptor (ct_BF k).2.2.1 = some (cy_BF k) := by decide +kernel
theorem cn_BF : ∀ a, a < 8 → ∀ b, b < 8 → a ≠ b → (ct_BF a).2.1 ≠ (ct_BF b).2.1 := by decide +kernel
theorem ci_BF : ∀ w ∈ u_ws cs_BF ct_BF 8, w ∈ lw_good := by decide +kernel
def cs_VO : String := "DelayedExtents$Volume"
def ct_VO : u_T := fun k => match k with
  | 0 => ("DelayedExtents$Volume", "owners", "[I", true)
  | _ => ("DelayedExtents$Volume", "values", "[I", true)
def cy_VO : Nat → FieldType := fun k => match k with
  | 0 => .array .int
  | _ => .array .int
theorem cy_VO_ok : ∀ k, k < 2 → parseFieldDescriptor (ct_VO k).2.2.1 = some (cy_VO k) := by decide +kernel
theorem cn_VO : ∀ a, a < 2 → ∀ b, b < 2 → a ≠ b → (ct_VO a).2.1 ≠ (ct_VO b).2.1 := by decide +kernel
theorem ci_VO : ∀ w ∈ u_ws cs_VO ct_VO 2, w ∈ lw_good := by decide +kernel
def cs_DE : String := "DelayedExtents"
def ct_DE : u_T := fun k => match k with
  | 0 => ("DelayedExtents", "volume", "LDelayedExtents$Volume;", true)
  | _ => ("DelayedExtents", "files", "[LDelayedExtents$BlockFile;", true)
def cy_DE : Nat → FieldType := fun k => match k with
  | 0 => .object "DelayedExtents$Volume"
  | _ => .array (.object "DelayedExtents$BlockFile")
theorem cy_DE_ok : ∀ k, k < 2 → parseFieldDescriptor (ct_DE k).2.2.1 = some (cy_DE k) := by decide +kernel
theorem cn_DE : ∀ a, a < 2 → ∀ b, b < 2 → a ≠ b → (ct_DE a).2.1 ≠ (ct_DE b).2.1 := by decide +kernel
theorem ci_DE : ∀ w ∈ u_ws cs_DE ct_DE 2, w ∈ lw_good := by decide +kernel
def cs_MO : String := "DelayedExtentsModel"
def ct_MO : u_T := fun k => match k with
  | 0 => ("DelayedExtentsModel", "code", "I", false)
  | 1 => ("DelayedExtentsModel", "place", "[I", true)
  | 2 => ("DelayedExtentsModel", "written", "[Z", true)
  | 3 => ("DelayedExtentsModel", "paged", "[Z", true)
  | 4 => ("DelayedExtentsModel", "pages", "[I", true)
  | 5 => ("DelayedExtentsModel", "sizes", "[I", true)
  | 6 => ("DelayedExtentsModel", "owners", "[I", true)
  | 7 => ("DelayedExtentsModel", "values", "[I", true)
  | 8 => ("DelayedExtentsModel", "before", "[I", true)
  | 9 => ("DelayedExtentsModel", "first", "I", false)
  | _ => ("DelayedExtentsModel", "length", "I", false)
def cy_MO : Nat → FieldType := fun k => match k with
  | 0 => .int
  | 1 => .array .int
  | 2 => .array .boolean
  | 3 => .array .boolean
  | 4 => .array .int
  | 5 => .array .int
  | 6 => .array .int
  | 7 => .array .int
  | 8 => .array .int
  | 9 => .int
  | _ => .int
theorem cy_MO_ok : ∀ k, k < 11 → parseFieldDescriptor (ct_MO k).2.2.1 = some (cy_MO k) := by decide +kernel
theorem cn_MO : ∀ a, a < 11 → ∀ b, b < 11 → a ≠ b → (ct_MO a).2.1 ≠ (ct_MO b).2.1 := by decide +kernel
theorem ci_MO : ∀ w ∈ u_ws cs_MO ct_MO 11, w ∈ lw_good := by decide +kernel
abbrev cx_cl : List vw_C := [(cs_BF, ct_BF, 8), (cs_VO, ct_VO, 2), (cs_DE, ct_DE, 2), (cs_MO, ct_MO, 11)]
abbrev cx_ty (g : Nat → ClassId) : List (ClassId × FieldType) := [(g 0, .int), (g 1, .boolean), (g 2, .long), (g 3, .object cs_BF)]
def cx_nw : List Cond := [.methodLinkNest "DelayedExtents$BlockFile" 72 ⟨"DelayedExtents", "treeBlocks", "(I)I"⟩ "DelayedExtents", .castable "java/lang/IndexOutOfBoundsException" "java/lang/IndexOutOfBoundsException", .declares ⟨"java/lang/RuntimeException", "<init>", "()V"⟩, .declares ⟨"java/lang/RuntimeException", "<init>", "(Ljava/lang/String;)V"⟩, .declares ⟨"java/lang/Exception", "<init>", "()V"⟩, .declares ⟨"java/lang/Exception", "<init>", "(Ljava/lang/String;)V"⟩, .declares ⟨"java/lang/Throwable", "<init>", "()V"⟩, .declares ⟨"java/lang/Throwable", "<init>", "(Ljava/lang/String;)V"⟩, .castable "java/lang/IllegalStateException" "java/lang/IllegalStateException", .castable "java/lang/UnsupportedOperationException" "java/lang/UnsupportedOperationException", .castable "java/lang/IllegalArgumentException" "java/lang/IllegalArgumentException"]
def cx_sw : List Cond := [.laysStatic "java/lang/Throwable" "UNASSIGNED_STACK" "[Ljava/lang/StackTraceElement;", .laysStatic "java/lang/Throwable" "SUPPRESSED_SENTINEL" "Ljava/util/List;", .isRef (.static "java/lang/Throwable" "UNASSIGNED_STACK" "[Ljava/lang/StackTraceElement;"), .isRef (.static "java/lang/Throwable" "SUPPRESSED_SENTINEL" "Ljava/util/List;")]
abbrev bb_DE_init : ByteArray := prog_1_method_1_code
def yy_DE_init : MethodName := ⟨"DelayedExtents", "<init>", "()V"⟩
abbrev bb_DE_write : ByteArray := prog_1_method_2_code
def yy_DE_write : MethodName := ⟨"DelayedExtents", "write", "(III)V"⟩
abbrev bb_DE_read : ByteArray := prog_1_method_3_code
def yy_DE_read : MethodName := ⟨"DelayedExtents", "read", "(II)I"⟩
abbrev bb_DE_preallocate : ByteArray := prog_1_method_4_code
def yy_DE_preallocate : MethodName := ⟨"DelayedExtents", "preallocate", "(III)I"⟩
abbrev bb_DE_punch : ByteArray := prog_1_method_5_code
def yy_DE_punch : MethodName := ⟨"DelayedExtents", "punch", "(III)I"⟩
abbrev bb_DE_truncate : ByteArray := prog_1_method_6_code
def yy_DE_truncate : MethodName := ⟨"DelayedExtents", "truncate", "(II)I"⟩
abbrev bb_DE_flush : ByteArray := prog_1_method_7_code
def yy_DE_flush : MethodName := ⟨"DelayedExtents", "flush", "(I)I"⟩
abbrev bb_DE_crash : ByteArray := prog_1_method_8_code
def yy_DE_crash : MethodName := ⟨"DelayedExtents", "crash", "()I"⟩
abbrev bb_DE_extent : ByteArray := prog_1_method_9_code
def yy_DE_extent : MethodName := ⟨"DelayedExtents", "extent", "(III)I"⟩
abbrev bb_DE_about : ByteArray := prog_1_method_10_code
def yy_DE_about : MethodName := ⟨"DelayedExtents", "about", "(II)I"⟩
abbrev bb_DE_free : ByteArray := prog_1_method_11_code
def yy_DE_free : MethodName := ⟨"DelayedExtents", "free", "()I"⟩
abbrev bb_DE_reserved : ByteArray := prog_1_method_12_code
def yy_DE_reserved : MethodName := ⟨"DelayedExtents", "reserved", "()I"⟩
abbrev bb_DE_owner : ByteArray := prog_1_method_13_code
def yy_DE_owner : MethodName := ⟨"DelayedExtents", "owner", "(I)I"⟩
abbrev bb_DE_value : ByteArray := prog_1_method_14_code
def yy_DE_value : MethodName := ⟨"DelayedExtents", "value", "(I)I"⟩
abbrev bb_DE_requireFile : ByteArray := prog_1_method_15_code
def yy_DE_requireFile : MethodName := ⟨"DelayedExtents", "requireFile", "(I)V"⟩
abbrev bb_DE_requireBlock : ByteArray := prog_1_method_16_code
def yy_DE_requireBlock : MethodName := ⟨"DelayedExtents", "requireBlock", "(II)V"⟩
abbrev bb_DE_requireRow : ByteArray := prog_1_method_17_code
def yy_DE_requireRow : MethodName := ⟨"DelayedExtents", "requireRow", "(II)V"⟩
abbrev bb_DE_requirePlace : ByteArray := prog_1_method_18_code
def yy_DE_requirePlace : MethodName := ⟨"DelayedExtents", "requirePlace", "(I)V"⟩
abbrev bb_DE_treeBlocks : ByteArray := prog_1_method_19_code
def yy_DE_treeBlocks : MethodName := ⟨"DelayedExtents", "treeBlocks", "(I)I"⟩
abbrev bb_DE_countPages : ByteArray := prog_1_method_20_code
def yy_DE_countPages : MethodName := ⟨"DelayedExtents", "countPages", "()I"⟩
abbrev bb_DE_isOverbooked : ByteArray := prog_1_method_21_code
def yy_DE_isOverbooked : MethodName := ⟨"DelayedExtents", "isOverbooked", "()Z"⟩
abbrev bb_MO_init : ByteArray := prog_5_method_1_code
def yy_MO_init : MethodName := ⟨"DelayedExtentsModel", "<init>", "()V"⟩
abbrev bb_MO_thrown : ByteArray := prog_5_method_2_code
def yy_MO_thrown : MethodName := ⟨"DelayedExtentsModel", "thrown", "()I"⟩
abbrev bb_MO_noFile : ByteArray := prog_5_method_3_code
def yy_MO_noFile : MethodName := ⟨"DelayedExtentsModel", "noFile", "(I)Z"⟩
abbrev bb_MO_noBlock : ByteArray := prog_5_method_4_code
def yy_MO_noBlock : MethodName := ⟨"DelayedExtentsModel", "noBlock", "(I)Z"⟩
abbrev bb_MO_goesOn : ByteArray := prog_5_method_5_code
def yy_MO_goesOn : MethodName := ⟨"DelayedExtentsModel", "goesOn", "(I)Z"⟩
abbrev bb_MO_extents : ByteArray := prog_5_method_6_code
def yy_MO_extents : MethodName := ⟨"DelayedExtentsModel", "extents", "(II)I"⟩
abbrev bb_MO_tree : ByteArray := prog_5_method_7_code
def yy_MO_tree : MethodName := ⟨"DelayedExtentsModel", "tree", "(I)I"⟩
abbrev bb_MO_mappedOf : ByteArray := prog_5_method_8_code
def yy_MO_mappedOf : MethodName := ⟨"DelayedExtentsModel", "mappedOf", "(I)I"⟩
abbrev bb_MO_pagesOf : ByteArray := prog_5_method_9_code
def yy_MO_pagesOf : MethodName := ⟨"DelayedExtentsModel", "pagesOf", "(I)I"⟩
abbrev bb_MO_reservedOf : ByteArray := prog_5_method_10_code
def yy_MO_reservedOf : MethodName := ⟨"DelayedExtentsModel", "reservedOf", "(I)I"⟩
abbrev bb_MO_allReserved : ByteArray := prog_5_method_11_code
def yy_MO_allReserved : MethodName := ⟨"DelayedExtentsModel", "allReserved", "()I"⟩
abbrev bb_MO_allFree : ByteArray := prog_5_method_12_code
def yy_MO_allFree : MethodName := ⟨"DelayedExtentsModel", "allFree", "()I"⟩
abbrev bb_MO_map : ByteArray := prog_5_method_13_code
def yy_MO_map : MethodName := ⟨"DelayedExtentsModel", "map", "(II)V"⟩
abbrev bb_MO_unmap : ByteArray := prog_5_method_14_code
def yy_MO_unmap : MethodName := ⟨"DelayedExtentsModel", "unmap", "(I)V"⟩
abbrev bb_MO_room : ByteArray := prog_5_method_15_code
def yy_MO_room : MethodName := ⟨"DelayedExtentsModel", "room", "(I)I"⟩
abbrev bb_MO_bestFor : ByteArray := prog_5_method_16_code
def yy_MO_bestFor : MethodName := ⟨"DelayedExtentsModel", "bestFor", "(I)I"⟩
abbrev bb_MO_mapRow : ByteArray := prog_5_method_17_code
def yy_MO_mapRow : MethodName := ⟨"DelayedExtentsModel", "mapRow", "(II)V"⟩
abbrev bb_MO_mapHoles : ByteArray := prog_5_method_18_code
def yy_MO_mapHoles : MethodName := ⟨"DelayedExtentsModel", "mapHoles", "(IIZ)V"⟩
abbrev bb_MO_write : ByteArray := prog_5_method_19_code
def yy_MO_write : MethodName := ⟨"DelayedExtentsModel", "write", "(III)V"⟩
abbrev bb_MO_read : ByteArray := prog_5_method_20_code
def yy_MO_read : MethodName := ⟨"DelayedExtentsModel", "read", "(II)I"⟩
abbrev bb_MO_preallocate : ByteArray := prog_5_method_21_code
def yy_MO_preallocate : MethodName := ⟨"DelayedExtentsModel", "preallocate", "(III)I"⟩
abbrev bb_MO_empty : ByteArray := prog_5_method_22_code
def yy_MO_empty : MethodName := ⟨"DelayedExtentsModel", "empty", "(II)I"⟩
abbrev bb_MO_punch : ByteArray := prog_5_method_23_code
def yy_MO_punch : MethodName := ⟨"DelayedExtentsModel", "punch", "(III)I"⟩
abbrev bb_MO_truncate : ByteArray := prog_5_method_24_code
def yy_MO_truncate : MethodName := ⟨"DelayedExtentsModel", "truncate", "(II)I"⟩
abbrev bb_MO_flush : ByteArray := prog_5_method_25_code
def yy_MO_flush : MethodName := ⟨"DelayedExtentsModel", "flush", "(I)I"⟩
abbrev bb_MO_crash : ByteArray := prog_5_method_26_code
def yy_MO_crash : MethodName := ⟨"DelayedExtentsModel", "crash", "()I"⟩
abbrev bb_MO_extent : ByteArray := prog_5_method_27_code
def yy_MO_extent : MethodName := ⟨"DelayedExtentsModel", "extent", "(III)I"⟩
abbrev bb_MO_about : ByteArray := prog_5_method_28_code
def yy_MO_about : MethodName := ⟨"DelayedExtentsModel", "about", "(II)I"⟩
abbrev bb_MO_free : ByteArray := prog_5_method_29_code
def yy_MO_free : MethodName := ⟨"DelayedExtentsModel", "free", "()I"⟩
abbrev bb_MO_reserved : ByteArray := prog_5_method_30_code
def yy_MO_reserved : MethodName := ⟨"DelayedExtentsModel", "reserved", "()I"⟩
abbrev bb_MO_owner : ByteArray := prog_5_method_31_code
def yy_MO_owner : MethodName := ⟨"DelayedExtentsModel", "owner", "(I)I"⟩
abbrev bb_MO_value : ByteArray := prog_5_method_32_code
def yy_MO_value : MethodName := ⟨"DelayedExtentsModel", "value", "(I)I"⟩
abbrev bb_BF_init : ByteArray := prog_2_method_1_code
def yy_BF_init : MethodName := ⟨"DelayedExtents$BlockFile", "<init>", "(LDelayedExtents$Volume;I)V"⟩
abbrev bb_BF_size : ByteArray := prog_2_method_2_code
def yy_BF_size : MethodName := ⟨"DelayedExtents$BlockFile", "size", "()I"⟩
abbrev bb_BF_setSize : ByteArray := prog_2_method_3_code
def yy_BF_setSize : MethodName := ⟨"DelayedExtents$BlockFile", "setSize", "(I)V"⟩
abbrev bb_BF_growTo : ByteArray := prog_2_method_4_code
def yy_BF_growTo : MethodName := ⟨"DelayedExtents$BlockFile", "growTo", "(I)V"⟩
abbrev bb_BF_placeOf : ByteArray := prog_2_method_5_code
def yy_BF_placeOf : MethodName := ⟨"DelayedExtents$BlockFile", "placeOf", "(I)I"⟩
abbrev bb_BF_isWritten : ByteArray := prog_2_method_6_code
def yy_BF_isWritten : MethodName := ⟨"DelayedExtents$BlockFile", "isWritten", "(I)Z"⟩
abbrev bb_BF_isHole : ByteArray := prog_2_method_7_code
def yy_BF_isHole : MethodName := ⟨"DelayedExtents$BlockFile", "isHole", "(I)Z"⟩
abbrev bb_BF_hasPage : ByteArray := prog_2_method_8_code
def yy_BF_hasPage : MethodName := ⟨"DelayedExtents$BlockFile", "hasPage", "(I)Z"⟩
abbrev bb_BF_putPage : ByteArray := prog_2_method_9_code
def yy_BF_putPage : MethodName := ⟨"DelayedExtents$BlockFile", "putPage", "(II)V"⟩
abbrev bb_BF_dropPage : ByteArray := prog_2_method_10_code
def yy_BF_dropPage : MethodName := ⟨"DelayedExtents$BlockFile", "dropPage", "(I)V"⟩
abbrev bb_BF_dropPages : ByteArray := prog_2_method_11_code
def yy_BF_dropPages : MethodName := ⟨"DelayedExtents$BlockFile", "dropPages", "()V"⟩
abbrev bb_BF_readsAs : ByteArray := prog_2_method_12_code
def yy_BF_readsAs : MethodName := ⟨"DelayedExtents$BlockFile", "readsAs", "(I)I"⟩
abbrev bb_BF_countPages : ByteArray := prog_2_method_13_code
def yy_BF_countPages : MethodName := ⟨"DelayedExtents$BlockFile", "countPages", "()I"⟩
abbrev bb_BF_countMapped : ByteArray := prog_2_method_14_code
def yy_BF_countMapped : MethodName := ⟨"DelayedExtents$BlockFile", "countMapped", "()I"⟩
abbrev bb_BF_countHoles : ByteArray := prog_2_method_15_code
def yy_BF_countHoles : MethodName := ⟨"DelayedExtents$BlockFile", "countHoles", "(II)I"⟩
abbrev bb_BF_countReserved : ByteArray := prog_2_method_16_code
def yy_BF_countReserved : MethodName := ⟨"DelayedExtents$BlockFile", "countReserved", "()I"⟩
abbrev bb_BF_countExtents : ByteArray := prog_2_method_17_code
def yy_BF_countExtents : MethodName := ⟨"DelayedExtents$BlockFile", "countExtents", "()I"⟩
abbrev bb_BF_firstBlockOfExtent : ByteArray := prog_2_method_18_code
def yy_BF_firstBlockOfExtent : MethodName := ⟨"DelayedExtents$BlockFile", "firstBlockOfExtent", "(I)I"⟩
abbrev bb_BF_extentLength : ByteArray := prog_2_method_19_code
def yy_BF_extentLength : MethodName := ⟨"DelayedExtents$BlockFile", "extentLength", "(I)I"⟩
abbrev bb_BF_continuesRow : ByteArray := prog_2_method_20_code
def yy_BF_continuesRow : MethodName := ⟨"DelayedExtents$BlockFile", "continuesRow", "(I)Z"⟩
abbrev bb_BF_mapHoles : ByteArray := prog_2_method_21_code
def yy_BF_mapHoles : MethodName := ⟨"DelayedExtents$BlockFile", "mapHoles", "(IIZ)V"⟩
abbrev bb_BF_endOfRow : ByteArray := prog_2_method_22_code
def yy_BF_endOfRow : MethodName := ⟨"DelayedExtents$BlockFile", "endOfRow", "(IIZ)I"⟩
abbrev bb_BF_mapRow : ByteArray := prog_2_method_23_code
def yy_BF_mapRow : MethodName := ⟨"DelayedExtents$BlockFile", "mapRow", "(II)V"⟩
abbrev bb_BF_placeBehind : ByteArray := prog_2_method_24_code
def yy_BF_placeBehind : MethodName := ⟨"DelayedExtents$BlockFile", "placeBehind", "(I)I"⟩
abbrev bb_BF_mapTo : ByteArray := prog_2_method_25_code
def yy_BF_mapTo : MethodName := ⟨"DelayedExtents$BlockFile", "mapTo", "(II)V"⟩
abbrev bb_BF_unmap : ByteArray := prog_2_method_26_code
def yy_BF_unmap : MethodName := ⟨"DelayedExtents$BlockFile", "unmap", "(I)V"⟩
abbrev bb_BF_makeHoles : ByteArray := prog_2_method_27_code
def yy_BF_makeHoles : MethodName := ⟨"DelayedExtents$BlockFile", "makeHoles", "(II)I"⟩
abbrev bb_BF_writePages : ByteArray := prog_2_method_28_code
def yy_BF_writePages : MethodName := ⟨"DelayedExtents$BlockFile", "writePages", "()I"⟩
abbrev bb_BF_writePage : ByteArray := prog_2_method_29_code
def yy_BF_writePage : MethodName := ⟨"DelayedExtents$BlockFile", "writePage", "(I)V"⟩
abbrev bb_BF_noteHoles : ByteArray := prog_2_method_30_code
def yy_BF_noteHoles : MethodName := ⟨"DelayedExtents$BlockFile", "noteHoles", "()V"⟩
abbrev bb_BF_restoreHoles : ByteArray := prog_2_method_31_code
def yy_BF_restoreHoles : MethodName := ⟨"DelayedExtents$BlockFile", "restoreHoles", "()V"⟩
abbrev bb_VO_init : ByteArray := prog_3_method_1_code
def yy_VO_init : MethodName := ⟨"DelayedExtents$Volume", "<init>", "()V"⟩
abbrev bb_VO_ownerOf : ByteArray := prog_3_method_2_code
def yy_VO_ownerOf : MethodName := ⟨"DelayedExtents$Volume", "ownerOf", "(I)I"⟩
abbrev bb_VO_valueAt : ByteArray := prog_3_method_3_code
def yy_VO_valueAt : MethodName := ⟨"DelayedExtents$Volume", "valueAt", "(I)I"⟩
abbrev bb_VO_setValue : ByteArray := prog_3_method_4_code
def yy_VO_setValue : MethodName := ⟨"DelayedExtents$Volume", "setValue", "(II)V"⟩
abbrev bb_VO_take : ByteArray := prog_3_method_5_code
def yy_VO_take : MethodName := ⟨"DelayedExtents$Volume", "take", "(II)V"⟩
abbrev bb_VO_release : ByteArray := prog_3_method_6_code
def yy_VO_release : MethodName := ⟨"DelayedExtents$Volume", "release", "(I)V"⟩
abbrev bb_VO_isUntaken : ByteArray := prog_3_method_7_code
def yy_VO_isUntaken : MethodName := ⟨"DelayedExtents$Volume", "isUntaken", "(I)Z"⟩
abbrev bb_VO_countUntaken : ByteArray := prog_3_method_8_code
def yy_VO_countUntaken : MethodName := ⟨"DelayedExtents$Volume", "countUntaken", "()I"⟩
abbrev bb_VO_bestRow : ByteArray := prog_3_method_9_code
def yy_VO_bestRow : MethodName := ⟨"DelayedExtents$Volume", "bestRow", "(I)I"⟩
abbrev bb_VO_untakenFrom : ByteArray := prog_3_method_10_code
def yy_VO_untakenFrom : MethodName := ⟨"DelayedExtents$Volume", "untakenFrom", "(I)I"⟩
abbrev bb_VO_suitsBetter : ByteArray := prog_3_method_11_code
def yy_VO_suitsBetter : MethodName := ⟨"DelayedExtents$Volume", "suitsBetter", "(III)Z"⟩
abbrev bb_LA_write : ByteArray := method_3_code
def yy_LA_write : MethodName := ⟨"DelayedExtentsLaw", "write", "(LDelayedExtents;III)I"⟩
abbrev bb_LA_read : ByteArray := method_4_code
def yy_LA_read : MethodName := ⟨"DelayedExtentsLaw", "read", "(LDelayedExtents;II[J)I"⟩
abbrev bb_LA_preallocate : ByteArray := method_5_code
def yy_LA_preallocate : MethodName := ⟨"DelayedExtentsLaw", "preallocate", "(LDelayedExtents;III[J)I"⟩
abbrev bb_LA_punch : ByteArray := method_6_code
def yy_LA_punch : MethodName := ⟨"DelayedExtentsLaw", "punch", "(LDelayedExtents;III[J)I"⟩
abbrev bb_LA_truncate : ByteArray := method_7_code
def yy_LA_truncate : MethodName := ⟨"DelayedExtentsLaw", "truncate", "(LDelayedExtents;II[J)I"⟩
abbrev bb_LA_flush : ByteArray := method_8_code
def yy_LA_flush : MethodName := ⟨"DelayedExtentsLaw", "flush", "(LDelayedExtents;I[J)I"⟩
abbrev bb_LA_extent : ByteArray := method_9_code
def yy_LA_extent : MethodName := ⟨"DelayedExtentsLaw", "extent", "(LDelayedExtents;III[J)I"⟩
abbrev bb_LA_about : ByteArray := method_10_code
def yy_LA_about : MethodName := ⟨"DelayedExtentsLaw", "about", "(LDelayedExtents;II[J)I"⟩
abbrev bb_LA_owner : ByteArray := method_11_code
def yy_LA_owner : MethodName := ⟨"DelayedExtentsLaw", "owner", "(LDelayedExtents;I[J)I"⟩
abbrev bb_LA_value : ByteArray := method_12_code
def yy_LA_value : MethodName := ⟨"DelayedExtentsLaw", "value", "(LDelayedExtents;I[J)I"⟩
end
section
theorem dd_BF_init_0 : decode bb_BF_init 0 = .ok (.aload_n 0, 1) := by decide +kernel
theorem dd_BF_init_1 : decode bb_BF_init 1 = .ok (.invokespecial 3, 3) := by decide +kernel
theorem dd_BF_init_4 : decode bb_BF_init 4 = .ok (.aload_n 0, 1) := by decide +kernel
theorem dd_BF_init_5 : decode bb_BF_init 5 = .ok (.bipush 60, 2) := by decide +kernel
theorem dd_BF_init_7 : decode bb_BF_init 7 = .ok (.newarray .int, 2) := by decide +kernel
theorem dd_BF_init_9 : decode bb_BF_init 9 = .ok (.putfield 9, 3) := by decide +kernel
theorem dd_BF_init_12 : decode bb_BF_init 12 = .ok (.aload_n 0, 1) := by decide +kernel
theorem dd_BF_init_13 : decode bb_BF_init 13 = .ok (.bipush 60, 2) := by decide +kernel
theorem dd_BF_init_15 : decode bb_BF_init 15 = .ok (.newarray .boolean, 2) := by decide +kernel
theorem dd_BF_init_17 : decode bb_BF_init 17 = .ok (.putfield 15, 3) := by decide +kernel
theorem dd_BF_init_20 : decode bb_BF_init 20 = .ok (.aload_n 0, 1) := by decide +kernel
theorem dd_BF_init_21 : decode bb_BF_init 21 = .ok (.bipush 60, 2) := by decide +kernel
theorem dd_BF_init_23 : decode bb_BF_init 23 = .ok (.newarray .boolean, 2) := by decide +kernel
theorem dd_BF_init_25 : decode bb_BF_init 25 = .ok (.putfield 19, 3) := by decide +kernel
theorem dd_BF_init_28 : decode bb_BF_init 28 = .ok (.aload_n 0, 1) := by decide +kernel
theorem dd_BF_init_29 : decode bb_BF_init 29 = .ok (.bipush 60, 2) := by decide +kernel
theorem dd_BF_init_31 : decode bb_BF_init 31 = .ok (.newarray .int, 2) := by decide +kernel
theorem dd_BF_init_33 : decode bb_BF_init 33 = .ok (.putfield 22, 3) := by decide +kernel
theorem dd_BF_init_36 : decode bb_BF_init 36 = .ok (.aload_n 0, 1) := by decide +kernel
theorem dd_BF_init_37 : decode bb_BF_init 37 = .ok (.bipush 60, 2) := by decide +kernel
theorem dd_BF_init_39 : decode bb_BF_init 39 = .ok (.newarray .boolean, 2) := by decide +kernel
theorem dd_BF_init_41 : decode bb_BF_init 41 = .ok (.putfield 25, 3) := by decide +kernel
theorem dd_BF_init_44 : decode bb_BF_init 44 = .ok (.aload_n 0, 1) := by decide +kernel
theorem dd_BF_init_45 : decode bb_BF_init 45 = .ok (.iconst 0, 1) := by decide +kernel
theorem dd_BF_init_46 : decode bb_BF_init 46 = .ok (.putfield 28, 3) := by decide +kernel
theorem dd_BF_init_49 : decode bb_BF_init 49 = .ok (.aload_n 0, 1) := by decide +kernel
theorem dd_BF_init_50 : decode bb_BF_init 50 = .ok (.aload_n 1, 1) := by decide +kernel
theorem dd_BF_init_51 : decode bb_BF_init 51 = .ok (.putfield 32, 3) := by decide +kernel
theorem dd_BF_init_54 : decode bb_BF_init 54 = .ok (.aload_n 0, 1) := by decide +kernel
theorem dd_BF_init_55 : decode bb_BF_init 55 = .ok (.iload_n 2, 1) := by decide +kernel
theorem dd_BF_init_56 : decode bb_BF_init 56 = .ok (.putfield 36, 3) := by decide +kernel
theorem dd_BF_init_59 : decode bb_BF_init 59 = .ok (.aload_n 0, 1) := by decide +kernel
theorem dd_BF_init_60 : decode bb_BF_init 60 = .ok (.getfield 9, 3) := by decide +kernel
theorem dd_BF_init_63 : decode bb_BF_init 63 = .ok (.iconst (-1), 1) := by decide +kernel
theorem dd_BF_init_64 : decode bb_BF_init 64 = .ok (.invokestatic 39, 3) := by decide +kernel
theorem dd_BF_init_67 : decode bb_BF_init 67 = .ok (.return_, 1) := by decide +kernel
theorem dd_BF_size_0 : decode bb_BF_size 0 = .ok (.aload_n 0, 1) := by decide +kernel
theorem dd_BF_size_1 : decode bb_BF_size 1 = .ok (.getfield 28, 3) := by decide +kernel
theorem dd_BF_size_4 : decode bb_BF_size 4 = .ok (.ireturn, 1) := by decide +kernel
theorem dd_BF_setSize_0 : decode bb_BF_setSize 0 = .ok (.aload_n 0, 1) := by decide +kernel
theorem dd_BF_setSize_1 : decode bb_BF_setSize 1 = .ok (.iload_n 1, 1) := by decide +kernel
theorem dd_BF_setSize_2 : decode bb_BF_setSize 2 = .ok (.putfield 28, 3) := by decide +kernel
theorem dd_BF_setSize_5 : decode bb_BF_setSize 5 = .ok (.return_, 1) := by decide +kernel
theorem dd_BF_growTo_0 : decode bb_BF_growTo 0 = .ok (.aload_n 0, 1) := by decide +kernel
theorem dd_BF_growTo_1 : decode bb_BF_growTo 1 = .ok (.aload_n 0, 1) := by decide +kernel
theorem dd_BF_growTo_2 : decode bb_BF_growTo 2 = .ok (.getfield 28, 3) := by decide +kernel
theorem dd_BF_growTo_5 : decode bb_BF_growTo 5 = .ok (.iload_n 1, 1) := by decide +kernel
theorem dd_BF_growTo_6 : decode bb_BF_growTo 6 = .ok (.invokestatic 45, 3) := by decide +kernel
theorem dd_BF_growTo_9 : decode bb_BF_growTo 9 = .ok (.putfield 28, 3) := by decide +kernel
theorem dd_BF_growTo_12 : decode bb_BF_growTo 12 = .ok (.return_, 1) := by decide +kernel
theorem dd_BF_placeOf_0 : decode bb_BF_placeOf 0 = .ok (.aload_n 0, 1) := by decide +kernel
theorem dd_BF_placeOf_1 : decode bb_BF_placeOf 1 = .ok (.getfield 9, 3) := by decide +kernel
theorem dd_BF_placeOf_4 : decode bb_BF_placeOf 4 = .ok (.iload_n 1, 1) := by decide +kernel
theorem dd_BF_placeOf_5 : decode bb_BF_placeOf 5 = .ok (.iaload, 1) := by decide +kernel
theorem dd_BF_placeOf_6 : decode bb_BF_placeOf 6 = .ok (.ireturn, 1) := by decide +kernel
theorem dd_BF_isWritten_0 : decode bb_BF_isWritten 0 = .ok (.aload_n 0, 1) := by decide +kernel
theorem dd_BF_isWritten_1 : decode bb_BF_isWritten 1 = .ok (.getfield 15, 3) := by decide +kernel
theorem dd_BF_isWritten_4 : decode bb_BF_isWritten 4 = .ok (.iload_n 1, 1) := by decide +kernel
theorem dd_BF_isWritten_5 : decode bb_BF_isWritten 5 = .ok (.baload, 1) := by decide +kernel
theorem dd_BF_isWritten_6 : decode bb_BF_isWritten 6 = .ok (.ireturn, 1) := by decide +kernel
theorem dd_BF_isHole_0 : decode bb_BF_isHole 0 = .ok (.aload_n 0, 1) := by decide +kernel
theorem dd_BF_isHole_1 : decode bb_BF_isHole 1 = .ok (.getfield 9, 3) := by decide +kernel
theorem dd_BF_isHole_4 : decode bb_BF_isHole 4 = .ok (.iload_n 1, 1) := by decide +kernel
theorem dd_BF_isHole_5 : decode bb_BF_isHole 5 = .ok (.iaload, 1) := by decide +kernel
theorem dd_BF_isHole_6 : decode bb_BF_isHole 6 = .ok (.iconst (-1), 1) := by decide +kernel
theorem dd_BF_isHole_7 : decode bb_BF_isHole 7 = .ok (.if_icmp .ne 7, 3) := by decide +kernel
theorem dd_BF_isHole_10 : decode bb_BF_isHole 10 = .ok (.iconst 1, 1) := by decide +kernel
theorem dd_BF_isHole_11 : decode bb_BF_isHole 11 = .ok (.goto 4, 3) := by decide +kernel
theorem dd_BF_isHole_14 : decode bb_BF_isHole 14 = .ok (.iconst 0, 1) := by decide +kernel
theorem dd_BF_isHole_15 : decode bb_BF_isHole 15 = .ok (.ireturn, 1) := by decide +kernel
theorem dd_BF_hasPage_0 : decode bb_BF_hasPage 0 = .ok (.aload_n 0, 1) := by decide +kernel
theorem dd_BF_hasPage_1 : decode bb_BF_hasPage 1 = .ok (.getfield 19, 3) := by decide +kernel
theorem dd_BF_hasPage_4 : decode bb_BF_hasPage 4 = .ok (.iload_n 1, 1) := by decide +kernel
theorem dd_BF_hasPage_5 : decode bb_BF_hasPage 5 = .ok (.baload, 1) := by decide +kernel
theorem dd_BF_hasPage_6 : decode bb_BF_hasPage 6 = .ok (.ireturn, 1) := by decide +kernel
theorem dd_BF_putPage_0 : decode bb_BF_putPage 0 = .ok (.aload_n 0, 1) := by decide +kernel
theorem dd_BF_putPage_1 : decode bb_BF_putPage 1 = .ok (.getfield 19, 3) := by decide +kernel
theorem dd_BF_putPage_4 : decode bb_BF_putPage 4 = .ok (.iload_n 1, 1) := by decide +kernel
theorem dd_BF_putPage_5 : decode bb_BF_putPage 5 = .ok (.iconst 1, 1) := by decide +kernel
theorem dd_BF_putPage_6 : decode bb_BF_putPage 6 = .ok (.bastore, 1) := by decide +kernel
theorem dd_BF_putPage_7 : decode bb_BF_putPage 7 = .ok (.aload_n 0, 1) := by decide +kernel
theorem dd_BF_putPage_8 : decode bb_BF_putPage 8 = .ok (.getfield 22, 3) := by decide +kernel
theorem dd_BF_putPage_11 : decode bb_BF_putPage 11 = .ok (.iload_n 1, 1) := by decide +kernel
theorem dd_BF_putPage_12 : decode bb_BF_putPage 12 = .ok (.iload_n 2, 1) := by decide +kernel
theorem dd_BF_putPage_13 : decode bb_BF_putPage 13 = .ok (.iastore, 1) := by decide +kernel
theorem dd_BF_putPage_14 : decode bb_BF_putPage 14 = .ok (.return_, 1) := by decide +kernel
theorem dd_BF_dropPage_0 : decode bb_BF_dropPage 0 = .ok (.aload_n 0, 1) := by decide +kernel
theorem dd_BF_dropPage_1 : decode bb_BF_dropPage 1 = .ok (.getfield 19, 3) := by decide +kernel
theorem dd_BF_dropPage_4 : decode bb_BF_dropPage 4 = .ok (.iload_n 1, 1) := by decide +kernel
theorem dd_BF_dropPage_5 : decode bb_BF_dropPage 5 = .ok (.iconst 0, 1) := by decide +kernel
theorem dd_BF_dropPage_6 : decode bb_BF_dropPage 6 = .ok (.bastore, 1) := by decide +kernel
theorem dd_BF_dropPage_7 : decode bb_BF_dropPage 7 = .ok (.return_, 1) := by decide +kernel
theorem dd_BF_dropPages_0 : decode bb_BF_dropPages 0 = .ok (.iconst 0, 1) := by decide +kernel
theorem dd_BF_dropPages_1 : decode bb_BF_dropPages 1 = .ok (.istore_n 1, 1) := by decide +kernel
theorem dd_BF_dropPages_2 : decode bb_BF_dropPages 2 = .ok (.iload_n 1, 1) := by decide +kernel
theorem dd_BF_dropPages_3 : decode bb_BF_dropPages 3 = .ok (.bipush 60, 2) := by decide +kernel
theorem dd_BF_dropPages_5 : decode bb_BF_dropPages 5 = .ok (.if_icmp .ge 14, 3) := by decide +kernel
theorem dd_BF_dropPages_8 : decode bb_BF_dropPages 8 = .ok (.aload_n 0, 1) := by decide +kernel
theorem dd_BF_dropPages_9 : decode bb_BF_dropPages 9 = .ok (.iload_n 1, 1) := by decide +kernel
theorem dd_BF_dropPages_10 : decode bb_BF_dropPages 10 = .ok (.invokevirtual 51, 3) := by decide +kernel
theorem dd_BF_dropPages_13 : decode bb_BF_dropPages 13 = .ok (.iinc 1 1, 3) := by decide +kernel
theorem dd_BF_dropPages_16 : decode bb_BF_dropPages 16 = .ok (.goto (-14), 3) := by decide +kernel
theorem dd_BF_dropPages_19 : decode bb_BF_dropPages 19 = .ok (.return_, 1) := by decide +kernel
theorem dd_BF_readsAs_0 : decode bb_BF_readsAs 0 = .ok (.aload_n 0, 1) := by decide +kernel
theorem dd_BF_readsAs_1 : decode bb_BF_readsAs 1 = .ok (.getfield 19, 3) := by decide +kernel
theorem dd_BF_readsAs_4 : decode bb_BF_readsAs 4 = .ok (.iload_n 1, 1) := by decide +kernel
theorem dd_BF_readsAs_5 : decode bb_BF_readsAs 5 = .ok (.baload, 1) := by decide +kernel
theorem dd_BF_readsAs_6 : decode bb_BF_readsAs 6 = .ok (.ifCond .eq 10, 3) := by decide +kernel
theorem dd_BF_readsAs_9 : decode bb_BF_readsAs 9 = .ok (.aload_n 0, 1) := by decide +kernel
theorem dd_BF_readsAs_10 : decode bb_BF_readsAs 10 = .ok (.getfield 22, 3) := by decide +kernel
theorem dd_BF_readsAs_13 : decode bb_BF_readsAs 13 = .ok (.iload_n 1, 1) := by decide +kernel
theorem dd_BF_readsAs_14 : decode bb_BF_readsAs 14 = .ok (.iaload, 1) := by decide +kernel
theorem dd_BF_readsAs_15 : decode bb_BF_readsAs 15 = .ok (.ireturn, 1) := by decide +kernel
theorem dd_BF_readsAs_16 : decode bb_BF_readsAs 16 = .ok (.aload_n 0, 1) := by decide +kernel
theorem dd_BF_readsAs_17 : decode bb_BF_readsAs 17 = .ok (.iload_n 1, 1) := by decide +kernel
theorem dd_BF_readsAs_18 : decode bb_BF_readsAs 18 = .ok (.invokevirtual 55, 3) := by decide +kernel
theorem dd_BF_readsAs_21 : decode bb_BF_readsAs 21 = .ok (.ifCond .ne 12, 3) := by decide +kernel
theorem dd_BF_readsAs_24 : decode bb_BF_readsAs 24 = .ok (.aload_n 0, 1) := by decide +kernel
theorem dd_BF_readsAs_25 : decode bb_BF_readsAs 25 = .ok (.getfield 15, 3) := by decide +kernel
theorem dd_BF_readsAs_28 : decode bb_BF_readsAs 28 = .ok (.iload_n 1, 1) := by decide +kernel
theorem dd_BF_readsAs_29 : decode bb_BF_readsAs 29 = .ok (.baload, 1) := by decide +kernel
theorem dd_BF_readsAs_30 : decode bb_BF_readsAs 30 = .ok (.ifCond .ne 5, 3) := by decide +kernel
theorem dd_BF_readsAs_33 : decode bb_BF_readsAs 33 = .ok (.iconst 0, 1) := by decide +kernel
theorem dd_BF_readsAs_34 : decode bb_BF_readsAs 34 = .ok (.ireturn, 1) := by decide +kernel
theorem dd_BF_readsAs_35 : decode bb_BF_readsAs 35 = .ok (.aload_n 0, 1) := by decide +kernel
theorem dd_BF_readsAs_36 : decode bb_BF_readsAs 36 = .ok (.getfield 32, 3) := by decide +kernel
theorem dd_BF_readsAs_39 : decode bb_BF_readsAs 39 = .ok (.aload_n 0, 1) := by decide +kernel
theorem dd_BF_readsAs_40 : decode bb_BF_readsAs 40 = .ok (.getfield 9, 3) := by decide +kernel
theorem dd_BF_readsAs_43 : decode bb_BF_readsAs 43 = .ok (.iload_n 1, 1) := by decide +kernel
theorem dd_BF_readsAs_44 : decode bb_BF_readsAs 44 = .ok (.iaload, 1) := by decide +kernel
theorem dd_BF_readsAs_45 : decode bb_BF_readsAs 45 = .ok (.invokevirtual 59, 3) := by decide +kernel
theorem dd_BF_readsAs_48 : decode bb_BF_readsAs 48 = .ok (.ireturn, 1) := by decide +kernel
theorem dd_BF_countPages_0 : decode bb_BF_countPages 0 = .ok (.iconst 0, 1) := by decide +kernel
theorem dd_BF_countPages_1 : decode bb_BF_countPages 1 = .ok (.istore_n 1, 1) := by decide +kernel
theorem dd_BF_countPages_2 : decode bb_BF_countPages 2 = .ok (.iconst 0, 1) := by decide +kernel
theorem dd_BF_countPages_3 : decode bb_BF_countPages 3 = .ok (.istore_n 2, 1) := by decide +kernel
theorem dd_BF_countPages_4 : decode bb_BF_countPages 4 = .ok (.iload_n 2, 1) := by decide +kernel
theorem dd_BF_countPages_5 : decode bb_BF_countPages 5 = .ok (.bipush 60, 2) := by decide +kernel
theorem dd_BF_countPages_7 : decode bb_BF_countPages 7 = .ok (.if_icmp .ge 21, 3) := by decide +kernel
theorem dd_BF_countPages_10 : decode bb_BF_countPages 10 = .ok (.aload_n 0, 1) := by decide +kernel
theorem dd_BF_countPages_11 : decode bb_BF_countPages 11 = .ok (.getfield 19, 3) := by decide +kernel
theorem dd_BF_countPages_14 : decode bb_BF_countPages 14 = .ok (.iload_n 2, 1) := by decide +kernel
theorem dd_BF_countPages_15 : decode bb_BF_countPages 15 = .ok (.baload, 1) := by decide +kernel
theorem dd_BF_countPages_16 : decode bb_BF_countPages 16 = .ok (.ifCond .eq 6, 3) := by decide +kernel
theorem dd_BF_countPages_19 : decode bb_BF_countPages 19 = .ok (.iinc 1 1, 3) := by decide +kernel
theorem dd_BF_countPages_22 : decode bb_BF_countPages 22 = .ok (.iinc 2 1, 3) := by decide +kernel
theorem dd_BF_countPages_25 : decode bb_BF_countPages 25 = .ok (.goto (-21), 3) := by decide +kernel
theorem dd_BF_countPages_28 : decode bb_BF_countPages 28 = .ok (.iload_n 1, 1) := by decide +kernel
theorem dd_BF_countPages_29 : decode bb_BF_countPages 29 = .ok (.ireturn, 1) := by decide +kernel
theorem dd_BF_countMapped_0 : decode bb_BF_countMapped 0 = .ok (.bipush 60, 2) := by decide +kernel
theorem dd_BF_countMapped_2 : decode bb_BF_countMapped 2 = .ok (.aload_n 0, 1) := by decide +kernel
theorem dd_BF_countMapped_3 : decode bb_BF_countMapped 3 = .ok (.iconst 0, 1) := by decide +kernel
theorem dd_BF_countMapped_4 : decode bb_BF_countMapped 4 = .ok (.bipush 60, 2) := by decide +kernel
theorem dd_BF_countMapped_6 : decode bb_BF_countMapped 6 = .ok (.invokevirtual 65, 3) := by decide +kernel
theorem dd_BF_countMapped_9 : decode bb_BF_countMapped 9 = .ok (.isub, 1) := by decide +kernel
theorem dd_BF_countMapped_10 : decode bb_BF_countMapped 10 = .ok (.ireturn, 1) := by decide +kernel
theorem dd_BF_countHoles_0 : decode bb_BF_countHoles 0 = .ok (.iconst 0, 1) := by decide +kernel
theorem dd_BF_countHoles_1 : decode bb_BF_countHoles 1 = .ok (.istore_n 3, 1) := by decide +kernel
theorem dd_BF_countHoles_2 : decode bb_BF_countHoles 2 = .ok (.iload_n 1, 1) := by decide +kernel
theorem dd_BF_countHoles_3 : decode bb_BF_countHoles 3 = .ok (.istore 4, 2) := by decide +kernel
theorem dd_BF_countHoles_5 : decode bb_BF_countHoles 5 = .ok (.iload 4, 2) := by decide +kernel
theorem dd_BF_countHoles_7 : decode bb_BF_countHoles 7 = .ok (.iload_n 2, 1) := by decide +kernel
theorem dd_BF_countHoles_8 : decode bb_BF_countHoles 8 = .ok (.if_icmp .ge 21, 3) := by decide +kernel
theorem dd_BF_countHoles_11 : decode bb_BF_countHoles 11 = .ok (.aload_n 0, 1) := by decide +kernel
theorem dd_BF_countHoles_12 : decode bb_BF_countHoles 12 = .ok (.iload 4, 2) := by decide +kernel
theorem dd_BF_countHoles_14 : decode bb_BF_countHoles 14 = .ok (.invokevirtual 55, 3) := by decide +kernel
theorem dd_BF_countHoles_17 : decode bb_BF_countHoles 17 = .ok (.ifCond .eq 6, 3) := by decide +kernel
theorem dd_BF_countHoles_20 : decode bb_BF_countHoles 20 = .ok (.iinc 3 1, 3) := by decide +kernel
theorem dd_BF_countHoles_23 : decode bb_BF_countHoles 23 = .ok (.iinc 4 1, 3) := by decide +kernel
theorem dd_BF_countHoles_26 : decode bb_BF_countHoles 26 = .ok (.goto (-21), 3) := by decide +kernel
theorem dd_BF_countHoles_29 : decode bb_BF_countHoles 29 = .ok (.iload_n 3, 1) := by decide +kernel
theorem dd_BF_countHoles_30 : decode bb_BF_countHoles 30 = .ok (.ireturn, 1) := by decide +kernel
theorem dd_BF_countReserved_0 : decode bb_BF_countReserved 0 = .ok (.iconst 0, 1) := by decide +kernel
theorem dd_BF_countReserved_1 : decode bb_BF_countReserved 1 = .ok (.istore_n 1, 1) := by decide +kernel
theorem dd_BF_countReserved_2 : decode bb_BF_countReserved 2 = .ok (.iconst 0, 1) := by decide +kernel
theorem dd_BF_countReserved_3 : decode bb_BF_countReserved 3 = .ok (.istore_n 2, 1) := by decide +kernel
theorem dd_BF_countReserved_4 : decode bb_BF_countReserved 4 = .ok (.iconst 0, 1) := by decide +kernel
theorem dd_BF_countReserved_5 : decode bb_BF_countReserved 5 = .ok (.istore_n 3, 1) := by decide +kernel
theorem dd_BF_countReserved_6 : decode bb_BF_countReserved 6 = .ok (.iload_n 3, 1) := by decide +kernel
theorem dd_BF_countReserved_7 : decode bb_BF_countReserved 7 = .ok (.bipush 60, 2) := by decide +kernel
theorem dd_BF_countReserved_9 : decode bb_BF_countReserved 9 = .ok (.if_icmp .ge 53, 3) := by decide +kernel
theorem dd_BF_countReserved_12 : decode bb_BF_countReserved 12 = .ok (.aload_n 0, 1) := by decide +kernel
theorem dd_BF_countReserved_13 : decode bb_BF_countReserved 13 = .ok (.getfield 19, 3) := by decide +kernel
theorem dd_BF_countReserved_16 : decode bb_BF_countReserved 16 = .ok (.iload_n 3, 1) := by decide +kernel
theorem dd_BF_countReserved_17 : decode bb_BF_countReserved 17 = .ok (.baload, 1) := by decide +kernel
theorem dd_BF_countReserved_18 : decode bb_BF_countReserved 18 = .ok (.ifCond .eq 17, 3) := by decide +kernel
theorem dd_BF_countReserved_21 : decode bb_BF_countReserved 21 = .ok (.aload_n 0, 1) := by decide +kernel
theorem dd_BF_countReserved_22 : decode bb_BF_countReserved 22 = .ok (.iload_n 3, 1) := by decide +kernel
theorem dd_BF_countReserved_23 : decode bb_BF_countReserved 23 = .ok (.invokevirtual 55, 3) := by decide +kernel
theorem dd_BF_countReserved_26 : decode bb_BF_countReserved 26 = .ok (.ifCond .eq 9, 3) := by decide +kernel
theorem dd_BF_countReserved_29 : decode bb_BF_countReserved 29 = .ok (.iinc 1 1, 3) := by decide +kernel
theorem dd_BF_countReserved_32 : decode bb_BF_countReserved 32 = .ok (.goto 24, 3) := by decide +kernel
theorem dd_BF_countReserved_35 : decode bb_BF_countReserved 35 = .ok (.aload_n 0, 1) := by decide +kernel
theorem dd_BF_countReserved_36 : decode bb_BF_countReserved 36 = .ok (.getfield 19, 3) := by decide +kernel
theorem dd_BF_countReserved_39 : decode bb_BF_countReserved 39 = .ok (.iload_n 3, 1) := by decide +kernel
theorem dd_BF_countReserved_40 : decode bb_BF_countReserved 40 = .ok (.baload, 1) := by decide +kernel
theorem dd_BF_countReserved_41 : decode bb_BF_countReserved 41 = .ok (.ifCond .eq 15, 3) := by decide +kernel
theorem dd_BF_countReserved_44 : decode bb_BF_countReserved 44 = .ok (.aload_n 0, 1) := by decide +kernel
theorem dd_BF_countReserved_45 : decode bb_BF_countReserved 45 = .ok (.getfield 15, 3) := by decide +kernel
theorem dd_BF_countReserved_48 : decode bb_BF_countReserved 48 = .ok (.iload_n 3, 1) := by decide +kernel
theorem dd_BF_countReserved_49 : decode bb_BF_countReserved 49 = .ok (.baload, 1) := by decide +kernel
theorem dd_BF_countReserved_50 : decode bb_BF_countReserved 50 = .ok (.ifCond .ne 6, 3) := by decide +kernel
theorem dd_BF_countReserved_53 : decode bb_BF_countReserved 53 = .ok (.iinc 2 1, 3) := by decide +kernel
theorem dd_BF_countReserved_56 : decode bb_BF_countReserved 56 = .ok (.iinc 3 1, 3) := by decide +kernel
theorem dd_BF_countReserved_59 : decode bb_BF_countReserved 59 = .ok (.goto (-53), 3) := by decide +kernel
theorem dd_BF_countReserved_62 : decode bb_BF_countReserved 62 = .ok (.aload_n 0, 1) := by decide +kernel
theorem dd_BF_countReserved_63 : decode bb_BF_countReserved 63 = .ok (.invokevirtual 68, 3) := by decide +kernel
theorem dd_BF_countReserved_66 : decode bb_BF_countReserved 66 = .ok (.istore_n 3, 1) := by decide +kernel
theorem dd_BF_countReserved_67 : decode bb_BF_countReserved 67 = .ok (.iload_n 3, 1) := by decide +kernel
theorem dd_BF_countReserved_68 : decode bb_BF_countReserved 68 = .ok (.iload_n 1, 1) := by decide +kernel
theorem dd_BF_countReserved_69 : decode bb_BF_countReserved 69 = .ok (.iadd, 1) := by decide +kernel
theorem dd_BF_countReserved_70 : decode bb_BF_countReserved 70 = .ok (.iconst 2, 1) := by decide +kernel
theorem dd_BF_countReserved_71 : decode bb_BF_countReserved 71 = .ok (.iload_n 2, 1) := by decide +kernel
theorem dd_BF_countReserved_72 : decode bb_BF_countReserved 72 = .ok (.imul, 1) := by decide +kernel
theorem dd_BF_countReserved_73 : decode bb_BF_countReserved 73 = .ok (.iadd, 1) := by decide +kernel
theorem dd_BF_countReserved_74 : decode bb_BF_countReserved 74 = .ok (.istore 4, 2) := by decide +kernel
theorem dd_BF_countReserved_76 : decode bb_BF_countReserved 76 = .ok (.iload_n 1, 1) := by decide +kernel
theorem dd_BF_countReserved_77 : decode bb_BF_countReserved 77 = .ok (.iload 4, 2) := by decide +kernel
theorem dd_BF_countReserved_79 : decode bb_BF_countReserved 79 = .ok (.invokestatic 72, 3) := by decide +kernel
theorem dd_BF_countReserved_82 : decode bb_BF_countReserved 82 = .ok (.iadd, 1) := by decide +kernel
theorem dd_BF_countReserved_83 : decode bb_BF_countReserved 83 = .ok (.iload_n 3, 1) := by decide +kernel
theorem dd_BF_countReserved_84 : decode bb_BF_countReserved 84 = .ok (.invokestatic 72, 3) := by decide +kernel
theorem dd_BF_countReserved_87 : decode bb_BF_countReserved 87 = .ok (.isub, 1) := by decide +kernel
theorem dd_BF_countReserved_88 : decode bb_BF_countReserved 88 = .ok (.ireturn, 1) := by decide +kernel
theorem dd_BF_countExtents_0 : decode bb_BF_countExtents 0 = .ok (.iconst 0, 1) := by decide +kernel
theorem dd_BF_countExtents_1 : decode bb_BF_countExtents 1 = .ok (.istore_n 1, 1) := by decide +kernel
theorem dd_BF_countExtents_2 : decode bb_BF_countExtents 2 = .ok (.iconst 0, 1) := by decide +kernel
theorem dd_BF_countExtents_3 : decode bb_BF_countExtents 3 = .ok (.istore_n 2, 1) := by decide +kernel
theorem dd_BF_countExtents_4 : decode bb_BF_countExtents 4 = .ok (.iload_n 2, 1) := by decide +kernel
theorem dd_BF_countExtents_5 : decode bb_BF_countExtents 5 = .ok (.bipush 60, 2) := by decide +kernel
theorem dd_BF_countExtents_7 : decode bb_BF_countExtents 7 = .ok (.if_icmp .ge 27, 3) := by decide +kernel
theorem dd_BF_countExtents_10 : decode bb_BF_countExtents 10 = .ok (.aload_n 0, 1) := by decide +kernel
theorem dd_BF_countExtents_11 : decode bb_BF_countExtents 11 = .ok (.iload_n 2, 1) := by decide +kernel
theorem dd_BF_countExtents_12 : decode bb_BF_countExtents 12 = .ok (.invokevirtual 75, 3) := by decide +kernel
theorem dd_BF_countExtents_15 : decode bb_BF_countExtents 15 = .ok (.istore_n 3, 1) := by decide +kernel
theorem dd_BF_countExtents_16 : decode bb_BF_countExtents 16 = .ok (.iload_n 3, 1) := by decide +kernel
theorem dd_BF_countExtents_17 : decode bb_BF_countExtents 17 = .ok (.ifCond .le 6, 3) := by decide +kernel
theorem dd_BF_countExtents_20 : decode bb_BF_countExtents 20 = .ok (.iinc 1 1, 3) := by decide +kernel
theorem dd_BF_countExtents_23 : decode bb_BF_countExtents 23 = .ok (.iload_n 2, 1) := by decide +kernel
theorem dd_BF_countExtents_24 : decode bb_BF_countExtents 24 = .ok (.iload_n 3, 1) := by decide +kernel
theorem dd_BF_countExtents_25 : decode bb_BF_countExtents 25 = .ok (.iconst 1, 1) := by decide +kernel
theorem dd_BF_countExtents_26 : decode bb_BF_countExtents 26 = .ok (.invokestatic 45, 3) := by decide +kernel
theorem dd_BF_countExtents_29 : decode bb_BF_countExtents 29 = .ok (.iadd, 1) := by decide +kernel
theorem dd_BF_countExtents_30 : decode bb_BF_countExtents 30 = .ok (.istore_n 2, 1) := by decide +kernel
theorem dd_BF_countExtents_31 : decode bb_BF_countExtents 31 = .ok (.goto (-27), 3) := by decide +kernel
theorem dd_BF_countExtents_34 : decode bb_BF_countExtents 34 = .ok (.iload_n 1, 1) := by decide +kernel
theorem dd_BF_countExtents_35 : decode bb_BF_countExtents 35 = .ok (.ireturn, 1) := by decide +kernel
theorem dd_BF_firstBlockOfExtent_0 : decode bb_BF_firstBlockOfExtent 0 = .ok (.iconst 0, 1) := by decide +kernel
theorem dd_BF_firstBlockOfExtent_1 : decode bb_BF_firstBlockOfExtent 1 = .ok (.istore_n 2, 1) := by decide +kernel
theorem dd_BF_firstBlockOfExtent_2 : decode bb_BF_firstBlockOfExtent 2 = .ok (.iconst 0, 1) := by decide +kernel
theorem dd_BF_firstBlockOfExtent_3 : decode bb_BF_firstBlockOfExtent 3 = .ok (.istore_n 3, 1) := by decide +kernel
theorem dd_BF_firstBlockOfExtent_4 : decode bb_BF_firstBlockOfExtent 4 = .ok (.iload_n 3, 1) := by decide +kernel
theorem dd_BF_firstBlockOfExtent_5 : decode bb_BF_firstBlockOfExtent 5 = .ok (.bipush 60, 2) := by decide +kernel
theorem dd_BF_firstBlockOfExtent_7 : decode bb_BF_firstBlockOfExtent 7 = .ok (.if_icmp .ge 37, 3) := by decide +kernel
theorem dd_BF_firstBlockOfExtent_10 : decode bb_BF_firstBlockOfExtent 10 = .ok (.aload_n 0, 1) := by decide +kernel
theorem dd_BF_firstBlockOfExtent_11 : decode bb_BF_firstBlockOfExtent 11 = .ok (.iload_n 3, 1) := by decide +kernel
theorem dd_BF_firstBlockOfExtent_12 : decode bb_BF_firstBlockOfExtent 12 = .ok (.invokevirtual 75, 3) := by decide +kernel
theorem dd_BF_firstBlockOfExtent_15 : decode bb_BF_firstBlockOfExtent 15 = .ok (.istore 4, 2) := by decide +kernel
theorem dd_BF_firstBlockOfExtent_17 : decode bb_BF_firstBlockOfExtent 17 = .ok (.iload 4, 2) := by decide +kernel
theorem dd_BF_firstBlockOfExtent_19 : decode bb_BF_firstBlockOfExtent 19 = .ok (.ifCond .le 13, 3) := by decide +kernel
theorem dd_BF_firstBlockOfExtent_22 : decode bb_BF_firstBlockOfExtent 22 = .ok (.iload_n 2, 1) := by decide +kernel
theorem dd_BF_firstBlockOfExtent_23 : decode bb_BF_firstBlockOfExtent 23 = .ok (.iload_n 1, 1) := by decide +kernel
theorem dd_BF_firstBlockOfExtent_24 : decode bb_BF_firstBlockOfExtent 24 = .ok (.if_icmp .ne 5, 3) := by decide +kernel
theorem dd_BF_firstBlockOfExtent_27 : decode bb_BF_firstBlockOfExtent 27 = .ok (.iload_n 3, 1) := by decide +kernel
theorem dd_BF_firstBlockOfExtent_28 : decode bb_BF_firstBlockOfExtent 28 = .ok (.ireturn, 1) := by decide +kernel
theorem dd_BF_firstBlockOfExtent_29 : decode bb_BF_firstBlockOfExtent 29 = .ok (.iinc 2 1, 3) := by decide +kernel
theorem dd_BF_firstBlockOfExtent_32 : decode bb_BF_firstBlockOfExtent 32 = .ok (.iload_n 3, 1) := by decide +kernel
theorem dd_BF_firstBlockOfExtent_33 : decode bb_BF_firstBlockOfExtent 33 = .ok (.iload 4, 2) := by decide +kernel
theorem dd_BF_firstBlockOfExtent_35 : decode bb_BF_firstBlockOfExtent 35 = .ok (.iconst 1, 1) := by decide +kernel
theorem dd_BF_firstBlockOfExtent_36 : decode bb_BF_firstBlockOfExtent 36 = .ok (.invokestatic 45, 3) := by decide +kernel
theorem dd_BF_firstBlockOfExtent_39 : decode bb_BF_firstBlockOfExtent 39 = .ok (.iadd, 1) := by decide +kernel
theorem dd_BF_firstBlockOfExtent_40 : decode bb_BF_firstBlockOfExtent 40 = .ok (.istore_n 3, 1) := by decide +kernel
theorem dd_BF_firstBlockOfExtent_41 : decode bb_BF_firstBlockOfExtent 41 = .ok (.goto (-37), 3) := by decide +kernel
theorem dd_BF_firstBlockOfExtent_44 : decode bb_BF_firstBlockOfExtent 44 = .ok (.iconst (-1), 1) := by decide +kernel
theorem dd_BF_firstBlockOfExtent_45 : decode bb_BF_firstBlockOfExtent 45 = .ok (.ireturn, 1) := by decide +kernel
theorem dd_BF_extentLength_0 : decode bb_BF_extentLength 0 = .ok (.aload_n 0, 1) := by decide +kernel
theorem dd_BF_extentLength_1 : decode bb_BF_extentLength 1 = .ok (.iload_n 1, 1) := by decide +kernel
theorem dd_BF_extentLength_2 : decode bb_BF_extentLength 2 = .ok (.invokevirtual 55, 3) := by decide +kernel
theorem dd_BF_extentLength_5 : decode bb_BF_extentLength 5 = .ok (.ifCond .eq 5, 3) := by decide +kernel
theorem dd_BF_extentLength_8 : decode bb_BF_extentLength 8 = .ok (.iconst 0, 1) := by decide +kernel
theorem dd_BF_extentLength_9 : decode bb_BF_extentLength 9 = .ok (.ireturn, 1) := by decide +kernel
theorem dd_BF_extentLength_10 : decode bb_BF_extentLength 10 = .ok (.iload_n 1, 1) := by decide +kernel
theorem dd_BF_extentLength_11 : decode bb_BF_extentLength 11 = .ok (.bipush 8, 2) := by decide +kernel
theorem dd_BF_extentLength_13 : decode bb_BF_extentLength 13 = .ok (.iadd, 1) := by decide +kernel
theorem dd_BF_extentLength_14 : decode bb_BF_extentLength 14 = .ok (.bipush 60, 2) := by decide +kernel
theorem dd_BF_extentLength_16 : decode bb_BF_extentLength 16 = .ok (.invokestatic 78, 3) := by decide +kernel
theorem dd_BF_extentLength_19 : decode bb_BF_extentLength 19 = .ok (.istore_n 2, 1) := by decide +kernel
theorem dd_BF_extentLength_20 : decode bb_BF_extentLength 20 = .ok (.iload_n 1, 1) := by decide +kernel
theorem dd_BF_extentLength_21 : decode bb_BF_extentLength 21 = .ok (.iconst 1, 1) := by decide +kernel
theorem dd_BF_extentLength_22 : decode bb_BF_extentLength 22 = .ok (.iadd, 1) := by decide +kernel
theorem dd_BF_extentLength_23 : decode bb_BF_extentLength 23 = .ok (.istore_n 3, 1) := by decide +kernel
theorem dd_BF_extentLength_24 : decode bb_BF_extentLength 24 = .ok (.iload_n 3, 1) := by decide +kernel
theorem dd_BF_extentLength_25 : decode bb_BF_extentLength 25 = .ok (.iload_n 2, 1) := by decide +kernel
theorem dd_BF_extentLength_26 : decode bb_BF_extentLength 26 = .ok (.if_icmp .ge 17, 3) := by decide +kernel
theorem dd_BF_extentLength_29 : decode bb_BF_extentLength 29 = .ok (.aload_n 0, 1) := by decide +kernel
theorem dd_BF_extentLength_30 : decode bb_BF_extentLength 30 = .ok (.iload_n 3, 1) := by decide +kernel
theorem dd_BF_extentLength_31 : decode bb_BF_extentLength 31 = .ok (.invokevirtual 81, 3) := by decide +kernel
theorem dd_BF_extentLength_34 : decode bb_BF_extentLength 34 = .ok (.ifCond .eq 9, 3) := by decide +kernel
theorem dd_BF_extentLength_37 : decode bb_BF_extentLength 37 = .ok (.iinc 3 1, 3) := by decide +kernel
theorem dd_BF_extentLength_40 : decode bb_BF_extentLength 40 = .ok (.goto (-16), 3) := by decide +kernel
theorem dd_BF_extentLength_43 : decode bb_BF_extentLength 43 = .ok (.iload_n 3, 1) := by decide +kernel
theorem dd_BF_extentLength_44 : decode bb_BF_extentLength 44 = .ok (.iload_n 1, 1) := by decide +kernel
theorem dd_BF_extentLength_45 : decode bb_BF_extentLength 45 = .ok (.isub, 1) := by decide +kernel
theorem dd_BF_extentLength_46 : decode bb_BF_extentLength 46 = .ok (.ireturn, 1) := by decide +kernel
theorem dd_BF_continuesRow_0 : decode bb_BF_continuesRow 0 = .ok (.aload_n 0, 1) := by decide +kernel
theorem dd_BF_continuesRow_1 : decode bb_BF_continuesRow 1 = .ok (.getfield 9, 3) := by decide +kernel
theorem dd_BF_continuesRow_4 : decode bb_BF_continuesRow 4 = .ok (.iload_n 1, 1) := by decide +kernel
theorem dd_BF_continuesRow_5 : decode bb_BF_continuesRow 5 = .ok (.iaload, 1) := by decide +kernel
theorem dd_BF_continuesRow_6 : decode bb_BF_continuesRow 6 = .ok (.aload_n 0, 1) := by decide +kernel
theorem dd_BF_continuesRow_7 : decode bb_BF_continuesRow 7 = .ok (.getfield 9, 3) := by decide +kernel
theorem dd_BF_continuesRow_10 : decode bb_BF_continuesRow 10 = .ok (.iload_n 1, 1) := by decide +kernel
theorem dd_BF_continuesRow_11 : decode bb_BF_continuesRow 11 = .ok (.iconst 1, 1) := by decide +kernel
theorem dd_BF_continuesRow_12 : decode bb_BF_continuesRow 12 = .ok (.isub, 1) := by decide +kernel
theorem dd_BF_continuesRow_13 : decode bb_BF_continuesRow 13 = .ok (.iaload, 1) := by decide +kernel
theorem dd_BF_continuesRow_14 : decode bb_BF_continuesRow 14 = .ok (.iconst 1, 1) := by decide +kernel
theorem dd_BF_continuesRow_15 : decode bb_BF_continuesRow 15 = .ok (.iadd, 1) := by decide +kernel
theorem dd_BF_continuesRow_16 : decode bb_BF_continuesRow 16 = .ok (.if_icmp .ne 24, 3) := by decide +kernel
theorem dd_BF_continuesRow_19 : decode bb_BF_continuesRow 19 = .ok (.aload_n 0, 1) := by decide +kernel
theorem dd_BF_continuesRow_20 : decode bb_BF_continuesRow 20 = .ok (.getfield 15, 3) := by decide +kernel
theorem dd_BF_continuesRow_23 : decode bb_BF_continuesRow 23 = .ok (.iload_n 1, 1) := by decide +kernel
theorem dd_BF_continuesRow_24 : decode bb_BF_continuesRow 24 = .ok (.baload, 1) := by decide +kernel
theorem dd_BF_continuesRow_25 : decode bb_BF_continuesRow 25 = .ok (.aload_n 0, 1) := by decide +kernel
theorem dd_BF_continuesRow_26 : decode bb_BF_continuesRow 26 = .ok (.getfield 15, 3) := by decide +kernel
theorem dd_BF_continuesRow_29 : decode bb_BF_continuesRow 29 = .ok (.iload_n 1, 1) := by decide +kernel
theorem dd_BF_continuesRow_30 : decode bb_BF_continuesRow 30 = .ok (.iconst 1, 1) := by decide +kernel
theorem dd_BF_continuesRow_31 : decode bb_BF_continuesRow 31 = .ok (.isub, 1) := by decide +kernel
theorem dd_BF_continuesRow_32 : decode bb_BF_continuesRow 32 = .ok (.baload, 1) := by decide +kernel
theorem dd_BF_continuesRow_33 : decode bb_BF_continuesRow 33 = .ok (.if_icmp .ne 7, 3) := by decide +kernel
theorem dd_BF_continuesRow_36 : decode bb_BF_continuesRow 36 = .ok (.iconst 1, 1) := by decide +kernel
theorem dd_BF_continuesRow_37 : decode bb_BF_continuesRow 37 = .ok (.goto 4, 3) := by decide +kernel
theorem dd_BF_continuesRow_40 : decode bb_BF_continuesRow 40 = .ok (.iconst 0, 1) := by decide +kernel
theorem dd_BF_continuesRow_41 : decode bb_BF_continuesRow 41 = .ok (.ireturn, 1) := by decide +kernel
theorem dd_BF_mapHoles_0 : decode bb_BF_mapHoles 0 = .ok (.iload_n 1, 1) := by decide +kernel
theorem dd_BF_mapHoles_1 : decode bb_BF_mapHoles 1 = .ok (.istore 4, 2) := by decide +kernel
theorem dd_BF_mapHoles_3 : decode bb_BF_mapHoles 3 = .ok (.iload 4, 2) := by decide +kernel
theorem dd_BF_mapHoles_5 : decode bb_BF_mapHoles 5 = .ok (.iload_n 2, 1) := by decide +kernel
theorem dd_BF_mapHoles_6 : decode bb_BF_mapHoles 6 = .ok (.if_icmp .ge 30, 3) := by decide +kernel
theorem dd_BF_mapHoles_9 : decode bb_BF_mapHoles 9 = .ok (.aload_n 0, 1) := by decide +kernel
theorem dd_BF_mapHoles_10 : decode bb_BF_mapHoles 10 = .ok (.iload 4, 2) := by decide +kernel
theorem dd_BF_mapHoles_12 : decode bb_BF_mapHoles 12 = .ok (.iload_n 2, 1) := by decide +kernel
theorem dd_BF_mapHoles_13 : decode bb_BF_mapHoles 13 = .ok (.iload_n 3, 1) := by decide +kernel
theorem dd_BF_mapHoles_14 : decode bb_BF_mapHoles 14 = .ok (.invokevirtual 84, 3) := by decide +kernel
theorem dd_BF_mapHoles_17 : decode bb_BF_mapHoles 17 = .ok (.istore 5, 2) := by decide +kernel
theorem dd_BF_mapHoles_19 : decode bb_BF_mapHoles 19 = .ok (.aload_n 0, 1) := by decide +kernel
theorem dd_BF_mapHoles_20 : decode bb_BF_mapHoles 20 = .ok (.iload 4, 2) := by decide +kernel
theorem dd_BF_mapHoles_22 : decode bb_BF_mapHoles 22 = .ok (.iload 5, 2) := by decide +kernel
theorem dd_BF_mapHoles_24 : decode bb_BF_mapHoles 24 = .ok (.invokevirtual 88, 3) := by decide +kernel
theorem dd_BF_mapHoles_27 : decode bb_BF_mapHoles 27 = .ok (.iload 5, 2) := by decide +kernel
theorem dd_BF_mapHoles_29 : decode bb_BF_mapHoles 29 = .ok (.iconst 1, 1) := by decide +kernel
theorem dd_BF_mapHoles_30 : decode bb_BF_mapHoles 30 = .ok (.iadd, 1) := by decide +kernel
theorem dd_BF_mapHoles_31 : decode bb_BF_mapHoles 31 = .ok (.istore 4, 2) := by decide +kernel
theorem dd_BF_mapHoles_33 : decode bb_BF_mapHoles 33 = .ok (.goto (-30), 3) := by decide +kernel
theorem dd_BF_mapHoles_36 : decode bb_BF_mapHoles 36 = .ok (.return_, 1) := by decide +kernel
theorem dd_BF_endOfRow_0 : decode bb_BF_endOfRow 0 = .ok (.iload_n 1, 1) := by decide +kernel
theorem dd_BF_endOfRow_1 : decode bb_BF_endOfRow 1 = .ok (.istore 4, 2) := by decide +kernel
theorem dd_BF_endOfRow_3 : decode bb_BF_endOfRow 3 = .ok (.iload 4, 2) := by decide +kernel
theorem dd_BF_endOfRow_5 : decode bb_BF_endOfRow 5 = .ok (.iload_n 2, 1) := by decide +kernel
theorem dd_BF_endOfRow_6 : decode bb_BF_endOfRow 6 = .ok (.if_icmp .ge 32, 3) := by decide +kernel
theorem dd_BF_endOfRow_9 : decode bb_BF_endOfRow 9 = .ok (.aload_n 0, 1) := by decide +kernel
theorem dd_BF_endOfRow_10 : decode bb_BF_endOfRow 10 = .ok (.iload 4, 2) := by decide +kernel
theorem dd_BF_endOfRow_12 : decode bb_BF_endOfRow 12 = .ok (.invokevirtual 55, 3) := by decide +kernel
theorem dd_BF_endOfRow_15 : decode bb_BF_endOfRow 15 = .ok (.ifCond .eq 23, 3) := by decide +kernel
theorem dd_BF_endOfRow_18 : decode bb_BF_endOfRow 18 = .ok (.aload_n 0, 1) := by decide +kernel
theorem dd_BF_endOfRow_19 : decode bb_BF_endOfRow 19 = .ok (.getfield 19, 3) := by decide +kernel
theorem dd_BF_endOfRow_22 : decode bb_BF_endOfRow 22 = .ok (.iload 4, 2) := by decide +kernel
theorem dd_BF_endOfRow_24 : decode bb_BF_endOfRow 24 = .ok (.baload, 1) := by decide +kernel
theorem dd_BF_endOfRow_25 : decode bb_BF_endOfRow 25 = .ok (.ifCond .ne 7, 3) := by decide +kernel
theorem dd_BF_endOfRow_28 : decode bb_BF_endOfRow 28 = .ok (.iload_n 3, 1) := by decide +kernel
theorem dd_BF_endOfRow_29 : decode bb_BF_endOfRow 29 = .ok (.ifCond .ne 9, 3) := by decide +kernel
theorem dd_BF_endOfRow_32 : decode bb_BF_endOfRow 32 = .ok (.iinc 4 1, 3) := by decide +kernel
theorem dd_BF_endOfRow_35 : decode bb_BF_endOfRow 35 = .ok (.goto (-32), 3) := by decide +kernel
theorem dd_BF_endOfRow_38 : decode bb_BF_endOfRow 38 = .ok (.iload 4, 2) := by decide +kernel
theorem dd_BF_endOfRow_40 : decode bb_BF_endOfRow 40 = .ok (.ireturn, 1) := by decide +kernel
theorem dd_BF_mapRow_0 : decode bb_BF_mapRow 0 = .ok (.aload_n 0, 1) := by decide +kernel
theorem dd_BF_mapRow_1 : decode bb_BF_mapRow 1 = .ok (.iload_n 1, 1) := by decide +kernel
theorem dd_BF_mapRow_2 : decode bb_BF_mapRow 2 = .ok (.iconst 1, 1) := by decide +kernel
theorem dd_BF_mapRow_3 : decode bb_BF_mapRow 3 = .ok (.isub, 1) := by decide +kernel
theorem dd_BF_mapRow_4 : decode bb_BF_mapRow 4 = .ok (.invokevirtual 92, 3) := by decide +kernel
theorem dd_BF_mapRow_7 : decode bb_BF_mapRow 7 = .ok (.istore_n 3, 1) := by decide +kernel
theorem dd_BF_mapRow_8 : decode bb_BF_mapRow 8 = .ok (.iload_n 1, 1) := by decide +kernel
theorem dd_BF_mapRow_9 : decode bb_BF_mapRow 9 = .ok (.istore 4, 2) := by decide +kernel
theorem dd_BF_mapRow_11 : decode bb_BF_mapRow 11 = .ok (.iload 4, 2) := by decide +kernel
theorem dd_BF_mapRow_13 : decode bb_BF_mapRow 13 = .ok (.iload_n 2, 1) := by decide +kernel
theorem dd_BF_mapRow_14 : decode bb_BF_mapRow 14 = .ok (.if_icmp .ge 42, 3) := by decide +kernel
theorem dd_BF_mapRow_17 : decode bb_BF_mapRow 17 = .ok (.aload_n 0, 1) := by decide +kernel
theorem dd_BF_mapRow_18 : decode bb_BF_mapRow 18 = .ok (.getfield 32, 3) := by decide +kernel
theorem dd_BF_mapRow_21 : decode bb_BF_mapRow 21 = .ok (.iload_n 3, 1) := by decide +kernel
theorem dd_BF_mapRow_22 : decode bb_BF_mapRow 22 = .ok (.invokevirtual 95, 3) := by decide +kernel
theorem dd_BF_mapRow_25 : decode bb_BF_mapRow 25 = .ok (.ifCond .ne 15, 3) := by decide +kernel
theorem dd_BF_mapRow_28 : decode bb_BF_mapRow 28 = .ok (.aload_n 0, 1) := by decide +kernel
theorem dd_BF_mapRow_29 : decode bb_BF_mapRow 29 = .ok (.getfield 32, 3) := by decide +kernel
theorem dd_BF_mapRow_32 : decode bb_BF_mapRow 32 = .ok (.iload_n 2, 1) := by decide +kernel
theorem dd_BF_mapRow_33 : decode bb_BF_mapRow 33 = .ok (.iload 4, 2) := by decide +kernel
theorem dd_BF_mapRow_35 : decode bb_BF_mapRow 35 = .ok (.isub, 1) := by decide +kernel
theorem dd_BF_mapRow_36 : decode bb_BF_mapRow 36 = .ok (.invokevirtual 98, 3) := by decide +kernel
theorem dd_BF_mapRow_39 : decode bb_BF_mapRow 39 = .ok (.istore_n 3, 1) := by decide +kernel
theorem dd_BF_mapRow_40 : decode bb_BF_mapRow 40 = .ok (.aload_n 0, 1) := by decide +kernel
theorem dd_BF_mapRow_41 : decode bb_BF_mapRow 41 = .ok (.iload 4, 2) := by decide +kernel
theorem dd_BF_mapRow_43 : decode bb_BF_mapRow 43 = .ok (.iload_n 3, 1) := by decide +kernel
theorem dd_BF_mapRow_44 : decode bb_BF_mapRow 44 = .ok (.invokevirtual 101, 3) := by decide +kernel
theorem dd_BF_mapRow_47 : decode bb_BF_mapRow 47 = .ok (.iinc 3 1, 3) := by decide +kernel
theorem dd_BF_mapRow_50 : decode bb_BF_mapRow 50 = .ok (.iinc 4 1, 3) := by decide +kernel
theorem dd_BF_mapRow_53 : decode bb_BF_mapRow 53 = .ok (.goto (-42), 3) := by decide +kernel
theorem dd_BF_mapRow_56 : decode bb_BF_mapRow 56 = .ok (.return_, 1) := by decide +kernel
theorem dd_BF_placeBehind_0 : decode bb_BF_placeBehind 0 = .ok (.iload_n 1, 1) := by decide +kernel
theorem dd_BF_placeBehind_1 : decode bb_BF_placeBehind 1 = .ok (.ifCond .lt 11, 3) := by decide +kernel
theorem dd_BF_placeBehind_4 : decode bb_BF_placeBehind 4 = .ok (.aload_n 0, 1) := by decide +kernel
theorem dd_BF_placeBehind_5 : decode bb_BF_placeBehind 5 = .ok (.iload_n 1, 1) := by decide +kernel
theorem dd_BF_placeBehind_6 : decode bb_BF_placeBehind 6 = .ok (.invokevirtual 55, 3) := by decide +kernel
theorem dd_BF_placeBehind_9 : decode bb_BF_placeBehind 9 = .ok (.ifCond .eq 5, 3) := by decide +kernel
theorem dd_BF_placeBehind_12 : decode bb_BF_placeBehind 12 = .ok (.iconst (-1), 1) := by decide +kernel
theorem dd_BF_placeBehind_13 : decode bb_BF_placeBehind 13 = .ok (.ireturn, 1) := by decide +kernel
theorem dd_BF_placeBehind_14 : decode bb_BF_placeBehind 14 = .ok (.aload_n 0, 1) := by decide +kernel
theorem dd_BF_placeBehind_15 : decode bb_BF_placeBehind 15 = .ok (.getfield 9, 3) := by decide +kernel
theorem dd_BF_placeBehind_18 : decode bb_BF_placeBehind 18 = .ok (.iload_n 1, 1) := by decide +kernel
theorem dd_BF_placeBehind_19 : decode bb_BF_placeBehind 19 = .ok (.iaload, 1) := by decide +kernel
theorem dd_BF_placeBehind_20 : decode bb_BF_placeBehind 20 = .ok (.iconst 1, 1) := by decide +kernel
theorem dd_BF_placeBehind_21 : decode bb_BF_placeBehind 21 = .ok (.iadd, 1) := by decide +kernel
theorem dd_BF_placeBehind_22 : decode bb_BF_placeBehind 22 = .ok (.ireturn, 1) := by decide +kernel
theorem dd_BF_mapTo_0 : decode bb_BF_mapTo 0 = .ok (.aload_n 0, 1) := by decide +kernel
theorem dd_BF_mapTo_1 : decode bb_BF_mapTo 1 = .ok (.getfield 32, 3) := by decide +kernel
theorem dd_BF_mapTo_4 : decode bb_BF_mapTo 4 = .ok (.iload_n 2, 1) := by decide +kernel
theorem dd_BF_mapTo_5 : decode bb_BF_mapTo 5 = .ok (.invokevirtual 95, 3) := by decide +kernel
theorem dd_BF_mapTo_8 : decode bb_BF_mapTo 8 = .ok (.ifCond .eq 24, 3) := by decide +kernel
theorem dd_BF_mapTo_11 : decode bb_BF_mapTo 11 = .ok (.aload_n 0, 1) := by decide +kernel
theorem dd_BF_mapTo_12 : decode bb_BF_mapTo 12 = .ok (.getfield 9, 3) := by decide +kernel
theorem dd_BF_mapTo_15 : decode bb_BF_mapTo 15 = .ok (.iload_n 1, 1) := by decide +kernel
theorem dd_BF_mapTo_16 : decode bb_BF_mapTo 16 = .ok (.iload_n 2, 1) := by decide +kernel
theorem dd_BF_mapTo_17 : decode bb_BF_mapTo 17 = .ok (.iastore, 1) := by decide +kernel
theorem dd_BF_mapTo_18 : decode bb_BF_mapTo 18 = .ok (.aload_n 0, 1) := by decide +kernel
theorem dd_BF_mapTo_19 : decode bb_BF_mapTo 19 = .ok (.getfield 32, 3) := by decide +kernel
theorem dd_BF_mapTo_22 : decode bb_BF_mapTo 22 = .ok (.iload_n 2, 1) := by decide +kernel
theorem dd_BF_mapTo_23 : decode bb_BF_mapTo 23 = .ok (.aload_n 0, 1) := by decide +kernel
theorem dd_BF_mapTo_24 : decode bb_BF_mapTo 24 = .ok (.getfield 36, 3) := by decide +kernel
theorem dd_BF_mapTo_27 : decode bb_BF_mapTo 27 = .ok (.iload_n 1, 1) := by decide +kernel
theorem dd_BF_mapTo_28 : decode bb_BF_mapTo 28 = .ok (.iadd, 1) := by decide +kernel
theorem dd_BF_mapTo_29 : decode bb_BF_mapTo 29 = .ok (.invokevirtual 104, 3) := by decide +kernel
theorem dd_BF_mapTo_32 : decode bb_BF_mapTo 32 = .ok (.return_, 1) := by decide +kernel
theorem dd_BF_unmap_0 : decode bb_BF_unmap 0 = .ok (.aload_n 0, 1) := by decide +kernel
theorem dd_BF_unmap_1 : decode bb_BF_unmap 1 = .ok (.getfield 32, 3) := by decide +kernel
theorem dd_BF_unmap_4 : decode bb_BF_unmap 4 = .ok (.aload_n 0, 1) := by decide +kernel
theorem dd_BF_unmap_5 : decode bb_BF_unmap 5 = .ok (.getfield 9, 3) := by decide +kernel
theorem dd_BF_unmap_8 : decode bb_BF_unmap 8 = .ok (.iload_n 1, 1) := by decide +kernel
theorem dd_BF_unmap_9 : decode bb_BF_unmap 9 = .ok (.iaload, 1) := by decide +kernel
theorem dd_BF_unmap_10 : decode bb_BF_unmap 10 = .ok (.invokevirtual 107, 3) := by decide +kernel
theorem dd_BF_unmap_13 : decode bb_BF_unmap 13 = .ok (.aload_n 0, 1) := by decide +kernel
theorem dd_BF_unmap_14 : decode bb_BF_unmap 14 = .ok (.getfield 9, 3) := by decide +kernel
theorem dd_BF_unmap_17 : decode bb_BF_unmap 17 = .ok (.iload_n 1, 1) := by decide +kernel
theorem dd_BF_unmap_18 : decode bb_BF_unmap 18 = .ok (.iconst (-1), 1) := by decide +kernel
theorem dd_BF_unmap_19 : decode bb_BF_unmap 19 = .ok (.iastore, 1) := by decide +kernel
theorem dd_BF_unmap_20 : decode bb_BF_unmap 20 = .ok (.aload_n 0, 1) := by decide +kernel
theorem dd_BF_unmap_21 : decode bb_BF_unmap 21 = .ok (.getfield 15, 3) := by decide +kernel
theorem dd_BF_unmap_24 : decode bb_BF_unmap 24 = .ok (.iload_n 1, 1) := by decide +kernel
theorem dd_BF_unmap_25 : decode bb_BF_unmap 25 = .ok (.iconst 0, 1) := by decide +kernel
theorem dd_BF_unmap_26 : decode bb_BF_unmap 26 = .ok (.bastore, 1) := by decide +kernel
theorem dd_BF_unmap_27 : decode bb_BF_unmap 27 = .ok (.return_, 1) := by decide +kernel
theorem dd_BF_makeHoles_0 : decode bb_BF_makeHoles 0 = .ok (.iconst 0, 1) := by decide +kernel
theorem dd_BF_makeHoles_1 : decode bb_BF_makeHoles 1 = .ok (.istore_n 3, 1) := by decide +kernel
theorem dd_BF_makeHoles_2 : decode bb_BF_makeHoles 2 = .ok (.iload_n 1, 1) := by decide +kernel
theorem dd_BF_makeHoles_3 : decode bb_BF_makeHoles 3 = .ok (.istore 4, 2) := by decide +kernel
theorem dd_BF_makeHoles_5 : decode bb_BF_makeHoles 5 = .ok (.iload 4, 2) := by decide +kernel
theorem dd_BF_makeHoles_7 : decode bb_BF_makeHoles 7 = .ok (.iload_n 2, 1) := by decide +kernel
theorem dd_BF_makeHoles_8 : decode bb_BF_makeHoles 8 = .ok (.if_icmp .ge 33, 3) := by decide +kernel
theorem dd_BF_makeHoles_11 : decode bb_BF_makeHoles 11 = .ok (.aload_n 0, 1) := by decide +kernel
theorem dd_BF_makeHoles_12 : decode bb_BF_makeHoles 12 = .ok (.iload 4, 2) := by decide +kernel
theorem dd_BF_makeHoles_14 : decode bb_BF_makeHoles 14 = .ok (.invokevirtual 51, 3) := by decide +kernel
theorem dd_BF_makeHoles_17 : decode bb_BF_makeHoles 17 = .ok (.aload_n 0, 1) := by decide +kernel
theorem dd_BF_makeHoles_18 : decode bb_BF_makeHoles 18 = .ok (.iload 4, 2) := by decide +kernel
theorem dd_BF_makeHoles_20 : decode bb_BF_makeHoles 20 = .ok (.invokevirtual 55, 3) := by decide +kernel
theorem dd_BF_makeHoles_23 : decode bb_BF_makeHoles 23 = .ok (.ifCond .ne 12, 3) := by decide +kernel
theorem dd_BF_makeHoles_26 : decode bb_BF_makeHoles 26 = .ok (.aload_n 0, 1) := by decide +kernel
theorem dd_BF_makeHoles_27 : decode bb_BF_makeHoles 27 = .ok (.iload 4, 2) := by decide +kernel
theorem dd_BF_makeHoles_29 : decode bb_BF_makeHoles 29 = .ok (.invokevirtual 110, 3) := by decide +kernel
theorem dd_BF_makeHoles_32 : decode bb_BF_makeHoles 32 = .ok (.iinc 3 1, 3) := by decide +kernel
theorem dd_BF_makeHoles_35 : decode bb_BF_makeHoles 35 = .ok (.iinc 4 1, 3) := by decide +kernel
theorem dd_BF_makeHoles_38 : decode bb_BF_makeHoles 38 = .ok (.goto (-33), 3) := by decide +kernel
theorem dd_BF_makeHoles_41 : decode bb_BF_makeHoles 41 = .ok (.iload_n 3, 1) := by decide +kernel
theorem dd_BF_makeHoles_42 : decode bb_BF_makeHoles 42 = .ok (.ireturn, 1) := by decide +kernel
theorem dd_BF_writePages_0 : decode bb_BF_writePages 0 = .ok (.iconst 0, 1) := by decide +kernel
theorem dd_BF_writePages_1 : decode bb_BF_writePages 1 = .ok (.istore_n 1, 1) := by decide +kernel
theorem dd_BF_writePages_2 : decode bb_BF_writePages 2 = .ok (.iconst 0, 1) := by decide +kernel
theorem dd_BF_writePages_3 : decode bb_BF_writePages 3 = .ok (.istore_n 2, 1) := by decide +kernel
theorem dd_BF_writePages_4 : decode bb_BF_writePages 4 = .ok (.iload_n 2, 1) := by decide +kernel
theorem dd_BF_writePages_5 : decode bb_BF_writePages 5 = .ok (.bipush 60, 2) := by decide +kernel
theorem dd_BF_writePages_7 : decode bb_BF_writePages 7 = .ok (.if_icmp .ge 26, 3) := by decide +kernel
theorem dd_BF_writePages_10 : decode bb_BF_writePages 10 = .ok (.aload_n 0, 1) := by decide +kernel
theorem dd_BF_writePages_11 : decode bb_BF_writePages 11 = .ok (.getfield 19, 3) := by decide +kernel
theorem dd_BF_writePages_14 : decode bb_BF_writePages 14 = .ok (.iload_n 2, 1) := by decide +kernel
theorem dd_BF_writePages_15 : decode bb_BF_writePages 15 = .ok (.baload, 1) := by decide +kernel
theorem dd_BF_writePages_16 : decode bb_BF_writePages 16 = .ok (.ifCond .eq 11, 3) := by decide +kernel
theorem dd_BF_writePages_19 : decode bb_BF_writePages 19 = .ok (.aload_n 0, 1) := by decide +kernel
theorem dd_BF_writePages_20 : decode bb_BF_writePages 20 = .ok (.iload_n 2, 1) := by decide +kernel
theorem dd_BF_writePages_21 : decode bb_BF_writePages 21 = .ok (.invokevirtual 113, 3) := by decide +kernel
theorem dd_BF_writePages_24 : decode bb_BF_writePages 24 = .ok (.iinc 1 1, 3) := by decide +kernel
theorem dd_BF_writePages_27 : decode bb_BF_writePages 27 = .ok (.iinc 2 1, 3) := by decide +kernel
theorem dd_BF_writePages_30 : decode bb_BF_writePages 30 = .ok (.goto (-26), 3) := by decide +kernel
theorem dd_BF_writePages_33 : decode bb_BF_writePages 33 = .ok (.iload_n 1, 1) := by decide +kernel
theorem dd_BF_writePages_34 : decode bb_BF_writePages 34 = .ok (.ireturn, 1) := by decide +kernel
theorem dd_BF_writePage_0 : decode bb_BF_writePage 0 = .ok (.aload_n 0, 1) := by decide +kernel
theorem dd_BF_writePage_1 : decode bb_BF_writePage 1 = .ok (.iload_n 1, 1) := by decide +kernel
theorem dd_BF_writePage_2 : decode bb_BF_writePage 2 = .ok (.invokevirtual 55, 3) := by decide +kernel
theorem dd_BF_writePage_5 : decode bb_BF_writePage 5 = .ok (.ifCond .ne 29, 3) := by decide +kernel
theorem dd_BF_writePage_8 : decode bb_BF_writePage 8 = .ok (.aload_n 0, 1) := by decide +kernel
theorem dd_BF_writePage_9 : decode bb_BF_writePage 9 = .ok (.getfield 32, 3) := by decide +kernel
theorem dd_BF_writePage_12 : decode bb_BF_writePage 12 = .ok (.aload_n 0, 1) := by decide +kernel
theorem dd_BF_writePage_13 : decode bb_BF_writePage 13 = .ok (.getfield 9, 3) := by decide +kernel
theorem dd_BF_writePage_16 : decode bb_BF_writePage 16 = .ok (.iload_n 1, 1) := by decide +kernel
theorem dd_BF_writePage_17 : decode bb_BF_writePage 17 = .ok (.iaload, 1) := by decide +kernel
theorem dd_BF_writePage_18 : decode bb_BF_writePage 18 = .ok (.aload_n 0, 1) := by decide +kernel
theorem dd_BF_writePage_19 : decode bb_BF_writePage 19 = .ok (.getfield 22, 3) := by decide +kernel
theorem dd_BF_writePage_22 : decode bb_BF_writePage 22 = .ok (.iload_n 1, 1) := by decide +kernel
theorem dd_BF_writePage_23 : decode bb_BF_writePage 23 = .ok (.iaload, 1) := by decide +kernel
theorem dd_BF_writePage_24 : decode bb_BF_writePage 24 = .ok (.invokevirtual 116, 3) := by decide +kernel
theorem dd_BF_writePage_27 : decode bb_BF_writePage 27 = .ok (.aload_n 0, 1) := by decide +kernel
theorem dd_BF_writePage_28 : decode bb_BF_writePage 28 = .ok (.getfield 15, 3) := by decide +kernel
theorem dd_BF_writePage_31 : decode bb_BF_writePage 31 = .ok (.iload_n 1, 1) := by decide +kernel
theorem dd_BF_writePage_32 : decode bb_BF_writePage 32 = .ok (.iconst 1, 1) := by decide +kernel
theorem dd_BF_writePage_33 : decode bb_BF_writePage 33 = .ok (.bastore, 1) := by decide +kernel
theorem dd_BF_writePage_34 : decode bb_BF_writePage 34 = .ok (.aload_n 0, 1) := by decide +kernel
theorem dd_BF_writePage_35 : decode bb_BF_writePage 35 = .ok (.iload_n 1, 1) := by decide +kernel
theorem dd_BF_writePage_36 : decode bb_BF_writePage 36 = .ok (.invokevirtual 51, 3) := by decide +kernel
theorem dd_BF_writePage_39 : decode bb_BF_writePage 39 = .ok (.return_, 1) := by decide +kernel
theorem dd_BF_noteHoles_0 : decode bb_BF_noteHoles 0 = .ok (.iconst 0, 1) := by decide +kernel
theorem dd_BF_noteHoles_1 : decode bb_BF_noteHoles 1 = .ok (.istore_n 1, 1) := by decide +kernel
theorem dd_BF_noteHoles_2 : decode bb_BF_noteHoles 2 = .ok (.iload_n 1, 1) := by decide +kernel
theorem dd_BF_noteHoles_3 : decode bb_BF_noteHoles 3 = .ok (.bipush 60, 2) := by decide +kernel
theorem dd_BF_noteHoles_5 : decode bb_BF_noteHoles 5 = .ok (.if_icmp .ge 20, 3) := by decide +kernel
theorem dd_BF_noteHoles_8 : decode bb_BF_noteHoles 8 = .ok (.aload_n 0, 1) := by decide +kernel
theorem dd_BF_noteHoles_9 : decode bb_BF_noteHoles 9 = .ok (.getfield 25, 3) := by decide +kernel
theorem dd_BF_noteHoles_12 : decode bb_BF_noteHoles 12 = .ok (.iload_n 1, 1) := by decide +kernel
theorem dd_BF_noteHoles_13 : decode bb_BF_noteHoles 13 = .ok (.aload_n 0, 1) := by decide +kernel
theorem dd_BF_noteHoles_14 : decode bb_BF_noteHoles 14 = .ok (.iload_n 1, 1) := by decide +kernel
theorem dd_BF_noteHoles_15 : decode bb_BF_noteHoles 15 = .ok (.invokevirtual 55, 3) := by decide +kernel
theorem dd_BF_noteHoles_18 : decode bb_BF_noteHoles 18 = .ok (.bastore, 1) := by decide +kernel
theorem dd_BF_noteHoles_19 : decode bb_BF_noteHoles 19 = .ok (.iinc 1 1, 3) := by decide +kernel
theorem dd_BF_noteHoles_22 : decode bb_BF_noteHoles 22 = .ok (.goto (-20), 3) := by decide +kernel
theorem dd_BF_noteHoles_25 : decode bb_BF_noteHoles 25 = .ok (.return_, 1) := by decide +kernel
theorem dd_BF_restoreHoles_0 : decode bb_BF_restoreHoles 0 = .ok (.iconst 0, 1) := by decide +kernel
theorem dd_BF_restoreHoles_1 : decode bb_BF_restoreHoles 1 = .ok (.istore_n 1, 1) := by decide +kernel
theorem dd_BF_restoreHoles_2 : decode bb_BF_restoreHoles 2 = .ok (.iload_n 1, 1) := by decide +kernel
theorem dd_BF_restoreHoles_3 : decode bb_BF_restoreHoles 3 = .ok (.bipush 60, 2) := by decide +kernel
theorem dd_BF_restoreHoles_5 : decode bb_BF_restoreHoles 5 = .ok (.if_icmp .ge 31, 3) := by decide +kernel
theorem dd_BF_restoreHoles_8 : decode bb_BF_restoreHoles 8 = .ok (.aload_n 0, 1) := by decide +kernel
theorem dd_BF_restoreHoles_9 : decode bb_BF_restoreHoles 9 = .ok (.getfield 25, 3) := by decide +kernel
theorem dd_BF_restoreHoles_12 : decode bb_BF_restoreHoles 12 = .ok (.iload_n 1, 1) := by decide +kernel
theorem dd_BF_restoreHoles_13 : decode bb_BF_restoreHoles 13 = .ok (.baload, 1) := by decide +kernel
theorem dd_BF_restoreHoles_14 : decode bb_BF_restoreHoles 14 = .ok (.ifCond .eq 16, 3) := by decide +kernel
theorem dd_BF_restoreHoles_17 : decode bb_BF_restoreHoles 17 = .ok (.aload_n 0, 1) := by decide +kernel
theorem dd_BF_restoreHoles_18 : decode bb_BF_restoreHoles 18 = .ok (.iload_n 1, 1) := by decide +kernel
theorem dd_BF_restoreHoles_19 : decode bb_BF_restoreHoles 19 = .ok (.invokevirtual 55, 3) := by decide +kernel
theorem dd_BF_restoreHoles_22 : decode bb_BF_restoreHoles 22 = .ok (.ifCond .ne 8, 3) := by decide +kernel
theorem dd_BF_restoreHoles_25 : decode bb_BF_restoreHoles 25 = .ok (.aload_n 0, 1) := by decide +kernel
theorem dd_BF_restoreHoles_26 : decode bb_BF_restoreHoles 26 = .ok (.iload_n 1, 1) := by decide +kernel
theorem dd_BF_restoreHoles_27 : decode bb_BF_restoreHoles 27 = .ok (.invokevirtual 110, 3) := by decide +kernel
theorem dd_BF_restoreHoles_30 : decode bb_BF_restoreHoles 30 = .ok (.iinc 1 1, 3) := by decide +kernel
theorem dd_BF_restoreHoles_33 : decode bb_BF_restoreHoles 33 = .ok (.goto (-31), 3) := by decide +kernel
theorem dd_BF_restoreHoles_36 : decode bb_BF_restoreHoles 36 = .ok (.return_, 1) := by decide +kernel
theorem dd_VO_init_0 : decode bb_VO_init 0 = .ok (.aload_n 0, 1) := by decide +kernel
theorem dd_VO_init_1 : decode bb_VO_init 1 = .ok (.invokespecial 3, 3) := by decide +kernel
theorem dd_VO_init_4 : decode bb_VO_init 4 = .ok (.aload_n 0, 1) := by decide +kernel
theorem dd_VO_init_5 : decode bb_VO_init 5 = .ok (.bipush 80, 2) := by decide +kernel
theorem dd_VO_init_7 : decode bb_VO_init 7 = .ok (.newarray .int, 2) := by decide +kernel
theorem dd_VO_init_9 : decode bb_VO_init 9 = .ok (.putfield 9, 3) := by decide +kernel
theorem dd_VO_init_12 : decode bb_VO_init 12 = .ok (.aload_n 0, 1) := by decide +kernel
theorem dd_VO_init_13 : decode bb_VO_init 13 = .ok (.bipush 80, 2) := by decide +kernel
theorem dd_VO_init_15 : decode bb_VO_init 15 = .ok (.newarray .int, 2) := by decide +kernel
theorem dd_VO_init_17 : decode bb_VO_init 17 = .ok (.putfield 15, 3) := by decide +kernel
theorem dd_VO_init_20 : decode bb_VO_init 20 = .ok (.aload_n 0, 1) := by decide +kernel
theorem dd_VO_init_21 : decode bb_VO_init 21 = .ok (.getfield 9, 3) := by decide +kernel
theorem dd_VO_init_24 : decode bb_VO_init 24 = .ok (.iconst (-1), 1) := by decide +kernel
theorem dd_VO_init_25 : decode bb_VO_init 25 = .ok (.invokestatic 18, 3) := by decide +kernel
theorem dd_VO_init_28 : decode bb_VO_init 28 = .ok (.return_, 1) := by decide +kernel
theorem dd_VO_ownerOf_0 : decode bb_VO_ownerOf 0 = .ok (.aload_n 0, 1) := by decide +kernel
theorem dd_VO_ownerOf_1 : decode bb_VO_ownerOf 1 = .ok (.getfield 9, 3) := by decide +kernel
theorem dd_VO_ownerOf_4 : decode bb_VO_ownerOf 4 = .ok (.iload_n 1, 1) := by decide +kernel
theorem dd_VO_ownerOf_5 : decode bb_VO_ownerOf 5 = .ok (.iaload, 1) := by decide +kernel
theorem dd_VO_ownerOf_6 : decode bb_VO_ownerOf 6 = .ok (.ireturn, 1) := by decide +kernel
theorem dd_VO_valueAt_0 : decode bb_VO_valueAt 0 = .ok (.aload_n 0, 1) := by decide +kernel
theorem dd_VO_valueAt_1 : decode bb_VO_valueAt 1 = .ok (.getfield 15, 3) := by decide +kernel
theorem dd_VO_valueAt_4 : decode bb_VO_valueAt 4 = .ok (.iload_n 1, 1) := by decide +kernel
theorem dd_VO_valueAt_5 : decode bb_VO_valueAt 5 = .ok (.iaload, 1) := by decide +kernel
theorem dd_VO_valueAt_6 : decode bb_VO_valueAt 6 = .ok (.ireturn, 1) := by decide +kernel
theorem dd_VO_setValue_0 : decode bb_VO_setValue 0 = .ok (.aload_n 0, 1) := by decide +kernel
theorem dd_VO_setValue_1 : decode bb_VO_setValue 1 = .ok (.getfield 15, 3) := by decide +kernel
theorem dd_VO_setValue_4 : decode bb_VO_setValue 4 = .ok (.iload_n 1, 1) := by decide +kernel
theorem dd_VO_setValue_5 : decode bb_VO_setValue 5 = .ok (.iload_n 2, 1) := by decide +kernel
theorem dd_VO_setValue_6 : decode bb_VO_setValue 6 = .ok (.iastore, 1) := by decide +kernel
theorem dd_VO_setValue_7 : decode bb_VO_setValue 7 = .ok (.return_, 1) := by decide +kernel
theorem dd_VO_take_0 : decode bb_VO_take 0 = .ok (.aload_n 0, 1) := by decide +kernel
theorem dd_VO_take_1 : decode bb_VO_take 1 = .ok (.getfield 9, 3) := by decide +kernel
theorem dd_VO_take_4 : decode bb_VO_take 4 = .ok (.iload_n 1, 1) := by decide +kernel
theorem dd_VO_take_5 : decode bb_VO_take 5 = .ok (.iload_n 2, 1) := by decide +kernel
theorem dd_VO_take_6 : decode bb_VO_take 6 = .ok (.iastore, 1) := by decide +kernel
theorem dd_VO_take_7 : decode bb_VO_take 7 = .ok (.return_, 1) := by decide +kernel
theorem dd_VO_release_0 : decode bb_VO_release 0 = .ok (.aload_n 0, 1) := by decide +kernel
theorem dd_VO_release_1 : decode bb_VO_release 1 = .ok (.getfield 9, 3) := by decide +kernel
theorem dd_VO_release_4 : decode bb_VO_release 4 = .ok (.iload_n 1, 1) := by decide +kernel
theorem dd_VO_release_5 : decode bb_VO_release 5 = .ok (.iconst (-1), 1) := by decide +kernel
theorem dd_VO_release_6 : decode bb_VO_release 6 = .ok (.iastore, 1) := by decide +kernel
theorem dd_VO_release_7 : decode bb_VO_release 7 = .ok (.return_, 1) := by decide +kernel
theorem dd_VO_isUntaken_0 : decode bb_VO_isUntaken 0 = .ok (.iload_n 1, 1) := by decide +kernel
theorem dd_VO_isUntaken_1 : decode bb_VO_isUntaken 1 = .ok (.ifCond .lt 23, 3) := by decide +kernel
theorem dd_VO_isUntaken_4 : decode bb_VO_isUntaken 4 = .ok (.iload_n 1, 1) := by decide +kernel
theorem dd_VO_isUntaken_5 : decode bb_VO_isUntaken 5 = .ok (.bipush 80, 2) := by decide +kernel
theorem dd_VO_isUntaken_7 : decode bb_VO_isUntaken 7 = .ok (.if_icmp .ge 17, 3) := by decide +kernel
theorem dd_VO_isUntaken_10 : decode bb_VO_isUntaken 10 = .ok (.aload_n 0, 1) := by decide +kernel
theorem dd_VO_isUntaken_11 : decode bb_VO_isUntaken 11 = .ok (.getfield 9, 3) := by decide +kernel
theorem dd_VO_isUntaken_14 : decode bb_VO_isUntaken 14 = .ok (.iload_n 1, 1) := by decide +kernel
theorem dd_VO_isUntaken_15 : decode bb_VO_isUntaken 15 = .ok (.iaload, 1) := by decide +kernel
theorem dd_VO_isUntaken_16 : decode bb_VO_isUntaken 16 = .ok (.iconst (-1), 1) := by decide +kernel
theorem dd_VO_isUntaken_17 : decode bb_VO_isUntaken 17 = .ok (.if_icmp .ne 7, 3) := by decide +kernel
theorem dd_VO_isUntaken_20 : decode bb_VO_isUntaken 20 = .ok (.iconst 1, 1) := by decide +kernel
theorem dd_VO_isUntaken_21 : decode bb_VO_isUntaken 21 = .ok (.goto 4, 3) := by decide +kernel
theorem dd_VO_isUntaken_24 : decode bb_VO_isUntaken 24 = .ok (.iconst 0, 1) := by decide +kernel
theorem dd_VO_isUntaken_25 : decode bb_VO_isUntaken 25 = .ok (.ireturn, 1) := by decide +kernel
theorem dd_VO_countUntaken_0 : decode bb_VO_countUntaken 0 = .ok (.iconst 0, 1) := by decide +kernel
theorem dd_VO_countUntaken_1 : decode bb_VO_countUntaken 1 = .ok (.istore_n 1, 1) := by decide +kernel
theorem dd_VO_countUntaken_2 : decode bb_VO_countUntaken 2 = .ok (.iconst 0, 1) := by decide +kernel
theorem dd_VO_countUntaken_3 : decode bb_VO_countUntaken 3 = .ok (.istore_n 2, 1) := by decide +kernel
theorem dd_VO_countUntaken_4 : decode bb_VO_countUntaken 4 = .ok (.iload_n 2, 1) := by decide +kernel
theorem dd_VO_countUntaken_5 : decode bb_VO_countUntaken 5 = .ok (.bipush 80, 2) := by decide +kernel
theorem dd_VO_countUntaken_7 : decode bb_VO_countUntaken 7 = .ok (.if_icmp .ge 22, 3) := by decide +kernel
theorem dd_VO_countUntaken_10 : decode bb_VO_countUntaken 10 = .ok (.aload_n 0, 1) := by decide +kernel
theorem dd_VO_countUntaken_11 : decode bb_VO_countUntaken 11 = .ok (.getfield 9, 3) := by decide +kernel
theorem dd_VO_countUntaken_14 : decode bb_VO_countUntaken 14 = .ok (.iload_n 2, 1) := by decide +kernel
theorem dd_VO_countUntaken_15 : decode bb_VO_countUntaken 15 = .ok (.iaload, 1) := by decide +kernel
theorem dd_VO_countUntaken_16 : decode bb_VO_countUntaken 16 = .ok (.iconst (-1), 1) := by decide +kernel
theorem dd_VO_countUntaken_17 : decode bb_VO_countUntaken 17 = .ok (.if_icmp .ne 6, 3) := by decide +kernel
theorem dd_VO_countUntaken_20 : decode bb_VO_countUntaken 20 = .ok (.iinc 1 1, 3) := by decide +kernel
theorem dd_VO_countUntaken_23 : decode bb_VO_countUntaken 23 = .ok (.iinc 2 1, 3) := by decide +kernel
theorem dd_VO_countUntaken_26 : decode bb_VO_countUntaken 26 = .ok (.goto (-22), 3) := by decide +kernel
theorem dd_VO_countUntaken_29 : decode bb_VO_countUntaken 29 = .ok (.iload_n 1, 1) := by decide +kernel
theorem dd_VO_countUntaken_30 : decode bb_VO_countUntaken 30 = .ok (.ireturn, 1) := by decide +kernel
theorem dd_VO_bestRow_0 : decode bb_VO_bestRow 0 = .ok (.iconst (-1), 1) := by decide +kernel
theorem dd_VO_bestRow_1 : decode bb_VO_bestRow 1 = .ok (.istore_n 2, 1) := by decide +kernel
theorem dd_VO_bestRow_2 : decode bb_VO_bestRow 2 = .ok (.iconst 0, 1) := by decide +kernel
theorem dd_VO_bestRow_3 : decode bb_VO_bestRow 3 = .ok (.istore_n 3, 1) := by decide +kernel
theorem dd_VO_bestRow_4 : decode bb_VO_bestRow 4 = .ok (.iconst 0, 1) := by decide +kernel
theorem dd_VO_bestRow_5 : decode bb_VO_bestRow 5 = .ok (.istore 4, 2) := by decide +kernel
theorem dd_VO_bestRow_7 : decode bb_VO_bestRow 7 = .ok (.iload 4, 2) := by decide +kernel
theorem dd_VO_bestRow_9 : decode bb_VO_bestRow 9 = .ok (.bipush 80, 2) := by decide +kernel
theorem dd_VO_bestRow_11 : decode bb_VO_bestRow 11 = .ok (.if_icmp .ge 39, 3) := by decide +kernel
theorem dd_VO_bestRow_14 : decode bb_VO_bestRow 14 = .ok (.aload_n 0, 1) := by decide +kernel
theorem dd_VO_bestRow_15 : decode bb_VO_bestRow 15 = .ok (.iload 4, 2) := by decide +kernel
theorem dd_VO_bestRow_17 : decode bb_VO_bestRow 17 = .ok (.invokevirtual 24, 3) := by decide +kernel
theorem dd_VO_bestRow_20 : decode bb_VO_bestRow 20 = .ok (.istore 5, 2) := by decide +kernel
theorem dd_VO_bestRow_22 : decode bb_VO_bestRow 22 = .ok (.iload 5, 2) := by decide +kernel
theorem dd_VO_bestRow_24 : decode bb_VO_bestRow 24 = .ok (.iload_n 3, 1) := by decide +kernel
theorem dd_VO_bestRow_25 : decode bb_VO_bestRow 25 = .ok (.iload_n 1, 1) := by decide +kernel
theorem dd_VO_bestRow_26 : decode bb_VO_bestRow 26 = .ok (.invokestatic 28, 3) := by decide +kernel
theorem dd_VO_bestRow_29 : decode bb_VO_bestRow 29 = .ok (.ifCond .eq 9, 3) := by decide +kernel
theorem dd_VO_bestRow_32 : decode bb_VO_bestRow 32 = .ok (.iload 4, 2) := by decide +kernel
theorem dd_VO_bestRow_34 : decode bb_VO_bestRow 34 = .ok (.istore_n 2, 1) := by decide +kernel
theorem dd_VO_bestRow_35 : decode bb_VO_bestRow 35 = .ok (.iload 5, 2) := by decide +kernel
theorem dd_VO_bestRow_37 : decode bb_VO_bestRow 37 = .ok (.istore_n 3, 1) := by decide +kernel
theorem dd_VO_bestRow_38 : decode bb_VO_bestRow 38 = .ok (.iload 4, 2) := by decide +kernel
theorem dd_VO_bestRow_40 : decode bb_VO_bestRow 40 = .ok (.iload 5, 2) := by decide +kernel
theorem dd_VO_bestRow_42 : decode bb_VO_bestRow 42 = .ok (.iconst 1, 1) := by decide +kernel
theorem dd_VO_bestRow_43 : decode bb_VO_bestRow 43 = .ok (.iadd, 1) := by decide +kernel
theorem dd_VO_bestRow_44 : decode bb_VO_bestRow 44 = .ok (.iadd, 1) := by decide +kernel
theorem dd_VO_bestRow_45 : decode bb_VO_bestRow 45 = .ok (.istore 4, 2) := by decide +kernel
theorem dd_VO_bestRow_47 : decode bb_VO_bestRow 47 = .ok (.goto (-40), 3) := by decide +kernel
theorem dd_VO_bestRow_50 : decode bb_VO_bestRow 50 = .ok (.iload_n 2, 1) := by decide +kernel
theorem dd_VO_bestRow_51 : decode bb_VO_bestRow 51 = .ok (.ireturn, 1) := by decide +kernel
theorem dd_VO_untakenFrom_0 : decode bb_VO_untakenFrom 0 = .ok (.iload_n 1, 1) := by decide +kernel
theorem dd_VO_untakenFrom_1 : decode bb_VO_untakenFrom 1 = .ok (.istore_n 2, 1) := by decide +kernel
theorem dd_VO_untakenFrom_2 : decode bb_VO_untakenFrom 2 = .ok (.iload_n 2, 1) := by decide +kernel
theorem dd_VO_untakenFrom_3 : decode bb_VO_untakenFrom 3 = .ok (.bipush 80, 2) := by decide +kernel
theorem dd_VO_untakenFrom_5 : decode bb_VO_untakenFrom 5 = .ok (.if_icmp .ge 19, 3) := by decide +kernel
theorem dd_VO_untakenFrom_8 : decode bb_VO_untakenFrom 8 = .ok (.aload_n 0, 1) := by decide +kernel
theorem dd_VO_untakenFrom_9 : decode bb_VO_untakenFrom 9 = .ok (.getfield 9, 3) := by decide +kernel
theorem dd_VO_untakenFrom_12 : decode bb_VO_untakenFrom 12 = .ok (.iload_n 2, 1) := by decide +kernel
theorem dd_VO_untakenFrom_13 : decode bb_VO_untakenFrom 13 = .ok (.iaload, 1) := by decide +kernel
theorem dd_VO_untakenFrom_14 : decode bb_VO_untakenFrom 14 = .ok (.iconst (-1), 1) := by decide +kernel
theorem dd_VO_untakenFrom_15 : decode bb_VO_untakenFrom 15 = .ok (.if_icmp .ne 9, 3) := by decide +kernel
theorem dd_VO_untakenFrom_18 : decode bb_VO_untakenFrom 18 = .ok (.iinc 2 1, 3) := by decide +kernel
theorem dd_VO_untakenFrom_21 : decode bb_VO_untakenFrom 21 = .ok (.goto (-19), 3) := by decide +kernel
theorem dd_VO_untakenFrom_24 : decode bb_VO_untakenFrom 24 = .ok (.iload_n 2, 1) := by decide +kernel
theorem dd_VO_untakenFrom_25 : decode bb_VO_untakenFrom 25 = .ok (.iload_n 1, 1) := by decide +kernel
theorem dd_VO_untakenFrom_26 : decode bb_VO_untakenFrom 26 = .ok (.isub, 1) := by decide +kernel
theorem dd_VO_untakenFrom_27 : decode bb_VO_untakenFrom 27 = .ok (.ireturn, 1) := by decide +kernel
theorem dd_VO_suitsBetter_0 : decode bb_VO_suitsBetter 0 = .ok (.iload_n 1, 1) := by decide +kernel
theorem dd_VO_suitsBetter_1 : decode bb_VO_suitsBetter 1 = .ok (.iload_n 2, 1) := by decide +kernel
theorem dd_VO_suitsBetter_2 : decode bb_VO_suitsBetter 2 = .ok (.if_icmp .ge 14, 3) := by decide +kernel
theorem dd_VO_suitsBetter_5 : decode bb_VO_suitsBetter 5 = .ok (.iload_n 0, 1) := by decide +kernel
theorem dd_VO_suitsBetter_6 : decode bb_VO_suitsBetter 6 = .ok (.iload_n 1, 1) := by decide +kernel
theorem dd_VO_suitsBetter_7 : decode bb_VO_suitsBetter 7 = .ok (.if_icmp .le 7, 3) := by decide +kernel
theorem dd_VO_suitsBetter_10 : decode bb_VO_suitsBetter 10 = .ok (.iconst 1, 1) := by decide +kernel
theorem dd_VO_suitsBetter_11 : decode bb_VO_suitsBetter 11 = .ok (.goto 4, 3) := by decide +kernel
theorem dd_VO_suitsBetter_14 : decode bb_VO_suitsBetter 14 = .ok (.iconst 0, 1) := by decide +kernel
theorem dd_VO_suitsBetter_15 : decode bb_VO_suitsBetter 15 = .ok (.ireturn, 1) := by decide +kernel
theorem dd_VO_suitsBetter_16 : decode bb_VO_suitsBetter 16 = .ok (.iload_n 0, 1) := by decide +kernel
theorem dd_VO_suitsBetter_17 : decode bb_VO_suitsBetter 17 = .ok (.iload_n 2, 1) := by decide +kernel
theorem dd_VO_suitsBetter_18 : decode bb_VO_suitsBetter 18 = .ok (.if_icmp .lt 12, 3) := by decide +kernel
theorem dd_VO_suitsBetter_21 : decode bb_VO_suitsBetter 21 = .ok (.iload_n 0, 1) := by decide +kernel
theorem dd_VO_suitsBetter_22 : decode bb_VO_suitsBetter 22 = .ok (.iload_n 1, 1) := by decide +kernel
theorem dd_VO_suitsBetter_23 : decode bb_VO_suitsBetter 23 = .ok (.if_icmp .ge 7, 3) := by decide +kernel
theorem dd_VO_suitsBetter_26 : decode bb_VO_suitsBetter 26 = .ok (.iconst 1, 1) := by decide +kernel
theorem dd_VO_suitsBetter_27 : decode bb_VO_suitsBetter 27 = .ok (.goto 4, 3) := by decide +kernel
theorem dd_VO_suitsBetter_30 : decode bb_VO_suitsBetter 30 = .ok (.iconst 0, 1) := by decide +kernel
theorem dd_VO_suitsBetter_31 : decode bb_VO_suitsBetter 31 = .ok (.ireturn, 1) := by decide +kernel
end
section
def px_b (b : Bool) : Int32 := if b then 1 else 0
theorem px_b_nar (b : Bool) : narrow .boolean (.int (px_b b)) = .int (px_b b) := by cases b <;> rfl
theorem px_b_vn (b : Bool) : vp_nar .boolean (px_b b) = px_b b := by cases b <;> rfl
theorem px_b_0 {b : Bool} : px_b b = 0 ↔ b = false := by cases b <;> decide
def ww_rm (k : Nat) : Room := { frames := k, cells := 0, slots := 0, locals := 40 * k }
/-! The walking judgement with everything that stays fixed in one activation bundled. ww_at: from every state at pc whose locals, stack and world are so, the end Q is reached. -/
abbrev ww_X : Type := Program × Launch × Env × Room × State × MethodId × Array Value × List Frame × Method × Code × (Nat → Prop) × va_G × (Nat → ClassId) × (State → Prop) × Nat
abbrev ww_p (X : ww_X) : Program := X.1
abbrev ww_l (X : ww_X) : Launch := X.2.1
abbrev ww_e (X : ww_X) : Env := X.2.2.1
abbrev ww_R (X : ww_X) : Room := X.2.2.2.1
abbrev ww_s (X : ww_X) : State := X.2.2.2.2.1
abbrev ww_m (X : ww_X) : MethodId := X.2.2.2.2.2.1
abbrev ww_a (X : ww_X) : Array Value := X.2.2.2.2.2.2.1
abbrev ww_b (X : ww_X) : List Frame := X.2.2.2.2.2.2.2.1
abbrev ww_h (X : ww_X) : Method := X.2.2.2.2.2.2.2.2.1
abbrev ww_c (X : ww_X) : Code := X.2.2.2.2.2.2.2.2.2.1
abbrev ww_A (X : ww_X) : Nat → Prop := X.2.2.2.2.2.2.2.2.2.2.1
abbrev ww_D (X : ww_X) : va_G := X.2.2.2.2.2.2.2.2.2.2.2.1
abbrev ww_g (X : ww_X) : Nat → ClassId := X.2.2.2.2.2.2.2.2.2.2.2.2.1
abbrev ww_Q (X : ww_X) : State → Prop := X.2.2.2.2.2.2.2.2.2.2.2.2.2.1
abbrev ww_n (X : ww_X) : Nat := X.2.2.2.2.2.2.2.2.2.2.2.2.2.2
abbrev ww_W (X : ww_X) (H : Heap) (locs : List Loc) (cs ss : Nat) (g : JFrame) : Prop := W (ww_p X) (ww_l X) (ww_e X) (ww_R X) (ww_s X) (ww_m X) (ww_a X) (ww_b X) (ww_h X) (ww_c X) H locs cs ss (ww_Q X) g
def ww_at (X : ww_X) (cs ss pc : Nat) (L : List (Nat × Value)) (st : List Value) (ws : va_W) : Prop :=
  ∀ (H : Heap) (ls : Array Slot) (locs : List Loc), lv_has ls (ww_n X) L → va_P (ww_D X) cx_cl ws H → va_D (ww_A X) ws → va_S (ww_A X) (ww_s X).heap H locs → ww_W X H locs cs ss (F0 (ww_m X) pc ls st)
def ww_nwk : Cond → Bool
  | .methodLinkNest .. => true
  | .declares _ => true
  | .castable .. => true
  | _ => false
theorem cx_nw_ok : cx_nw.all ww_nwk = true := by decide +kernel
theorem ww_nw_warm {w : Cond} (hk : ww_nwk w = true) {s U : State} (hW : s.WarmedH U.vm) (h : va_Nw w s) : va_Nw w U := by
  cases w <;> first | (simp [ww_nwk] at hk; done) | exact va_Nw.warmM hW h | exact va_Nw.warmD hW h | exact va_Nw.warmC hW h
theorem ww_nw_same {w : Cond} (hk : ww_nwk w = true) {s U : State} (hv : s.vm = U.vm) (h : va_Nw w s) : va_Nw w U := by
  cases w <;> first | (simp [ww_nwk] at hk; done) | exact va_Nw.same rfl hv h
def ww_swk : Cond → Bool
  | .laysStatic .. => true
  | .isRef (.static ..) => true
  | _ => false
theorem cx_sw_ok : cx_sw.all ww_swk = true := by decide +kernel
theorem ww_sw_heap {w : Cond} (hk : ww_swk w = true) {u U : State} (hv : u.vm = U.vm) (hh : ∀ (a : Nat) (cell : Cell), u.heap[a]? = some cell → cell.vm.isStatics = true → U.heap[a]? = some cell) (h : w.before #[] u = true) : w.before #[] U = true := by
  have hf : ∀ o n d, u.fieldFound? o n d = U.fieldFound? o n d := fun o n d => by unfold State.fieldFound?; rw [hv]
  cases w with
  | laysStatic o n d =>
    obtain ⟨c, k, i, f, a, cell, h1, h2, h3, h4, h5, h6, h7, h8, h9⟩ := Cond.laysStatic_spec h
    have h10 := hh a cell h5 h6
    rw [hf] at h2
    rw [hv] at h1
    simp [Cond.before, Cond.holds, Cond.value, h1, h2, h3, h4, h10, h6, h7, h8, h9]
  | isRef t =>
    cases t with
    | static o n d =>
      simp only [Cond.before, Cond.holds, Cond.value] at h ⊢
      cases hx : u.fieldFound? o n d with
      | none => simp [Term.eval, State.fieldNamed?, hx] at h
      | some x =>
        obtain ⟨c, k, i, f⟩ := x
        have hx2 := hx
        rw [hf] at hx2
        cases hst : f.isStatic with
        | false => simp [Term.eval, State.fieldNamed?, hx, hst] at h
        | true =>
          cases ha : k.statics with
          | none => simp [Term.eval, State.fieldNamed?, hx, hst, ha] at h
          | some a =>
            cases hc : u.heap[a]? with
            | none => simp [Term.eval, State.fieldNamed?, hx, hst, ha, hc] at h
            | some cell =>
              cases hi : cell.vm.isStatics with
              | false => simp [Term.eval, State.fieldNamed?, hx, hst, ha, hc, hi] at h
              | true =>
                have h10 := hh a cell hc hi
                simp [Term.eval, State.fieldNamed?, hx, hst, ha, hc, hi] at h
                simpa [Term.eval, State.fieldNamed?, hx2, hst, ha, h10, hi] using h
    | _ => simp [ww_swk] at hk
  | _ => simp [ww_swk] at hk
theorem ww_sw_go {w : Cond} (hk : ww_swk w = true) {s U : State} (hv : s.vm.Alike U.vm) (hh : ∀ (a : Nat) (cell : Cell), s.heap[a]? = some cell → cell.vm.isStatics = true → U.heap[a]? = some cell) (h : w.before #[] s = true) : w.before #[] U = true := by
  have hs : w.steady = true := by
    cases w with
    | laysStatic o n d => rfl
    | isRef t =>
      cases t with
      | static o n d => rfl
      | _ => simp [ww_swk] at hk
    | _ => simp [ww_swk] at hk
  refine ww_sw_heap (u := s.setVm U.vm) hk rfl hh ?_
  have := Cond.value_setVm₂ (args := #[]) (o := none) hv hv w [] hs
  unfold Cond.before Cond.holds at h ⊢
  rw [this]
  exact h
/-- what every world's tables say -/
def ww_K (D : va_G) (g : Nat → ClassId) (U : State) : Prop := va_K D cx_cl (cx_ty g) U ∧ (∀ w ∈ cx_nw, va_Nw w U) ∧ ∀ w ∈ cx_sw, w.before #[] U = true
def ww_ok (X : ww_X) (cc : ByteArray) (own : String) : Prop :=
  (ww_p X).tables.exec = Jvm.exec ∧ (ww_c X).code = cc ∧ (ww_c X).maxLocals = ww_n X ∧ (ww_s X).vm.findClass own = some (ww_m X).cls ∧ (∀ w ∈ lw_good, w.before (ww_a X) (ww_s X) = true) ∧ ww_K (ww_D X) (ww_g X) (ww_s X) ∧ (∀ q, (ww_s X).heap.size ≤ q → ww_A X q) ∧ (ww_h X).locks = false ∧ ∀ (a : Nat) (cell : Cell), (ww_s X).heap[a]? = some cell → cell.vm.isStatics = true → ¬ ww_A X a
section WWR
variable {X : ww_X} {cc : ByteArray} {own : String} {cs ss pc : Nat} {L L' : List (Nat × Value)} {st : List Value} {ws : va_W}
theorem ww_ok.x (O : ww_ok X cc own) : (ww_p X).tables.exec = Jvm.exec := O.1
theorem ww_ok.b (O : ww_ok X cc own) : (ww_c X).code = cc := O.2.1
theorem ww_ok.n (O : ww_ok X cc own) : (ww_c X).maxLocals = ww_n X := O.2.2.1
theorem ww_ok.o (O : ww_ok X cc own) : (ww_s X).vm.findClass own = some (ww_m X).cls := O.2.2.2.1
theorem ww_ok.t (O : ww_ok X cc own) : ∀ w ∈ lw_good, w.before (ww_a X) (ww_s X) = true := O.2.2.2.2.1
theorem ww_ok.k (O : ww_ok X cc own) : va_K (ww_D X) cx_cl (cx_ty (ww_g X)) (ww_s X) := O.2.2.2.2.2.1.1
theorem ww_ok.a (O : ww_ok X cc own) : ∀ q, (ww_s X).heap.size ≤ q → ww_A X q := O.2.2.2.2.2.2.1
theorem ww_ok.s (O : ww_ok X cc own) : (ww_h X).locks = false := O.2.2.2.2.2.2.2.1
theorem ww_ok.z (O : ww_ok X cc own) : ∀ (a : Nat) (cell : Cell), (ww_s X).heap[a]? = some cell → cell.vm.isStatics = true → ¬ ww_A X a := O.2.2.2.2.2.2.2.2
theorem ww_ok.go (O : ww_ok X cc own) {H : Heap} {locs : List Loc} (hS : va_S (ww_A X) (ww_s X).heap H locs) {U : State} (hU : U.heap = H) (hW : (ww_s X).WarmedH U.vm) : ww_K (ww_D X) (ww_g X) U := by
  obtain ⟨h1, h2, h3⟩ := O.2.2.2.2.2.1
  refine ⟨va_K.moved hW.alike h1, fun w hw => ww_nw_warm (List.all_eq_true.mp cx_nw_ok w hw) hW (h2 w hw), fun w hw => ww_sw_go (List.all_eq_true.mp cx_sw_ok w hw) hW.alike (fun a cell hc hi => ?_) (h3 w hw)⟩
  rw [hU, hS.2.1 a (Array.getElem?_eq_some_iff.mp hc).1 (O.z a cell hc hi)]
  exact hc
theorem ww_eqs {st' : List Value} (h : st = st') (k : ww_at X cs ss pc L st' ws) : ww_at X cs ss pc L st ws := h ▸ k
theorem ww_eql (h : L = L') (k : ww_at X cs ss pc L' st ws) : ww_at X cs ss pc L st ws := h ▸ k
theorem ww_eqw {ws' : va_W} (h : ws = ws') (k : ww_at X cs ss pc L st ws') : ww_at X cs ss pc L st ws := h ▸ k
theorem ww_wid {cs' ss' : Nat} (h1 : cs ≤ cs') (h2 : ss ≤ ss') (k : ww_at X cs' ss' pc L st ws) : ww_at X cs ss pc L st ws :=
  fun H ls locs hl hP hD hS => W.widen h1 h2 (k H ls locs hl hP hD hS)
/-- fewer locals are looked at -/
theorem ww_sub (ks : List Nat) (hL : lv_pick L ks = L') (k : ww_at X cs ss pc L' st ws) : ww_at X cs ss pc L st ws :=
  fun H ls locs hl hP hD hS => k H ls locs (lv_sub hl ks hL) hP hD hS
/-- a local is set: the list keeps its order -/
def ww_up : List (Nat × Value) → Nat → Value → List (Nat × Value)
  | [], i, v => [(i, v)]
  | (j, w) :: t, i, v => if j = i then (i, v) :: t.filter (fun q => !(q.1 == i)) else (j, w) :: ww_up t i v
theorem ww_up_mem : ∀ (L : List (Nat × Value)) (i : Nat) (v : Value) (q : Nat × Value), q ∈ ww_up L i v → q = (i, v) ∨ (q ∈ L ∧ q.1 ≠ i)
  | [], i, v, q, h => by
    simp [ww_up] at h
    exact Or.inl h
  | (j, w) :: t, i, v, q, h => by
    unfold ww_up at h
    by_cases hj : j = i
    · rw [if_pos hj] at h
      rcases List.mem_cons.mp h with h | h
      · exact Or.inl h
      · obtain ⟨h1, h2⟩ := List.mem_filter.mp h
        refine Or.inr ⟨List.mem_cons_of_mem _ h1, fun z => ?_⟩
        simp [z] at h2
    · rw [if_neg hj] at h
      rcases List.mem_cons.mp h with h | h
      · subst h
        exact Or.inr ⟨List.mem_cons_self, hj⟩
      · rcases ww_up_mem t i v q h with h | ⟨h1, h2⟩
        · exact Or.inl h
        · exact Or.inr ⟨List.mem_cons_of_mem _ h1, h2⟩
theorem ww_set {ls : Array Slot} {n i : Nat} {v : Value} (h1 : L.all (fun q => q.2.category == 1) = true) (h : lv_has ls n ((i, v) :: L.filter (fun q => !(q.1 == i) && !(q.1 + 1 == i && q.2.category == 2)))) : lv_has ls n (ww_up L i v) := by
  refine ⟨h.1, h.2.1, fun q hq => h.2.2 q ?_⟩
  rcases ww_up_mem L i v q hq with h2 | ⟨h2, h3⟩
  · rw [h2]; exact List.mem_cons_self
  · refine List.mem_cons_of_mem _ (List.mem_filter.mpr ⟨h2, ?_⟩)
    have h4 := List.all_eq_true.mp h1 q h2
    simp only [beq_iff_eq] at h4
    simp [h3, h4]
theorem ww_iconst (O : ww_ok X cc own) {n : Int} {v : Int32} (d : decode cc pc = .ok (.iconst n, 1)) (hv : Int32.ofInt n = v) (k : ww_at X cs ss (pc + 1) L (.int v :: st) ws) : ww_at X cs ss pc L st ws :=
  fun H ls locs hl hP hD hS => lv_iconst O.x O.b d hv (k H ls locs hl hP hD hS)
theorem ww_bipush (O : ww_ok X cc own) {n : Int} {v : Int32} (d : decode cc pc = .ok (.bipush n, 2)) (hv : (Int8.ofInt n).toInt32 = v) (k : ww_at X cs ss (pc + 2) L (.int v :: st) ws) : ww_at X cs ss pc L st ws :=
  fun H ls locs hl hP hD hS => lv_bipush O.x O.b d hv (k H ls locs hl hP hD hS)
theorem ww_sipush (O : ww_ok X cc own) {n : Int} {v : Int32} (d : decode cc pc = .ok (.sipush n, 3)) (hv : (Int16.ofInt n).toInt32 = v) (k : ww_at X cs ss (pc + 3) L (.int v :: st) ws) : ww_at X cs ss pc L st ws :=
  fun H ls locs hl hP hD hS => lv_sipush O.x O.b d hv (k H ls locs hl hP hD hS)
theorem ww_iload_n (O : ww_ok X cc own) {i : Fin 4} {x : Int32} (d : decode cc pc = .ok (.iload_n i, 1)) (j : Nat) (hj : L[j]? = some ((i : Nat), .int x)) (k : ww_at X cs ss (pc + 1) L (.int x :: st) ws) : ww_at X cs ss pc L st ws :=
  fun H ls locs hl hP hD hS => lv_iload_n O.x O.b d rfl (lv_at hl j hj) (k H ls locs hl hP hD hS)
theorem ww_iload (O : ww_ok X cc own) {i : Nat} {x : Int32} (d : decode cc pc = .ok (.iload i, 2)) (j : Nat) (hj : L[j]? = some (i, .int x)) (k : ww_at X cs ss (pc + 2) L (.int x :: st) ws) : ww_at X cs ss pc L st ws :=
  fun H ls locs hl hP hD hS => lv_iload O.x O.b d (lv_at hl j hj) (k H ls locs hl hP hD hS)
theorem ww_aload_n (O : ww_ok X cc own) {i : Fin 4} {x : Nat} (d : decode cc pc = .ok (.aload_n i, 1)) (j : Nat) (hj : L[j]? = some ((i : Nat), .ref x)) (k : ww_at X cs ss (pc + 1) L (.ref x :: st) ws) : ww_at X cs ss pc L st ws :=
  fun H ls locs hl hP hD hS => lv_aload_n O.x O.b d rfl (lv_at hl j hj) (k H ls locs hl hP hD hS)
theorem ww_aload (O : ww_ok X cc own) {i : Nat} {x : Nat} (d : decode cc pc = .ok (.aload i, 2)) (j : Nat) (hj : L[j]? = some (i, .ref x)) (k : ww_at X cs ss (pc + 2) L (.ref x :: st) ws) : ww_at X cs ss pc L st ws :=
  fun H ls locs hl hP hD hS => lv_aload O.x O.b d (lv_at hl j hj) (k H ls locs hl hP hD hS)
theorem ww_istore_n (O : ww_ok X cc own) {i : Fin 4} {x : Int32} (d : decode cc pc = .ok (.istore_n i, 1)) (hn : (i : Nat) < ww_n X) (h1 : L.all (fun q => q.2.category == 1) = true) (hL : ww_up L (i : Nat) (.int x) = L') (k : ww_at X cs ss (pc + 1) L' st ws) : ww_at X cs ss pc L (.int x :: st) ws :=
  fun H ls locs hl hP hD hS => lv_istore_n O.x O.b d rfl hl hn rfl (fun ls' hl' => k H ls' locs (hL ▸ ww_set h1 hl') hP hD hS)
theorem ww_istore (O : ww_ok X cc own) {i : Nat} {x : Int32} (d : decode cc pc = .ok (.istore i, 2)) (hn : i < ww_n X) (h1 : L.all (fun q => q.2.category == 1) = true) (hL : ww_up L i (.int x) = L') (k : ww_at X cs ss (pc + 2) L' st ws) : ww_at X cs ss pc L (.int x :: st) ws :=
  fun H ls locs hl hP hD hS => lv_istore O.x O.b d hl hn rfl (fun ls' hl' => k H ls' locs (hL ▸ ww_set h1 hl') hP hD hS)
theorem ww_astore_n (O : ww_ok X cc own) {i : Fin 4} {x : Nat} (d : decode cc pc = .ok (.astore_n i, 1)) (hn : (i : Nat) < ww_n X) (h1 : L.all (fun q => q.2.category == 1) = true) (hL : ww_up L (i : Nat) (.ref x) = L') (k : ww_at X cs ss (pc + 1) L' st ws) : ww_at X cs ss pc L (.ref x :: st) ws :=
  fun H ls locs hl hP hD hS => lv_astore_n O.x O.b d rfl hl hn rfl (fun ls' hl' => k H ls' locs (hL ▸ ww_set h1 hl') hP hD hS)
theorem ww_astore (O : ww_ok X cc own) {i : Nat} {x : Nat} (d : decode cc pc = .ok (.astore i, 2)) (hn : i < ww_n X) (h1 : L.all (fun q => q.2.category == 1) = true) (hL : ww_up L i (.ref x) = L') (k : ww_at X cs ss (pc + 2) L' st ws) : ww_at X cs ss pc L (.ref x :: st) ws :=
  fun H ls locs hl hP hD hS => lv_astore O.x O.b d hl hn rfl (fun ls' hl' => k H ls' locs (hL ▸ ww_set h1 hl') hP hD hS)
theorem ww_iinc (O : ww_ok X cc own) {i : Nat} {n : Int} {x v : Int32} (d : decode cc pc = .ok (.iinc i n, 3)) (j : Nat) (hj : L[j]? = some (i, .int x)) (hv : x + Int32.ofInt n = v) (hn : i < ww_n X) (h1 : L.all (fun q => q.2.category == 1) = true) (hL : ww_up L i (.int v) = L') (k : ww_at X cs ss (pc + 3) L' st ws) : ww_at X cs ss pc L st ws :=
  fun H ls locs hl hP hD hS => lv_iinc O.x O.b d hl hj hv hn rfl (fun ls' hl' => k H ls' locs (hL ▸ ww_set h1 hl') hP hD hS)
theorem ww_iadd (O : ww_ok X cc own) {x y v : Int32} (d : decode cc pc = .ok (.iadd, 1)) (hv : x + y = v) (k : ww_at X cs ss (pc + 1) L (.int v :: st) ws) : ww_at X cs ss pc L (.int y :: .int x :: st) ws :=
  fun H ls locs hl hP hD hS => lv_iadd O.x O.b d (by rw [hv]; exact k H ls locs hl hP hD hS)
theorem ww_isub (O : ww_ok X cc own) {x y v : Int32} (d : decode cc pc = .ok (.isub, 1)) (hv : x - y = v) (k : ww_at X cs ss (pc + 1) L (.int v :: st) ws) : ww_at X cs ss pc L (.int y :: .int x :: st) ws :=
  fun H ls locs hl hP hD hS => lv_isub O.x O.b d (by rw [hv]; exact k H ls locs hl hP hD hS)
theorem ww_imul (O : ww_ok X cc own) {x y v : Int32} (d : decode cc pc = .ok (.imul, 1)) (hv : x * y = v) (k : ww_at X cs ss (pc + 1) L (.int v :: st) ws) : ww_at X cs ss pc L (.int y :: .int x :: st) ws :=
  fun H ls locs hl hP hD hS => lv_imul O.x O.b d (by rw [hv]; exact k H ls locs hl hP hD hS)
theorem ww_iand (O : ww_ok X cc own) {x y v : Int32} (d : decode cc pc = .ok (.iand, 1)) (hv : x &&& y = v) (k : ww_at X cs ss (pc + 1) L (.int v :: st) ws) : ww_at X cs ss pc L (.int y :: .int x :: st) ws :=
  fun H ls locs hl hP hD hS => lv_iand O.x O.b d (by rw [hv]; exact k H ls locs hl hP hD hS)
theorem ww_idiv (O : ww_ok X cc own) {x y v : Int32} (d : decode cc pc = .ok (.idiv, 1)) (hne : ¬ y = 0) (hv : x / y = v) (k : ww_at X cs ss (pc + 1) L (.int v :: st) ws) : ww_at X cs ss pc L (.int y :: .int x :: st) ws :=
  fun H ls locs hl hP hD hS => lv_idiv O.x O.b d hne (by rw [hv]; exact k H ls locs hl hP hD hS)
theorem ww_irem (O : ww_ok X cc own) {x y v : Int32} (d : decode cc pc = .ok (.irem, 1)) (hne : ¬ y = 0) (hv : x - x / y * y = v) (k : ww_at X cs ss (pc + 1) L (.int v :: st) ws) : ww_at X cs ss pc L (.int y :: .int x :: st) ws :=
  fun H ls locs hl hP hD hS => lv_irem O.x O.b d hne (by rw [hv]; exact k H ls locs hl hP hD hS)
theorem ww_dup (O : ww_ok X cc own) {v : Value} (d : decode cc pc = .ok (.dup, 1)) (hv : v.category = 1) (k : ww_at X cs ss (pc + 1) L (v :: v :: st) ws) : ww_at X cs ss pc L (v :: st) ws :=
  fun H ls locs hl hP hD hS => lv_dup O.x O.b d hv (k H ls locs hl hP hD hS)
theorem ww_pop (O : ww_ok X cc own) {v : Value} (d : decode cc pc = .ok (.pop, 1)) (hv : v.category = 1) (k : ww_at X cs ss (pc + 1) L st ws) : ww_at X cs ss pc L (v :: st) ws :=
  fun H ls locs hl hP hD hS => lv_pop O.x O.b d hv (k H ls locs hl hP hD hS)
theorem ww_goto (O : ww_ok X cc own) {off : Int} {tgt : Nat} (d : decode cc pc = .ok (.goto off, 3)) (ht : (pc : Int) + off = (tgt : Int)) (k : ww_at X cs ss tgt L st ws) : ww_at X cs ss pc L st ws :=
  fun H ls locs hl hP hD hS => lv_goto O.x O.b d ht (k H ls locs hl hP hD hS)
theorem ww_if_eq (O : ww_ok X cc own) {x : Int32} {off : Int} {tgt : Nat} (d : decode cc pc = .ok (.ifCond .eq off, 3)) (ht : (pc : Int) + off = (tgt : Int)) (kt : x = 0 → ww_at X cs ss tgt L st ws) (kf : ¬ x = 0 → ww_at X cs ss (pc + 3) L st ws) : ww_at X cs ss pc L (.int x :: st) ws :=
  fun H ls locs hl hP hD hS => lv_if_eq O.x O.b d ht (fun h => kt h H ls locs hl hP hD hS) (fun h => kf h H ls locs hl hP hD hS)
theorem ww_icmp_eq (O : ww_ok X cc own) {x y : Int32} {off : Int} {tgt : Nat} (d : decode cc pc = .ok (.if_icmp .eq off, 3)) (ht : (pc : Int) + off = (tgt : Int)) (kt : x = y → ww_at X cs ss tgt L st ws) (kf : ¬ x = y → ww_at X cs ss (pc + 3) L st ws) : ww_at X cs ss pc L (.int y :: .int x :: st) ws :=
  fun H ls locs hl hP hD hS => lv_icmp_eq O.x O.b d ht (fun h => kt h H ls locs hl hP hD hS) (fun h => kf h H ls locs hl hP hD hS)
theorem ww_if_ne (O : ww_ok X cc own) {x : Int32} {off : Int} {tgt : Nat} (d : decode cc pc = .ok (.ifCond .ne off, 3)) (ht : (pc : Int) + off = (tgt : Int)) (kt : ¬ x = 0 → ww_at X cs ss tgt L st ws) (kf : x = 0 → ww_at X cs ss (pc + 3) L st ws) : ww_at X cs ss pc L (.int x :: st) ws :=
  fun H ls locs hl hP hD hS => lv_if_ne O.x O.b d ht (fun h => kt h H ls locs hl hP hD hS) (fun h => kf h H ls locs hl hP hD hS)
theorem ww_icmp_ne (O : ww_ok X cc own) {x y : Int32} {off : Int} {tgt : Nat} (d : decode cc pc = .ok (.if_icmp .ne off, 3)) (ht : (pc : Int) + off = (tgt : Int)) (kt : ¬ x = y → ww_at X cs ss tgt L st ws) (kf : x = y → ww_at X cs ss (pc + 3) L st ws) : ww_at X cs ss pc L (.int y :: .int x :: st) ws :=
  fun H ls locs hl hP hD hS => lv_icmp_ne O.x O.b d ht (fun h => kt h H ls locs hl hP hD hS) (fun h => kf h H ls locs hl hP hD hS)
theorem ww_if_lt (O : ww_ok X cc own) {x : Int32} {off : Int} {tgt : Nat} (d : decode cc pc = .ok (.ifCond .lt off, 3)) (ht : (pc : Int) + off = (tgt : Int)) (kt : x < 0 → ww_at X cs ss tgt L st ws) (kf : ¬ x < 0 → ww_at X cs ss (pc + 3) L st ws) : ww_at X cs ss pc L (.int x :: st) ws :=
  fun H ls locs hl hP hD hS => lv_if_lt O.x O.b d ht (fun h => kt h H ls locs hl hP hD hS) (fun h => kf h H ls locs hl hP hD hS)
theorem ww_icmp_lt (O : ww_ok X cc own) {x y : Int32} {off : Int} {tgt : Nat} (d : decode cc pc = .ok (.if_icmp .lt off, 3)) (ht : (pc : Int) + off = (tgt : Int)) (kt : x < y → ww_at X cs ss tgt L st ws) (kf : ¬ x < y → ww_at X cs ss (pc + 3) L st ws) : ww_at X cs ss pc L (.int y :: .int x :: st) ws :=
  fun H ls locs hl hP hD hS => lv_icmp_lt O.x O.b d ht (fun h => kt h H ls locs hl hP hD hS) (fun h => kf h H ls locs hl hP hD hS)
theorem ww_if_ge (O : ww_ok X cc own) {x : Int32} {off : Int} {tgt : Nat} (d : decode cc pc = .ok (.ifCond .ge off, 3)) (ht : (pc : Int) + off = (tgt : Int)) (kt : 0 ≤ x → ww_at X cs ss tgt L st ws) (kf : ¬ 0 ≤ x → ww_at X cs ss (pc + 3) L st ws) : ww_at X cs ss pc L (.int x :: st) ws :=
  fun H ls locs hl hP hD hS => lv_if_ge O.x O.b d ht (fun h => kt h H ls locs hl hP hD hS) (fun h => kf h H ls locs hl hP hD hS)
theorem ww_icmp_ge (O : ww_ok X cc own) {x y : Int32} {off : Int} {tgt : Nat} (d : decode cc pc = .ok (.if_icmp .ge off, 3)) (ht : (pc : Int) + off = (tgt : Int)) (kt : y ≤ x → ww_at X cs ss tgt L st ws) (kf : ¬ y ≤ x → ww_at X cs ss (pc + 3) L st ws) : ww_at X cs ss pc L (.int y :: .int x :: st) ws :=
  fun H ls locs hl hP hD hS => lv_icmp_ge O.x O.b d ht (fun h => kt h H ls locs hl hP hD hS) (fun h => kf h H ls locs hl hP hD hS)
theorem ww_if_gt (O : ww_ok X cc own) {x : Int32} {off : Int} {tgt : Nat} (d : decode cc pc = .ok (.ifCond .gt off, 3)) (ht : (pc : Int) + off = (tgt : Int)) (kt : 0 < x → ww_at X cs ss tgt L st ws) (kf : ¬ 0 < x → ww_at X cs ss (pc + 3) L st ws) : ww_at X cs ss pc L (.int x :: st) ws :=
  fun H ls locs hl hP hD hS => lv_if_gt O.x O.b d ht (fun h => kt h H ls locs hl hP hD hS) (fun h => kf h H ls locs hl hP hD hS)
theorem ww_icmp_gt (O : ww_ok X cc own) {x y : Int32} {off : Int} {tgt : Nat} (d : decode cc pc = .ok (.if_icmp .gt off, 3)) (ht : (pc : Int) + off = (tgt : Int)) (kt : y < x → ww_at X cs ss tgt L st ws) (kf : ¬ y < x → ww_at X cs ss (pc + 3) L st ws) : ww_at X cs ss pc L (.int y :: .int x :: st) ws :=
  fun H ls locs hl hP hD hS => lv_icmp_gt O.x O.b d ht (fun h => kt h H ls locs hl hP hD hS) (fun h => kf h H ls locs hl hP hD hS)
theorem ww_if_le (O : ww_ok X cc own) {x : Int32} {off : Int} {tgt : Nat} (d : decode cc pc = .ok (.ifCond .le off, 3)) (ht : (pc : Int) + off = (tgt : Int)) (kt : x ≤ 0 → ww_at X cs ss tgt L st ws) (kf : ¬ x ≤ 0 → ww_at X cs ss (pc + 3) L st ws) : ww_at X cs ss pc L (.int x :: st) ws :=
  fun H ls locs hl hP hD hS => lv_if_le O.x O.b d ht (fun h => kt h H ls locs hl hP hD hS) (fun h => kf h H ls locs hl hP hD hS)
theorem ww_icmp_le (O : ww_ok X cc own) {x y : Int32} {off : Int} {tgt : Nat} (d : decode cc pc = .ok (.if_icmp .le off, 3)) (ht : (pc : Int) + off = (tgt : Int)) (kt : x ≤ y → ww_at X cs ss tgt L st ws) (kf : ¬ x ≤ y → ww_at X cs ss (pc + 3) L st ws) : ww_at X cs ss pc L (.int y :: .int x :: st) ws :=
  fun H ls locs hl hP hD hS => lv_icmp_le O.x O.b d ht (fun h => kt h H ls locs hl hP hD hS) (fun h => kf h H ls locs hl hP hD hS)
theorem ww_icmp_eqN (O : ww_ok X cc own) {a b : Nat} {off : Int} {tgt : Nat} (d : decode cc pc = .ok (.if_icmp .eq off, 3)) (ht : (pc : Int) + off = (tgt : Int)) (ha : a < 2 ^ 31) (hb : b < 2 ^ 31) (kt : a = b → ww_at X cs ss tgt L st ws) (kf : a ≠ b → ww_at X cs ss (pc + 3) L st ws) : ww_at X cs ss pc L (.int (nI b) :: .int (nI a) :: st) ws :=
  ww_icmp_eq O d ht (fun h => kt ((nI_eq ha hb).mp h)) (fun h => kf (fun z => h ((nI_eq ha hb).mpr z)))
theorem ww_if_eqN (O : ww_ok X cc own) {a : Nat} {off : Int} {tgt : Nat} (d : decode cc pc = .ok (.ifCond .eq off, 3)) (ht : (pc : Int) + off = (tgt : Int)) (ha : a < 2 ^ 31) (kt : a = 0 → ww_at X cs ss tgt L st ws) (kf : a ≠ 0 → ww_at X cs ss (pc + 3) L st ws) : ww_at X cs ss pc L (.int (nI a) :: st) ws :=
  ww_if_eq O d ht (fun h => kt ((nI_eq ha (show (0 : Nat) < 2 ^ 31 by decide)).mp h)) (fun h => kf (fun z => h ((nI_eq ha (show (0 : Nat) < 2 ^ 31 by decide)).mpr z)))
theorem ww_icmp_neN (O : ww_ok X cc own) {a b : Nat} {off : Int} {tgt : Nat} (d : decode cc pc = .ok (.if_icmp .ne off, 3)) (ht : (pc : Int) + off = (tgt : Int)) (ha : a < 2 ^ 31) (hb : b < 2 ^ 31) (kt : a ≠ b → ww_at X cs ss tgt L st ws) (kf : a = b → ww_at X cs ss (pc + 3) L st ws) : ww_at X cs ss pc L (.int (nI b) :: .int (nI a) :: st) ws :=
  ww_icmp_ne O d ht (fun h => kt (fun z => h ((nI_eq ha hb).mpr z))) (fun h => kf ((nI_eq ha hb).mp h))
theorem ww_if_neN (O : ww_ok X cc own) {a : Nat} {off : Int} {tgt : Nat} (d : decode cc pc = .ok (.ifCond .ne off, 3)) (ht : (pc : Int) + off = (tgt : Int)) (ha : a < 2 ^ 31) (kt : a ≠ 0 → ww_at X cs ss tgt L st ws) (kf : a = 0 → ww_at X cs ss (pc + 3) L st ws) : ww_at X cs ss pc L (.int (nI a) :: st) ws :=
  ww_if_ne O d ht (fun h => kt (fun z => h ((nI_eq ha (show (0 : Nat) < 2 ^ 31 by decide)).mpr z))) (fun h => kf ((nI_eq ha (show (0 : Nat) < 2 ^ 31 by decide)).mp h))
theorem ww_icmp_ltN (O : ww_ok X cc own) {a b : Nat} {off : Int} {tgt : Nat} (d : decode cc pc = .ok (.if_icmp .lt off, 3)) (ht : (pc : Int) + off = (tgt : Int)) (ha : a < 2 ^ 31) (hb : b < 2 ^ 31) (kt : a < b → ww_at X cs ss tgt L st ws) (kf : b ≤ a → ww_at X cs ss (pc + 3) L st ws) : ww_at X cs ss pc L (.int (nI b) :: .int (nI a) :: st) ws :=
  ww_icmp_lt O d ht (fun h => kt ((nI_ltI ha hb).mp h)) (fun h => kf (by have h2 := mt (nI_ltI ha hb).mpr h; omega))
theorem ww_if_ltN (O : ww_ok X cc own) {a : Nat} {off : Int} {tgt : Nat} (d : decode cc pc = .ok (.ifCond .lt off, 3)) (ht : (pc : Int) + off = (tgt : Int)) (ha : a < 2 ^ 31) (kt : a < 0 → ww_at X cs ss tgt L st ws) (kf : 0 ≤ a → ww_at X cs ss (pc + 3) L st ws) : ww_at X cs ss pc L (.int (nI a) :: st) ws :=
  ww_if_lt O d ht (fun h => kt ((nI_ltI ha (show (0 : Nat) < 2 ^ 31 by decide)).mp h)) (fun h => kf (by have h2 := mt (nI_ltI ha (show (0 : Nat) < 2 ^ 31 by decide)).mpr h; omega))
theorem ww_icmp_geN (O : ww_ok X cc own) {a b : Nat} {off : Int} {tgt : Nat} (d : decode cc pc = .ok (.if_icmp .ge off, 3)) (ht : (pc : Int) + off = (tgt : Int)) (ha : a < 2 ^ 31) (hb : b < 2 ^ 31) (kt : b ≤ a → ww_at X cs ss tgt L st ws) (kf : a < b → ww_at X cs ss (pc + 3) L st ws) : ww_at X cs ss pc L (.int (nI b) :: .int (nI a) :: st) ws :=
  ww_icmp_ge O d ht (fun h => kt ((nI_leI hb ha).mp h)) (fun h => kf (by have h2 := mt (nI_leI hb ha).mpr h; omega))
theorem ww_if_geN (O : ww_ok X cc own) {a : Nat} {off : Int} {tgt : Nat} (d : decode cc pc = .ok (.ifCond .ge off, 3)) (ht : (pc : Int) + off = (tgt : Int)) (ha : a < 2 ^ 31) (kt : 0 ≤ a → ww_at X cs ss tgt L st ws) (kf : a < 0 → ww_at X cs ss (pc + 3) L st ws) : ww_at X cs ss pc L (.int (nI a) :: st) ws :=
  ww_if_ge O d ht (fun h => kt ((nI_leI (show (0 : Nat) < 2 ^ 31 by decide) ha).mp h)) (fun h => kf (by have h2 := mt (nI_leI (show (0 : Nat) < 2 ^ 31 by decide) ha).mpr h; omega))
theorem ww_icmp_gtN (O : ww_ok X cc own) {a b : Nat} {off : Int} {tgt : Nat} (d : decode cc pc = .ok (.if_icmp .gt off, 3)) (ht : (pc : Int) + off = (tgt : Int)) (ha : a < 2 ^ 31) (hb : b < 2 ^ 31) (kt : b < a → ww_at X cs ss tgt L st ws) (kf : a ≤ b → ww_at X cs ss (pc + 3) L st ws) : ww_at X cs ss pc L (.int (nI b) :: .int (nI a) :: st) ws :=
  ww_icmp_gt O d ht (fun h => kt ((nI_ltI hb ha).mp h)) (fun h => kf (by have h2 := mt (nI_ltI hb ha).mpr h; omega))
theorem ww_if_gtN (O : ww_ok X cc own) {a : Nat} {off : Int} {tgt : Nat} (d : decode cc pc = .ok (.ifCond .gt off, 3)) (ht : (pc : Int) + off = (tgt : Int)) (ha : a < 2 ^ 31) (kt : 0 < a → ww_at X cs ss tgt L st ws) (kf : a ≤ 0 → ww_at X cs ss (pc + 3) L st ws) : ww_at X cs ss pc L (.int (nI a) :: st) ws :=
  ww_if_gt O d ht (fun h => kt ((nI_ltI (show (0 : Nat) < 2 ^ 31 by decide) ha).mp h)) (fun h => kf (by have h2 := mt (nI_ltI (show (0 : Nat) < 2 ^ 31 by decide) ha).mpr h; omega))
theorem ww_icmp_leN (O : ww_ok X cc own) {a b : Nat} {off : Int} {tgt : Nat} (d : decode cc pc = .ok (.if_icmp .le off, 3)) (ht : (pc : Int) + off = (tgt : Int)) (ha : a < 2 ^ 31) (hb : b < 2 ^ 31) (kt : a ≤ b → ww_at X cs ss tgt L st ws) (kf : b < a → ww_at X cs ss (pc + 3) L st ws) : ww_at X cs ss pc L (.int (nI b) :: .int (nI a) :: st) ws :=
  ww_icmp_le O d ht (fun h => kt ((nI_leI ha hb).mp h)) (fun h => kf (by have h2 := mt (nI_leI ha hb).mpr h; omega))
theorem ww_if_leN (O : ww_ok X cc own) {a : Nat} {off : Int} {tgt : Nat} (d : decode cc pc = .ok (.ifCond .le off, 3)) (ht : (pc : Int) + off = (tgt : Int)) (ha : a < 2 ^ 31) (kt : a ≤ 0 → ww_at X cs ss tgt L st ws) (kf : 0 < a → ww_at X cs ss (pc + 3) L st ws) : ww_at X cs ss pc L (.int (nI a) :: st) ws :=
  ww_if_le O d ht (fun h => kt ((nI_leI ha (show (0 : Nat) < 2 ^ 31 by decide)).mp h)) (fun h => kf (by have h2 := mt (nI_leI ha (show (0 : Nat) < 2 ^ 31 by decide)).mpr h; omega))
theorem ww_if_eqB (O : ww_ok X cc own) {b : Bool} {off : Int} {tgt : Nat} (d : decode cc pc = .ok (.ifCond .eq off, 3)) (ht : (pc : Int) + off = (tgt : Int)) (kt : b = false → ww_at X cs ss tgt L st ws) (kf : b = true → ww_at X cs ss (pc + 3) L st ws) : ww_at X cs ss pc L (.int (px_b b) :: st) ws :=
  ww_if_eq O d ht (fun h => kt (px_b_0.mp h)) (fun h => kf (by cases b; exact absurd rfl h; rfl))
theorem ww_if_neB (O : ww_ok X cc own) {b : Bool} {off : Int} {tgt : Nat} (d : decode cc pc = .ok (.ifCond .ne off, 3)) (ht : (pc : Int) + off = (tgt : Int)) (kt : b = true → ww_at X cs ss tgt L st ws) (kf : b = false → ww_at X cs ss (pc + 3) L st ws) : ww_at X cs ss pc L (.int (px_b b) :: st) ws :=
  ww_if_ne O d ht (fun h => kt (by cases b; exact absurd rfl h; rfl)) (fun h => kf (px_b_0.mp h))
theorem ww_get (O : ww_ok X cc own) {ref C : String} {T : u_T} {N ci index a : Nat} {fs : List Value} {v : Value} (hin : ∀ w ∈ u_ws C T N, w ∈ lw_good) (hc : cx_cl[ci]? = some (C, T, N)) (j : Nat) (hj : j < N) (hlink : Cond.fieldLink own index ref (T j).2.1 (T j).2.2.1 ∈ lw_good) (href : (T j).1 = ref) (d : decode cc pc = .ok (.getfield index, 3)) (q0 : Nat) (he : ws[q0]? = some (a, .inr (ci, fs))) (hv : fs[j]? = some v) (k : ww_at X cs ss (pc + 3) L (v :: st) ws) : ww_at X cs ss pc L (.ref a :: st) ws :=
  fun H ls locs hl hP hD hS => va_get (D := ww_D X) O.x O.b O.t hin O.o O.k hP q0 he hc j hj (O.t _ hlink) (fun _ h9 => href ▸ h9) hv d (k H ls locs hl hP hD hS)
theorem ww_put (O : ww_ok X cc own) {ref C : String} {T : u_T} {N ci index a : Nat} {fs : List Value} {v : Value} {ty : FieldType} (hin : ∀ w ∈ u_ws C T N, w ∈ lw_good) (ty0 : Nat → FieldType) (hty : ∀ k, k < N → parseFieldDescriptor (T k).2.2.1 = some (ty0 k)) (hnm : ∀ a, a < N → ∀ b, b < N → a ≠ b → (T a).2.1 ≠ (T b).2.1) (hc : cx_cl[ci]? = some (C, T, N)) (j : Nat) (hj : j < N) (hlink : Cond.fieldLink own index ref (T j).2.1 (T j).2.2.1 ∈ lw_good) (href : (T j).1 = ref) (hfin : (T j).2.2.2 = false) (hd : parseFieldDescriptor (T j).2.2.1 = some ty) (d : decode cc pc = .ok (.putfield index, 3)) (q0 : Nat) (he : ws[q0]? = some (a, .inr (ci, fs))) (hn : narrow ty v = v) (hfit : fits ty v = true) (hl : j < fs.length) {ws' : va_W} (hw : ws.set q0 (a, .inr (ci, fs.set j v)) = ws') (k : ww_at X cs ss (pc + 3) L st ws') : ww_at X cs ss pc L (v :: .ref a :: st) ws :=
  fun H ls locs hlv hP hD hS => va_put (D := ww_D X) O.x O.b O.t hin ty0 hty hnm O.o O.k hP hD hS q0 he hc j hj (O.t _ hlink) (fun _ h9 => href ▸ h9) hfin hd hn hfit hl d (fun H1 locs1 hP1 hD1 hS1 => k H1 ls locs1 hlv (hw ▸ hP1) (hw ▸ hD1) hS1)
theorem ww_putF (O : ww_ok X cc own) (hin2 : (ww_h X).name = "<init>") {ref C : String} {T : u_T} {N ci index a : Nat} {fs : List Value} {v : Value} {ty : FieldType} (hin : ∀ w ∈ u_ws C T N, w ∈ lw_good) (ty0 : Nat → FieldType) (hty : ∀ k, k < N → parseFieldDescriptor (T k).2.2.1 = some (ty0 k)) (hnm : ∀ a, a < N → ∀ b, b < N → a ≠ b → (T a).2.1 ≠ (T b).2.1) (hc : cx_cl[ci]? = some (C, T, N)) (j : Nat) (hj : j < N) (hlink : Cond.fieldLink own index ref (T j).2.1 (T j).2.2.1 ∈ lw_good) (href : (T j).1 = ref) (hfin : (T j).2.2.2 = true) (hown : (T j).1 = own) (hd : parseFieldDescriptor (T j).2.2.1 = some ty) (d : decode cc pc = .ok (.putfield index, 3)) (q0 : Nat) (he : ws[q0]? = some (a, .inr (ci, fs))) (hn : narrow ty v = v) (hfit : fits ty v = true) (hl : j < fs.length) {ws' : va_W} (hw : ws.set q0 (a, .inr (ci, fs.set j v)) = ws') (k : ww_at X cs ss (pc + 3) L st ws') : ww_at X cs ss pc L (v :: .ref a :: st) ws :=
  fun H ls locs hlv hP hD hS => va_putF (D := ww_D X) O.x O.b O.t hin ty0 hty hnm O.o O.k hP hD hS q0 he hc j hj (O.t _ hlink) (fun _ h9 => href ▸ h9) hfin hin2 hown hd hn hfit hl d (fun H1 locs1 hP1 hD1 hS1 => k H1 ls locs1 hlv (hw ▸ hP1) (hw ▸ hD1) hS1)
theorem ww_ix {i n : Nat} (h : i < n) (hn : n < 2 ^ 31) : vp_in (nI i) n ∧ (nI i).toNatClampNeg = i := ⟨vp_in_nI h hn, nI_clamp (Nat.lt_trans h hn)⟩
theorem ww_iald (O : ww_ok X cc own) {a n i : Nat} {f : Nat → Int32} {v : Int32} (d : decode cc pc = .ok (.iaload, 1)) (q0 : Nat) (he : ws[q0]? = some (a, .inl (ww_g X 0, n, .inl f))) (hi : i < n) (hn : n < 2 ^ 31) (hv : f i = v) (k : ww_at X cs ss (pc + 1) L (.int v :: st) ws) : ww_at X cs ss pc L (.int (nI i) :: .ref a :: st) ws :=
  fun H ls locs hl hP hD hS => va_iald O.x O.b O.k hP q0 0 he rfl (ww_ix hi hn).1 d (by rw [(ww_ix hi hn).2, hv]; exact k H ls locs hl hP hD hS)
theorem ww_zald (O : ww_ok X cc own) {a n i : Nat} {f : Nat → Int32} {v : Int32} (d : decode cc pc = .ok (.baload, 1)) (q0 : Nat) (he : ws[q0]? = some (a, .inl (ww_g X 1, n, .inl f))) (hi : i < n) (hn : n < 2 ^ 31) (hv : f i = v) (k : ww_at X cs ss (pc + 1) L (.int v :: st) ws) : ww_at X cs ss pc L (.int (nI i) :: .ref a :: st) ws :=
  fun H ls locs hl hP hD hS => va_zald O.x O.b O.k hP q0 1 he rfl (ww_ix hi hn).1 d (by rw [(ww_ix hi hn).2, hv]; exact k H ls locs hl hP hD hS)
theorem ww_lald (O : ww_ok X cc own) {a n i : Nat} {f : Nat → Int64} {v : Int64} (d : decode cc pc = .ok (.laload, 1)) (q0 : Nat) (he : ws[q0]? = some (a, .inl (ww_g X 2, n, .inr (.inl f)))) (hi : i < n) (hn : n < 2 ^ 31) (hv : f i = v) (k : ww_at X cs ss (pc + 1) L (.long v :: st) ws) : ww_at X cs ss pc L (.int (nI i) :: .ref a :: st) ws :=
  fun H ls locs hl hP hD hS => va_lald O.x O.b O.k hP q0 2 he rfl (ww_ix hi hn).1 d (by rw [(ww_ix hi hn).2, hv]; exact k H ls locs hl hP hD hS)
theorem ww_aald (O : ww_ok X cc own) {a n i v : Nat} {f : Nat → Option Nat} (d : decode cc pc = .ok (.aaload, 1)) (q0 : Nat) (he : ws[q0]? = some (a, .inl (ww_g X 3, n, .inr (.inr (.inr (.inr f)))))) (hi : i < n) (hn : n < 2 ^ 31) (hv : f i = some v) (k : ww_at X cs ss (pc + 1) L (.ref v :: st) ws) : ww_at X cs ss pc L (.int (nI i) :: .ref a :: st) ws :=
  fun H ls locs hl hP hD hS => va_aldq O.x O.b O.k hP q0 3 he rfl (ww_ix hi hn).1 d (by rw [(ww_ix hi hn).2, hv]; exact k H ls locs hl hP hD hS)
theorem ww_iast (O : ww_ok X cc own) {a n i : Nat} {f : Nat → Int32} {x : Int32} (d : decode cc pc = .ok (.iastore, 1)) (q0 : Nat) (he : ws[q0]? = some (a, .inl (ww_g X 0, n, .inl f))) (hi : i < n) (hn : n < 2 ^ 31) {ws' : va_W} (hw : ws.set q0 (a, .inl (ww_g X 0, n, .inl (upd f i x))) = ws') (k : ww_at X cs ss (pc + 1) L st ws') : ww_at X cs ss pc L (.int x :: .int (nI i) :: .ref a :: st) ws :=
  fun H ls locs hl hP hD hS => va_iast O.x O.b O.k hP hD hS q0 0 he rfl (ww_ix hi hn).1 d (fun H1 locs1 hP1 hD1 hS1 => k H1 ls locs1 hl (by rw [(ww_ix hi hn).2, hw] at hP1; exact hP1) (by rw [(ww_ix hi hn).2, hw] at hD1; exact hD1) hS1)
theorem ww_zast (O : ww_ok X cc own) {a n i : Nat} {f : Nat → Int32} {x : Int32} (d : decode cc pc = .ok (.bastore, 1)) (q0 : Nat) (he : ws[q0]? = some (a, .inl (ww_g X 1, n, .inl f))) (hi : i < n) (hn : n < 2 ^ 31) (hx : vp_nar .boolean x = x) {ws' : va_W} (hw : ws.set q0 (a, .inl (ww_g X 1, n, .inl (upd f i x))) = ws') (k : ww_at X cs ss (pc + 1) L st ws') : ww_at X cs ss pc L (.int x :: .int (nI i) :: .ref a :: st) ws :=
  fun H ls locs hl hP hD hS => va_zast O.x O.b O.k hP hD hS q0 1 he rfl (ww_ix hi hn).1 d (fun H1 locs1 hP1 hD1 hS1 => k H1 ls locs1 hl (by rw [(ww_ix hi hn).2, hx, hw] at hP1; exact hP1) (by rw [(ww_ix hi hn).2, hx, hw] at hD1; exact hD1) hS1)
theorem ww_last (O : ww_ok X cc own) {a n i : Nat} {f : Nat → Int64} {x : Int64} (d : decode cc pc = .ok (.lastore, 1)) (q0 : Nat) (he : ws[q0]? = some (a, .inl (ww_g X 2, n, .inr (.inl f)))) (hi : i < n) (hn : n < 2 ^ 31) {ws' : va_W} (hw : ws.set q0 (a, .inl (ww_g X 2, n, .inr (.inl (vp_updL f i x)))) = ws') (k : ww_at X cs ss (pc + 1) L st ws') : ww_at X cs ss pc L (.long x :: .int (nI i) :: .ref a :: st) ws :=
  fun H ls locs hl hP hD hS => va_last O.x O.b O.k hP hD hS q0 2 he rfl (ww_ix hi hn).1 d (fun H1 locs1 hP1 hD1 hS1 => k H1 ls locs1 hl (by rw [(ww_ix hi hn).2, hw] at hP1; exact hP1) (by rw [(ww_ix hi hn).2, hw] at hD1; exact hD1) hS1)
theorem ww_max (O : ww_ok X cc own) {index : Nat} {x y v : Int32} (hlink : Cond.methodLink own index Lib.Math.max.name ∈ lw_good) (hM : Cond.static Lib.Math.max.name ∈ lw_good ∧ Cond.initialized "java/lang/Math" ∈ lw_good ∧ Cond.code Lib.Math.max.name Lib.Math.max.code 2 (some .int) ∈ lw_good) (hfr : 1 ≤ (ww_R X).frames) (hlo : (st.map fun v => v.category).sum + 13 ≤ (ww_R X).locals) (hcs : cs ≤ (ww_R X).cells) (hss : ss ≤ (ww_R X).slots) (d : decode cc pc = .ok (.invokestatic index, 3)) (hv : (if x < y then y else x) = v) (k : ww_at X cs ss (pc + 3) L (.int v :: st) ws) : ww_at X cs ss pc L (.int y :: .int x :: st) ws :=
  fun H ls locs hl hP hD hS => va_mmax O.x O.b (O.n.trans hl.1.symm) O.o (O.t _ hlink) (O.t _ hM.1) (O.t _ hM.2.1) (O.t _ hM.2.2) hfr hlo hcs hss d (by rw [hv]; exact k H ls locs hl hP hD hS)
theorem ww_min (O : ww_ok X cc own) {index : Nat} {x y v : Int32} (hlink : Cond.methodLink own index Lib.Math.min.name ∈ lw_good) (hM : Cond.static Lib.Math.min.name ∈ lw_good ∧ Cond.initialized "java/lang/Math" ∈ lw_good ∧ Cond.code Lib.Math.min.name Lib.Math.min.code 2 (some .int) ∈ lw_good) (hfr : 1 ≤ (ww_R X).frames) (hlo : (st.map fun v => v.category).sum + 13 ≤ (ww_R X).locals) (hcs : cs ≤ (ww_R X).cells) (hss : ss ≤ (ww_R X).slots) (d : decode cc pc = .ok (.invokestatic index, 3)) (hv : (if y < x then y else x) = v) (k : ww_at X cs ss (pc + 3) L (.int v :: st) ws) : ww_at X cs ss pc L (.int y :: .int x :: st) ws :=
  fun H ls locs hl hP hD hS => va_mmin O.x O.b (O.n.trans hl.1.symm) O.o (O.t _ hlink) (O.t _ hM.1) (O.t _ hM.2.1) (O.t _ hM.2.2) hfr hlo hcs hss d (by rw [hv]; exact k H ls locs hl hP hD hS)
theorem ww_fm {w0 ws : va_W} : ∀ {isC : List Nat}, isC.map (fun i => ws[i]?) = w0.map some → isC.filterMap (fun i => ws[i]?) = w0 := by
  induction w0 with
  | nil =>
    intro isC h
    cases isC with
    | nil => rfl
    | cons i t => simp at h
  | cons q w ih =>
    intro isC h
    cases isC with
    | nil => simp at h
    | cons i t =>
      simp only [List.map_cons, List.cons.injEq] at h
      rw [List.filterMap_cons, h.1, ih h.2]
theorem ww_Dmap {A : Nat → Prop} {w0 w1 : va_W} (h : va_D A w0) (hm : w1.map (fun q => q.1) = w0.map (fun q => q.1)) : va_D A w1 := by
  have key : ∀ (i : Nat) (p : Nat × va_E), w1[i]? = some p → ∃ p0, w0[i]? = some p0 ∧ p0.1 = p.1 := by
    intro i p hi
    have h1 : (w1.map (fun q => q.1))[i]? = some p.1 := by rw [List.getElem?_map, hi]; rfl
    rw [hm, List.getElem?_map] at h1
    cases h2 : w0[i]? with
    | none => rw [h2] at h1; cases h1
    | some p0 => rw [h2] at h1; exact ⟨p0, rfl, Option.some.inj h1⟩
  refine ⟨fun i j p q hi hj hpq => ?_, fun k q hk => ?_⟩
  · obtain ⟨p0, h1, h2⟩ := key i p hi
    obtain ⟨q0, h3, h4⟩ := key j q hj
    exact h.1 i j p0 q0 h1 h3 (h2.trans (hpq.trans h4.symm))
  · obtain ⟨q0, h1, h2⟩ := key k q hk
    rw [← h2]
    exact h.2 k q0 h1
/-- a contract: the method y, called with As where the world is w0, returns r and leaves w1; it makes at most so many cells as its room has -/
def ww_ct (l : Launch) (D : va_G) (g : Nat → ClassId) (y : MethodName) (b : ByteArray) (n : Nat) (ret : Option FieldType) (rm : Room) (As : List Value) (w0 : va_W) (r : Option Value) (w1 : va_W) : Prop :=
  w1.map (fun q => q.1) = w0.map (fun q => q.1) ∧ ∀ sz : Nat, Met l y (Cond.code y b n ret :: lw_good) rm (va_Pc As (fun U => U.heap.size = sz ∧ va_P D cx_cl w0 U.heap ∧ ww_K D g U ∧ va_D (fun _ => True) w0)) (fun _ st oc t => oc = .returned r ∧ va_P D cx_cl w1 t.heap ∧ va_F (va_A w0 sz) st t) rm.cells rm.slots (va_A w0 sz)
def ww_fin (X : ww_X) (cc : ByteArray) (mc ms : Nat) (r : Option Value) (w1 : va_W) : Prop := match r with
  | none => ∀ (pc : Nat) (L : List (Nat × Value)), decode cc pc = .ok (.return_, 1) → ww_at X mc ms pc L [] w1
  | some (.int v) => ∀ (pc : Nat) (L : List (Nat × Value)), decode cc pc = .ok (.ireturn, 1) → ww_at X mc ms pc L [.int v] w1
  | _ => True
theorem ww_fin.v {w1 : va_W} {mc ms : Nat} (h : ww_fin X cc mc ms none w1) {pc : Nat} {L : List (Nat × Value)} (d : decode cc pc = .ok (.return_, 1)) : ww_at X mc ms pc L [] w1 := h pc L d
theorem ww_fin.i {w1 : va_W} {v : Int32} {mc ms : Nat} (h : ww_fin X cc mc ms (some (.int v)) w1) {pc : Nat} {L : List (Nat × Value)} (d : decode cc pc = .ok (.ireturn, 1)) : ww_at X mc ms pc L [.int v] w1 := h pc L d
def ww_rok (ret : Option FieldType) (r : Option Value) : Prop := match ret, r with
  | none, none => True
  | some ty, some (.int v) => narrow ty (.int v) = .int v
  | _, _ => False
theorem ww_noSt {D : va_G} {w0 : va_W} {H : Heap} (hP : va_P D cx_cl w0 H) : ∀ (a : Nat) (cell : Cell), H[a]? = some cell → cell.vm.isStatics = true → ¬ va_A w0 H.size a := by
  intro a cell hc hi hA
  rcases hA with ⟨k, e, hk⟩ | h
  · have h1 := hP k _ hk
    cases e with
    | inl x =>
      have h2 : H[a]? = some (vp_cell x.1 x.2) := h1
      rw [hc] at h2
      cases h2
      revert hi
      unfold vp_cell
      split <;> exact fun h => by cases h
    | inr o =>
      obtain ⟨r, -, c2, h2, -, h3, -⟩ := h1
      rw [hc] at h2
      cases h2
      rw [h3] at hi
      cases hi
  · have := (Array.getElem?_eq_some_iff.mp hc).1
    omega
theorem ww_start {l : Launch} {D : va_G} {g : Nat → ClassId} {y : MethodName} {b : ByteArray} {n : Nat} {ret : Option FieldType} {rm : Room} {As : List Value} {w0 : va_W} {r : Option Value} {w1 : va_W} {L0 : List (Nat × Value)}
    (hy : plainName y.cls = true) (hadr : w1.map (fun q => q.1) = w0.map (fun q => q.1)) (hret : ww_rok ret r) (hn : (lg_sl As).length ≤ n) (hL0 : lv_args 0 As = L0)
    (body : ∀ X : ww_X, ww_ok X b y.cls → ww_l X = l → ww_D X = D → ww_g X = g → ww_R X = rm → ww_n X = n → ww_fin X b rm.cells rm.slots r w1 → ww_at X 0 0 0 L0 [] w0) : ww_ct l D g y b n ret rm As w0 r w1 := by
  refine ⟨hadr, fun sz => ?_⟩
  refine Met.ofW (cc := b) (maxL := n) (ret := ret) hy rfl ?_
  intro p e s m args below meth c s₁ B hml hv
  obtain ⟨rfl, hsz, hP, hK, hD0⟩ := hv
  subst hsz
  have hts := atoms_spec (ws := Cond.code y b n ret :: lw_good) B.pre
  have hD := hD0.self (sz := s.heap.size)
  have hl := lv_entry As (n := n) hn
  rw [lg_entry_eq]
  rw [hL0] at hl
  have hlocks := B.notSynchronized
  refine body (p, l, e, rm, s, m, As.toArray, below, meth, c, va_A w0 s.heap.size, D, g, MQ below (fun _ st oc t => oc = .returned r ∧ va_P D cx_cl w1 t.heap ∧ va_F (va_A w0 s.heap.size) st t) As.toArray s rm.cells rm.slots (va_A w0 s.heap.size), n)
    ⟨B.exec, B.bytes, hml, findClass_of_methodNamed B.named, fun w hw => hts w (List.mem_cons_of_mem _ hw), hK, fun q h => Or.inr h, hlocks, ww_noSt hP⟩ rfl rfl rfl rfl rfl ?_ s.heap _ [] hl hP hD va_S.rf
  have hr := B.returns
  cases r with
  | none =>
    cases ret with
    | none =>
      intro pc L d H ls locs hl hP hD hS
      have hS2 : va_S (va_A w0 s.heap.size) s.heap H locs := hS
      have hP2 : va_P D cx_cl w1 H := hP
      show W p l e rm s m As.toArray below meth c H locs rm.cells rm.slots (MQ below (fun _ st oc t => oc = .returned none ∧ va_P D cx_cl w1 t.heap ∧ va_F (va_A w0 s.heap.size) st t) As.toArray s rm.cells rm.slots (va_A w0 s.heap.size)) (F0 m pc ls [])
      exact W.vret B.exec B.bytes hr (fun t ht hW => ⟨rfl, by rw [ht]; exact hP2, hS2.F ht⟩) hS2.2.2 d hlocks
    | some ty => exact hret.elim
  | some v =>
    cases ret with
    | none => cases v <;> exact hret.elim
    | some ty =>
      cases v with
      | int v =>
        intro pc L d H ls locs hl hP hD hS
        have hS2 : va_S (va_A w0 s.heap.size) s.heap H locs := hS
        have hP2 : va_P D cx_cl w1 H := hP
        show W p l e rm s m As.toArray below meth c H locs rm.cells rm.slots (MQ below (fun _ st oc t => oc = .returned (some (.int v)) ∧ va_P D cx_cl w1 t.heap ∧ va_F (va_A w0 s.heap.size) st t) As.toArray s rm.cells rm.slots (va_A w0 s.heap.size)) (F0 m pc ls [.int v])
        exact W.zret (v := v) B.exec B.bytes hr hret (fun t ht hW => ⟨rfl, by rw [ht]; exact hP2, hS2.F ht⟩) hS2.2.2 d hlocks
      | _ => exact hret.elim
/-- behind a call -/
theorem ww_back (O : ww_ok X cc own) {mc ms : Nat} {w0 w1 ws' : va_W} {r : Option Value} {H : Heap} {ls : Array Slot} {locs : List Loc} {st0 : List Value}
    (hr : va_Run (ww_p X) (ww_l X) (ww_e X) (ww_R X) (ww_s X) (ww_m X) (ww_a X) (ww_b X) (ww_h X) (ww_c X) H locs cs ss mc ms (F0 (ww_m X) pc ls st0) st (fun z oc t => oc = .returned r ∧ va_P (ww_D X) cx_cl w1 t.heap ∧ va_F (va_A w0 H.size) z t) (va_A w0 H.size))
    (hl : lv_has ls (ww_n X) L) (hP : va_P (ww_D X) cx_cl ws H) (hD : va_D (ww_A X) ws) (hS : va_S (ww_A X) (ww_s X).heap H locs) (hm : w1.map (fun q => q.1) = w0.map (fun q => q.1))
    (isC isR pm : List Nat) (hC : isC.map (fun i => ws[i]?) = w0.map some) (hcn : va_nd isC = true) (hR : isR.map (fun i => ws[i]?) = (isR.filterMap (fun i => ws[i]?)).map some) (hn : va_nd isR = true) (hdis : ∀ i ∈ isR, i ∉ isC)
    (hp1 : pm.filterMap (fun i => (isR.filterMap (fun i => ws[i]?) ++ w1)[i]?) = ws') (hp2 : pm.map (fun i => (isR.filterMap (fun i => ws[i]?) ++ w1)[i]?) = ws'.map some) (hpn : va_nd pm = true)
    (k : ww_at X (cs + mc) (ss + ms) (pc + 3) L (r.toList ++ st) ws') : ww_W X H locs cs ss (F0 (ww_m X) pc ls st0) := by
  intro T hT XX
  obtain ⟨v, z, t, T', L2, h0, X', hL, e1, e2, ⟨hv, hP1, hz, hk⟩, go⟩ := hr T hT XX
  cases hv
  rw [h0] at hz hk
  have hF := va_free hD hS O.a isC hC
  have hD1 : va_D (va_A w0 H.size) w1 := ww_Dmap ((hD.sub isC hcn hC).self) hm
  rw [← e1] at hP1 hz hk
  obtain ⟨hP2, hD2⟩ := va_join hP hD isC isR hC hR hn hdis hk hF hP1 hD1
  have hS2 : va_S (ww_A X) (ww_s X).heap T'.heap (locs ++ L2) := by
    refine ⟨Nat.le_trans hS.1 hz, fun q h1 h2 => ?_, fun q hq => ?_⟩
    · rw [hk q (Nat.lt_of_lt_of_le h1 hS.1) (fun z => h2 (hF q z))]
      exact hS.2.1 q h1 h2
    · rcases List.mem_append.mp hq with h | h
      · exact hS.2.2 q h
      · exact hF _ (hL q h)
  obtain ⟨t2, a1, b1⟩ := k T'.heap ls (locs ++ L2) hl (hP2.sub pm hp1) (hD2.sub pm hpn hp2) hS2 T' rfl X'
  exact ⟨t2, go t2 a1, b1⟩
theorem ww_blind {D : va_G} {g : Nat → ClassId} {As : List Value} {w0 : va_W} {sz : Nat} : FrameBlind (va_Pc As (fun U => U.heap.size = sz ∧ va_P D cx_cl w0 U.heap ∧ ww_K D g U ∧ va_D (fun _ => True) w0)) :=
  fun a U f mk q => ⟨q.1, q.2.1, q.2.2.1, ⟨va_K.moved (u := U) (U := U.calling f mk a) (Vm.Alike.refl U.vm) q.2.2.2.1.1, fun w hw => ww_nw_same (List.all_eq_true.mp cx_nw_ok w hw) (s := U) rfl (q.2.2.2.1.2.1 w hw), fun w hw => ww_sw_heap (List.all_eq_true.mp cx_sw_ok w hw) (u := U) rfl (fun _ _ h _ => h) (q.2.2.2.1.2.2 w hw)⟩, q.2.2.2.2⟩
theorem ww_gi {y : MethodName} {b : ByteArray} {n : Nat} {ret : Option FieldType} (h : Cond.code y b n ret ∈ lw_good) : GoodIn lw_good (Cond.code y b n ret :: lw_good) := by
  intro w hw
  rcases List.mem_cons.mp hw with h1 | h1
  · rw [h1]; exact ⟨h, Or.inl rfl⟩
  · exact ⟨h1, good_of_word (List.mem_filter.mp h1).2⟩
/-- what a call site's words say -/
def ww_site (own : String) (index : Nat) (y : MethodName) (b : ByteArray) (n : Nat) (ret : Option FieldType) (na : Nat) : Prop :=
  Cond.code y b n ret ∈ lw_good ∧ Cond.methodLink own index y ∈ lw_good ∧ Cond.initialized y.cls ∈ lw_good ∧ (y.cls ≠ "java/lang/invoke/MethodHandle" ∧ y.cls ≠ "java/lang/invoke/VarHandle" ∧ (parseMethodDescriptor y.desc).map (fun d => d.parameters.length) = some na)
def ww_virt (y : MethodName) : Prop := Cond.instanceMethod y ∈ lw_good ∧ Cond.selects y.cls y y ∈ lw_good
theorem ww_callS (O : ww_ok X cc own) {index na n : Nat} {y : MethodName} {b : ByteArray} {ret : Option FieldType} {rm : Room} {As : List Value} {w0 w1 ws' : va_W} {r : Option Value} (hM : ww_ct (ww_l X) (ww_D X) (ww_g X) y b n ret rm As w0 r w1) (hs : ww_site own index y b n ret na) (hst : Cond.static y ∈ lw_good)
    (hRm : rm.frames + 1 ≤ (ww_R X).frames ∧ 8 + (n + 11) + rm.locals ≤ (ww_R X).locals) (hcs : cs + rm.cells ≤ (ww_R X).cells) (hss : ss + rm.slots ≤ (ww_R X).slots) (hna : As.length = na) (hst8 : (st.map fun v => v.category).sum ≤ 8) (d : decode cc pc = .ok (.invokestatic index, 3)) {st0 : List Value} (hstk : st0 = As.reverse ++ st)
    (isC isR pm : List Nat) (hC : isC.map (fun i => ws[i]?) = w0.map some) (hcn : va_nd isC = true) (hR : isR.map (fun i => ws[i]?) = (isR.filterMap (fun i => ws[i]?)).map some) (hn : va_nd isR = true) (hdis : ∀ i ∈ isR, i ∉ isC)
    (hp1 : pm.filterMap (fun i => (isR.filterMap (fun i => ws[i]?) ++ w1)[i]?) = ws') (hp2 : pm.map (fun i => (isR.filterMap (fun i => ws[i]?) ++ w1)[i]?) = ws'.map some) (hpn : va_nd pm = true)
    (k : ww_at X (cs + rm.cells) (ss + rm.slots) (pc + 3) L (r.toList ++ st) ws') : ww_at X cs ss pc L st0 ws := by
  intro H ls locs hl hP hD hS
  subst hstk
  have hwc : va_P (ww_D X) cx_cl w0 H := hP.sub isC (ww_fm hC)
  refine ww_back O (w0 := w0) (w1 := w1) ?_ hl hP hD hS hM.1 isC isR pm hC hcn hR hn hdis hp1 hp2 hpn k
  exact va_runS (As := As) (rest := st) ⟨O.x, O.b, O.n, O.o, O.t⟩ (hM.2 H.size) ⟨callB_of na O.t (ww_gi hs.1) rfl rfl rfl (O.t _ hs.2.2.1) (O.t _ hs.2.1) hs.2.2.2 hRm, O.t _ hst⟩ ⟨ww_blind, fun U hU hW => ⟨rfl, by rw [hU], by rw [hU]; exact hwc, O.go hS hU hW, (hD.sub isC hcn hC).weaken (fun _ _ _ _ => trivial)⟩⟩ rfl hna hl.1 rfl (lv_room hst8) d ⟨hcs, hss⟩
theorem ww_callV (O : ww_ok X cc own) {index na n a q0 ci : Nat} {y : MethodName} {b : ByteArray} {ret : Option FieldType} {rm : Room} {As fs : List Value} {w0 w1 ws' : va_W} {r : Option Value} {q : vw_C} (hM : ww_ct (ww_l X) (ww_D X) (ww_g X) y b n ret rm (.ref a :: As) w0 r w1) (hs : ww_site own index y b n ret na) (hvi : ww_virt y) (hc : cx_cl[ci]? = some q) (hq : q.1 = y.cls) (he : ws[q0]? = some (a, .inr (ci, fs)))
    (hRm : rm.frames + 1 ≤ (ww_R X).frames ∧ 8 + (n + 11) + rm.locals ≤ (ww_R X).locals) (hcs : cs + rm.cells ≤ (ww_R X).cells) (hss : ss + rm.slots ≤ (ww_R X).slots) (hna : As.length = na) (hst8 : (st.map fun v => v.category).sum ≤ 8) (d : decode cc pc = .ok (.invokevirtual index, 3)) {st0 : List Value} (hstk : st0 = As.reverse ++ .ref a :: st)
    (isC isR pm : List Nat) (hC : isC.map (fun i => ws[i]?) = w0.map some) (hcn : va_nd isC = true) (hR : isR.map (fun i => ws[i]?) = (isR.filterMap (fun i => ws[i]?)).map some) (hn : va_nd isR = true) (hdis : ∀ i ∈ isR, i ∉ isC)
    (hp1 : pm.filterMap (fun i => (isR.filterMap (fun i => ws[i]?) ++ w1)[i]?) = ws') (hp2 : pm.map (fun i => (isR.filterMap (fun i => ws[i]?) ++ w1)[i]?) = ws'.map some) (hpn : va_nd pm = true)
    (k : ww_at X (cs + rm.cells) (ss + rm.slots) (pc + 3) L (r.toList ++ st) ws') : ww_at X cs ss pc L st0 ws := by
  intro H ls locs hl hP hD hS
  subst hstk
  have hwc : va_P (ww_D X) cx_cl w0 H := hP.sub isC (ww_fm hC)
  have hrec := va_recv O.k hP hc he
  rw [hq] at hrec
  refine ww_back O (w0 := w0) (w1 := w1) ?_ hl hP hD hS hM.1 isC isR pm hC hcn hR hn hdis hp1 hp2 hpn k
  exact va_runV (As := As) (rest := st) (C := y.cls) (b := a) ⟨O.x, O.b, O.n, O.o, O.t⟩ (hM.2 H.size) ⟨callB_of na O.t (ww_gi hs.1) rfl rfl rfl (O.t _ hs.2.2.1) (O.t _ hs.2.1) hs.2.2.2 hRm, O.t _ hvi.1, O.t _ hvi.2⟩ ⟨ww_blind, hrec, fun U hU hW => ⟨rfl, by rw [hU], by rw [hU]; exact hwc, O.go hS hU hW, (hD.sub isC hcn hC).weaken (fun _ _ _ _ => trivial)⟩⟩ rfl hna hl.1 rfl (lv_room hst8) d ⟨hcs, hss⟩
end WWR
end
section
theorem dd_MO_init_0 : decode bb_MO_init 0 = .ok (.aload_n 0, 1) := by decide +kernel
theorem dd_MO_init_1 : decode bb_MO_init 1 = .ok (.invokespecial 1, 3) := by decide +kernel
theorem dd_MO_init_4 : decode bb_MO_init 4 = .ok (.aload_n 0, 1) := by decide +kernel
theorem dd_MO_init_5 : decode bb_MO_init 5 = .ok (.sipush 240, 3) := by decide +kernel
theorem dd_MO_init_8 : decode bb_MO_init 8 = .ok (.newarray .int, 2) := by decide +kernel
theorem dd_MO_init_10 : decode bb_MO_init 10 = .ok (.putfield 7, 3) := by decide +kernel
theorem dd_MO_init_13 : decode bb_MO_init 13 = .ok (.aload_n 0, 1) := by decide +kernel
theorem dd_MO_init_14 : decode bb_MO_init 14 = .ok (.sipush 240, 3) := by decide +kernel
theorem dd_MO_init_17 : decode bb_MO_init 17 = .ok (.newarray .boolean, 2) := by decide +kernel
theorem dd_MO_init_19 : decode bb_MO_init 19 = .ok (.putfield 13, 3) := by decide +kernel
theorem dd_MO_init_22 : decode bb_MO_init 22 = .ok (.aload_n 0, 1) := by decide +kernel
theorem dd_MO_init_23 : decode bb_MO_init 23 = .ok (.sipush 240, 3) := by decide +kernel
theorem dd_MO_init_26 : decode bb_MO_init 26 = .ok (.newarray .boolean, 2) := by decide +kernel
theorem dd_MO_init_28 : decode bb_MO_init 28 = .ok (.putfield 17, 3) := by decide +kernel
theorem dd_MO_init_31 : decode bb_MO_init 31 = .ok (.aload_n 0, 1) := by decide +kernel
theorem dd_MO_init_32 : decode bb_MO_init 32 = .ok (.sipush 240, 3) := by decide +kernel
theorem dd_MO_init_35 : decode bb_MO_init 35 = .ok (.newarray .int, 2) := by decide +kernel
theorem dd_MO_init_37 : decode bb_MO_init 37 = .ok (.putfield 20, 3) := by decide +kernel
theorem dd_MO_init_40 : decode bb_MO_init 40 = .ok (.aload_n 0, 1) := by decide +kernel
theorem dd_MO_init_41 : decode bb_MO_init 41 = .ok (.iconst 4, 1) := by decide +kernel
theorem dd_MO_init_42 : decode bb_MO_init 42 = .ok (.newarray .int, 2) := by decide +kernel
theorem dd_MO_init_44 : decode bb_MO_init 44 = .ok (.putfield 23, 3) := by decide +kernel
theorem dd_MO_init_47 : decode bb_MO_init 47 = .ok (.aload_n 0, 1) := by decide +kernel
theorem dd_MO_init_48 : decode bb_MO_init 48 = .ok (.bipush 80, 2) := by decide +kernel
theorem dd_MO_init_50 : decode bb_MO_init 50 = .ok (.newarray .int, 2) := by decide +kernel
theorem dd_MO_init_52 : decode bb_MO_init 52 = .ok (.putfield 26, 3) := by decide +kernel
theorem dd_MO_init_55 : decode bb_MO_init 55 = .ok (.aload_n 0, 1) := by decide +kernel
theorem dd_MO_init_56 : decode bb_MO_init 56 = .ok (.bipush 80, 2) := by decide +kernel
theorem dd_MO_init_58 : decode bb_MO_init 58 = .ok (.newarray .int, 2) := by decide +kernel
theorem dd_MO_init_60 : decode bb_MO_init 60 = .ok (.putfield 29, 3) := by decide +kernel
theorem dd_MO_init_63 : decode bb_MO_init 63 = .ok (.aload_n 0, 1) := by decide +kernel
theorem dd_MO_init_64 : decode bb_MO_init 64 = .ok (.bipush 60, 2) := by decide +kernel
theorem dd_MO_init_66 : decode bb_MO_init 66 = .ok (.newarray .int, 2) := by decide +kernel
theorem dd_MO_init_68 : decode bb_MO_init 68 = .ok (.putfield 32, 3) := by decide +kernel
theorem dd_MO_init_71 : decode bb_MO_init 71 = .ok (.iconst 0, 1) := by decide +kernel
theorem dd_MO_init_72 : decode bb_MO_init 72 = .ok (.istore_n 1, 1) := by decide +kernel
theorem dd_MO_init_73 : decode bb_MO_init 73 = .ok (.iload_n 1, 1) := by decide +kernel
theorem dd_MO_init_74 : decode bb_MO_init 74 = .ok (.sipush 240, 3) := by decide +kernel
theorem dd_MO_init_77 : decode bb_MO_init 77 = .ok (.if_icmp .ge 16, 3) := by decide +kernel
theorem dd_MO_init_80 : decode bb_MO_init 80 = .ok (.aload_n 0, 1) := by decide +kernel
theorem dd_MO_init_81 : decode bb_MO_init 81 = .ok (.getfield 7, 3) := by decide +kernel
theorem dd_MO_init_84 : decode bb_MO_init 84 = .ok (.iload_n 1, 1) := by decide +kernel
theorem dd_MO_init_85 : decode bb_MO_init 85 = .ok (.iconst (-1), 1) := by decide +kernel
theorem dd_MO_init_86 : decode bb_MO_init 86 = .ok (.iastore, 1) := by decide +kernel
theorem dd_MO_init_87 : decode bb_MO_init 87 = .ok (.iinc 1 1, 3) := by decide +kernel
theorem dd_MO_init_90 : decode bb_MO_init 90 = .ok (.goto (-17), 3) := by decide +kernel
theorem dd_MO_init_93 : decode bb_MO_init 93 = .ok (.iconst 0, 1) := by decide +kernel
theorem dd_MO_init_94 : decode bb_MO_init 94 = .ok (.istore_n 1, 1) := by decide +kernel
theorem dd_MO_init_95 : decode bb_MO_init 95 = .ok (.iload_n 1, 1) := by decide +kernel
theorem dd_MO_init_96 : decode bb_MO_init 96 = .ok (.bipush 80, 2) := by decide +kernel
theorem dd_MO_init_98 : decode bb_MO_init 98 = .ok (.if_icmp .ge 16, 3) := by decide +kernel
theorem dd_MO_init_101 : decode bb_MO_init 101 = .ok (.aload_n 0, 1) := by decide +kernel
theorem dd_MO_init_102 : decode bb_MO_init 102 = .ok (.getfield 26, 3) := by decide +kernel
theorem dd_MO_init_105 : decode bb_MO_init 105 = .ok (.iload_n 1, 1) := by decide +kernel
theorem dd_MO_init_106 : decode bb_MO_init 106 = .ok (.iconst (-1), 1) := by decide +kernel
theorem dd_MO_init_107 : decode bb_MO_init 107 = .ok (.iastore, 1) := by decide +kernel
theorem dd_MO_init_108 : decode bb_MO_init 108 = .ok (.iinc 1 1, 3) := by decide +kernel
theorem dd_MO_init_111 : decode bb_MO_init 111 = .ok (.goto (-16), 3) := by decide +kernel
theorem dd_MO_init_114 : decode bb_MO_init 114 = .ok (.return_, 1) := by decide +kernel
theorem dd_MO_thrown_0 : decode bb_MO_thrown 0 = .ok (.aload_n 0, 1) := by decide +kernel
theorem dd_MO_thrown_1 : decode bb_MO_thrown 1 = .ok (.getfield 35, 3) := by decide +kernel
theorem dd_MO_thrown_4 : decode bb_MO_thrown 4 = .ok (.ireturn, 1) := by decide +kernel
theorem dd_MO_noFile_0 : decode bb_MO_noFile 0 = .ok (.iload_n 0, 1) := by decide +kernel
theorem dd_MO_noFile_1 : decode bb_MO_noFile 1 = .ok (.ifCond .lt 8, 3) := by decide +kernel
theorem dd_MO_noFile_4 : decode bb_MO_noFile 4 = .ok (.iload_n 0, 1) := by decide +kernel
theorem dd_MO_noFile_5 : decode bb_MO_noFile 5 = .ok (.iconst 3, 1) := by decide +kernel
theorem dd_MO_noFile_6 : decode bb_MO_noFile 6 = .ok (.if_icmp .le 7, 3) := by decide +kernel
theorem dd_MO_noFile_9 : decode bb_MO_noFile 9 = .ok (.iconst 1, 1) := by decide +kernel
theorem dd_MO_noFile_10 : decode bb_MO_noFile 10 = .ok (.goto 4, 3) := by decide +kernel
theorem dd_MO_noFile_13 : decode bb_MO_noFile 13 = .ok (.iconst 0, 1) := by decide +kernel
theorem dd_MO_noFile_14 : decode bb_MO_noFile 14 = .ok (.ireturn, 1) := by decide +kernel
theorem dd_MO_noBlock_0 : decode bb_MO_noBlock 0 = .ok (.iload_n 0, 1) := by decide +kernel
theorem dd_MO_noBlock_1 : decode bb_MO_noBlock 1 = .ok (.ifCond .lt 9, 3) := by decide +kernel
theorem dd_MO_noBlock_4 : decode bb_MO_noBlock 4 = .ok (.iload_n 0, 1) := by decide +kernel
theorem dd_MO_noBlock_5 : decode bb_MO_noBlock 5 = .ok (.bipush 59, 2) := by decide +kernel
theorem dd_MO_noBlock_7 : decode bb_MO_noBlock 7 = .ok (.if_icmp .le 7, 3) := by decide +kernel
theorem dd_MO_noBlock_10 : decode bb_MO_noBlock 10 = .ok (.iconst 1, 1) := by decide +kernel
theorem dd_MO_noBlock_11 : decode bb_MO_noBlock 11 = .ok (.goto 4, 3) := by decide +kernel
theorem dd_MO_noBlock_14 : decode bb_MO_noBlock 14 = .ok (.iconst 0, 1) := by decide +kernel
theorem dd_MO_noBlock_15 : decode bb_MO_noBlock 15 = .ok (.ireturn, 1) := by decide +kernel
theorem dd_MO_goesOn_0 : decode bb_MO_goesOn 0 = .ok (.iload_n 1, 1) := by decide +kernel
theorem dd_MO_goesOn_1 : decode bb_MO_goesOn 1 = .ok (.bipush 60, 2) := by decide +kernel
theorem dd_MO_goesOn_3 : decode bb_MO_goesOn 3 = .ok (.irem, 1) := by decide +kernel
theorem dd_MO_goesOn_4 : decode bb_MO_goesOn 4 = .ok (.ifCond .le 63, 3) := by decide +kernel
theorem dd_MO_goesOn_7 : decode bb_MO_goesOn 7 = .ok (.aload_n 0, 1) := by decide +kernel
theorem dd_MO_goesOn_8 : decode bb_MO_goesOn 8 = .ok (.getfield 7, 3) := by decide +kernel
theorem dd_MO_goesOn_11 : decode bb_MO_goesOn 11 = .ok (.iload_n 1, 1) := by decide +kernel
theorem dd_MO_goesOn_12 : decode bb_MO_goesOn 12 = .ok (.iaload, 1) := by decide +kernel
theorem dd_MO_goesOn_13 : decode bb_MO_goesOn 13 = .ok (.ifCond .lt 54, 3) := by decide +kernel
theorem dd_MO_goesOn_16 : decode bb_MO_goesOn 16 = .ok (.aload_n 0, 1) := by decide +kernel
theorem dd_MO_goesOn_17 : decode bb_MO_goesOn 17 = .ok (.getfield 7, 3) := by decide +kernel
theorem dd_MO_goesOn_20 : decode bb_MO_goesOn 20 = .ok (.iload_n 1, 1) := by decide +kernel
theorem dd_MO_goesOn_21 : decode bb_MO_goesOn 21 = .ok (.iconst 1, 1) := by decide +kernel
theorem dd_MO_goesOn_22 : decode bb_MO_goesOn 22 = .ok (.isub, 1) := by decide +kernel
theorem dd_MO_goesOn_23 : decode bb_MO_goesOn 23 = .ok (.iaload, 1) := by decide +kernel
theorem dd_MO_goesOn_24 : decode bb_MO_goesOn 24 = .ok (.ifCond .lt 43, 3) := by decide +kernel
theorem dd_MO_goesOn_27 : decode bb_MO_goesOn 27 = .ok (.aload_n 0, 1) := by decide +kernel
theorem dd_MO_goesOn_28 : decode bb_MO_goesOn 28 = .ok (.getfield 7, 3) := by decide +kernel
theorem dd_MO_goesOn_31 : decode bb_MO_goesOn 31 = .ok (.iload_n 1, 1) := by decide +kernel
theorem dd_MO_goesOn_32 : decode bb_MO_goesOn 32 = .ok (.iaload, 1) := by decide +kernel
theorem dd_MO_goesOn_33 : decode bb_MO_goesOn 33 = .ok (.aload_n 0, 1) := by decide +kernel
theorem dd_MO_goesOn_34 : decode bb_MO_goesOn 34 = .ok (.getfield 7, 3) := by decide +kernel
theorem dd_MO_goesOn_37 : decode bb_MO_goesOn 37 = .ok (.iload_n 1, 1) := by decide +kernel
theorem dd_MO_goesOn_38 : decode bb_MO_goesOn 38 = .ok (.iconst 1, 1) := by decide +kernel
theorem dd_MO_goesOn_39 : decode bb_MO_goesOn 39 = .ok (.isub, 1) := by decide +kernel
theorem dd_MO_goesOn_40 : decode bb_MO_goesOn 40 = .ok (.iaload, 1) := by decide +kernel
theorem dd_MO_goesOn_41 : decode bb_MO_goesOn 41 = .ok (.iconst 1, 1) := by decide +kernel
theorem dd_MO_goesOn_42 : decode bb_MO_goesOn 42 = .ok (.iadd, 1) := by decide +kernel
theorem dd_MO_goesOn_43 : decode bb_MO_goesOn 43 = .ok (.if_icmp .ne 24, 3) := by decide +kernel
theorem dd_MO_goesOn_46 : decode bb_MO_goesOn 46 = .ok (.aload_n 0, 1) := by decide +kernel
theorem dd_MO_goesOn_47 : decode bb_MO_goesOn 47 = .ok (.getfield 13, 3) := by decide +kernel
theorem dd_MO_goesOn_50 : decode bb_MO_goesOn 50 = .ok (.iload_n 1, 1) := by decide +kernel
theorem dd_MO_goesOn_51 : decode bb_MO_goesOn 51 = .ok (.baload, 1) := by decide +kernel
theorem dd_MO_goesOn_52 : decode bb_MO_goesOn 52 = .ok (.aload_n 0, 1) := by decide +kernel
theorem dd_MO_goesOn_53 : decode bb_MO_goesOn 53 = .ok (.getfield 13, 3) := by decide +kernel
theorem dd_MO_goesOn_56 : decode bb_MO_goesOn 56 = .ok (.iload_n 1, 1) := by decide +kernel
theorem dd_MO_goesOn_57 : decode bb_MO_goesOn 57 = .ok (.iconst 1, 1) := by decide +kernel
theorem dd_MO_goesOn_58 : decode bb_MO_goesOn 58 = .ok (.isub, 1) := by decide +kernel
theorem dd_MO_goesOn_59 : decode bb_MO_goesOn 59 = .ok (.baload, 1) := by decide +kernel
theorem dd_MO_goesOn_60 : decode bb_MO_goesOn 60 = .ok (.if_icmp .ne 7, 3) := by decide +kernel
theorem dd_MO_goesOn_63 : decode bb_MO_goesOn 63 = .ok (.iconst 1, 1) := by decide +kernel
theorem dd_MO_goesOn_64 : decode bb_MO_goesOn 64 = .ok (.goto 4, 3) := by decide +kernel
theorem dd_MO_goesOn_67 : decode bb_MO_goesOn 67 = .ok (.iconst 0, 1) := by decide +kernel
theorem dd_MO_goesOn_68 : decode bb_MO_goesOn 68 = .ok (.ireturn, 1) := by decide +kernel
theorem dd_MO_extents_0 : decode bb_MO_extents 0 = .ok (.iconst 0, 1) := by decide +kernel
theorem dd_MO_extents_1 : decode bb_MO_extents 1 = .ok (.istore_n 3, 1) := by decide +kernel
theorem dd_MO_extents_2 : decode bb_MO_extents 2 = .ok (.aload_n 0, 1) := by decide +kernel
theorem dd_MO_extents_3 : decode bb_MO_extents 3 = .ok (.iconst 0, 1) := by decide +kernel
theorem dd_MO_extents_4 : decode bb_MO_extents 4 = .ok (.putfield 39, 3) := by decide +kernel
theorem dd_MO_extents_7 : decode bb_MO_extents 7 = .ok (.bipush 60, 2) := by decide +kernel
theorem dd_MO_extents_9 : decode bb_MO_extents 9 = .ok (.iload_n 1, 1) := by decide +kernel
theorem dd_MO_extents_10 : decode bb_MO_extents 10 = .ok (.imul, 1) := by decide +kernel
theorem dd_MO_extents_11 : decode bb_MO_extents 11 = .ok (.istore 4, 2) := by decide +kernel
theorem dd_MO_extents_13 : decode bb_MO_extents 13 = .ok (.iload 4, 2) := by decide +kernel
theorem dd_MO_extents_15 : decode bb_MO_extents 15 = .ok (.bipush 60, 2) := by decide +kernel
theorem dd_MO_extents_17 : decode bb_MO_extents 17 = .ok (.iload_n 1, 1) := by decide +kernel
theorem dd_MO_extents_18 : decode bb_MO_extents 18 = .ok (.imul, 1) := by decide +kernel
theorem dd_MO_extents_19 : decode bb_MO_extents 19 = .ok (.bipush 60, 2) := by decide +kernel
theorem dd_MO_extents_21 : decode bb_MO_extents 21 = .ok (.iadd, 1) := by decide +kernel
theorem dd_MO_extents_22 : decode bb_MO_extents 22 = .ok (.if_icmp .ge 108, 3) := by decide +kernel
theorem dd_MO_extents_25 : decode bb_MO_extents 25 = .ok (.aload_n 0, 1) := by decide +kernel
theorem dd_MO_extents_26 : decode bb_MO_extents 26 = .ok (.getfield 7, 3) := by decide +kernel
theorem dd_MO_extents_29 : decode bb_MO_extents 29 = .ok (.iload 4, 2) := by decide +kernel
theorem dd_MO_extents_31 : decode bb_MO_extents 31 = .ok (.iaload, 1) := by decide +kernel
theorem dd_MO_extents_32 : decode bb_MO_extents 32 = .ok (.ifCond .lt 76, 3) := by decide +kernel
theorem dd_MO_extents_35 : decode bb_MO_extents 35 = .ok (.aload_n 0, 1) := by decide +kernel
theorem dd_MO_extents_36 : decode bb_MO_extents 36 = .ok (.getfield 39, 3) := by decide +kernel
theorem dd_MO_extents_39 : decode bb_MO_extents 39 = .ok (.ifCond .le 25, 3) := by decide +kernel
theorem dd_MO_extents_42 : decode bb_MO_extents 42 = .ok (.aload_n 0, 1) := by decide +kernel
theorem dd_MO_extents_43 : decode bb_MO_extents 43 = .ok (.getfield 39, 3) := by decide +kernel
theorem dd_MO_extents_46 : decode bb_MO_extents 46 = .ok (.bipush 8, 2) := by decide +kernel
theorem dd_MO_extents_48 : decode bb_MO_extents 48 = .ok (.if_icmp .ge 16, 3) := by decide +kernel
theorem dd_MO_extents_51 : decode bb_MO_extents 51 = .ok (.aload_n 0, 1) := by decide +kernel
theorem dd_MO_extents_52 : decode bb_MO_extents 52 = .ok (.iload 4, 2) := by decide +kernel
theorem dd_MO_extents_54 : decode bb_MO_extents 54 = .ok (.invokevirtual 42, 3) := by decide +kernel
theorem dd_MO_extents_57 : decode bb_MO_extents 57 = .ok (.ifCond .eq 7, 3) := by decide +kernel
theorem dd_MO_extents_60 : decode bb_MO_extents 60 = .ok (.iconst 1, 1) := by decide +kernel
theorem dd_MO_extents_61 : decode bb_MO_extents 61 = .ok (.goto 4, 3) := by decide +kernel
theorem dd_MO_extents_64 : decode bb_MO_extents 64 = .ok (.iconst 0, 1) := by decide +kernel
theorem dd_MO_extents_65 : decode bb_MO_extents 65 = .ok (.istore 5, 2) := by decide +kernel
theorem dd_MO_extents_67 : decode bb_MO_extents 67 = .ok (.iload 5, 2) := by decide +kernel
theorem dd_MO_extents_69 : decode bb_MO_extents 69 = .ok (.ifCond .ne 26, 3) := by decide +kernel
theorem dd_MO_extents_72 : decode bb_MO_extents 72 = .ok (.iload_n 3, 1) := by decide +kernel
theorem dd_MO_extents_73 : decode bb_MO_extents 73 = .ok (.iload_n 2, 1) := by decide +kernel
theorem dd_MO_extents_74 : decode bb_MO_extents 74 = .ok (.iconst 1, 1) := by decide +kernel
theorem dd_MO_extents_75 : decode bb_MO_extents 75 = .ok (.iadd, 1) := by decide +kernel
theorem dd_MO_extents_76 : decode bb_MO_extents 76 = .ok (.if_icmp .ne 5, 3) := by decide +kernel
theorem dd_MO_extents_79 : decode bb_MO_extents 79 = .ok (.iload_n 3, 1) := by decide +kernel
theorem dd_MO_extents_80 : decode bb_MO_extents 80 = .ok (.ireturn, 1) := by decide +kernel
theorem dd_MO_extents_81 : decode bb_MO_extents 81 = .ok (.iinc 3 1, 3) := by decide +kernel
theorem dd_MO_extents_84 : decode bb_MO_extents 84 = .ok (.aload_n 0, 1) := by decide +kernel
theorem dd_MO_extents_85 : decode bb_MO_extents 85 = .ok (.iload 4, 2) := by decide +kernel
theorem dd_MO_extents_87 : decode bb_MO_extents 87 = .ok (.putfield 46, 3) := by decide +kernel
theorem dd_MO_extents_90 : decode bb_MO_extents 90 = .ok (.aload_n 0, 1) := by decide +kernel
theorem dd_MO_extents_91 : decode bb_MO_extents 91 = .ok (.iconst 0, 1) := by decide +kernel
theorem dd_MO_extents_92 : decode bb_MO_extents 92 = .ok (.putfield 39, 3) := by decide +kernel
theorem dd_MO_extents_95 : decode bb_MO_extents 95 = .ok (.aload_n 0, 1) := by decide +kernel
theorem dd_MO_extents_96 : decode bb_MO_extents 96 = .ok (.dup, 1) := by decide +kernel
theorem dd_MO_extents_97 : decode bb_MO_extents 97 = .ok (.getfield 39, 3) := by decide +kernel
theorem dd_MO_extents_100 : decode bb_MO_extents 100 = .ok (.iconst 1, 1) := by decide +kernel
theorem dd_MO_extents_101 : decode bb_MO_extents 101 = .ok (.iadd, 1) := by decide +kernel
theorem dd_MO_extents_102 : decode bb_MO_extents 102 = .ok (.putfield 39, 3) := by decide +kernel
theorem dd_MO_extents_105 : decode bb_MO_extents 105 = .ok (.goto 19, 3) := by decide +kernel
theorem dd_MO_extents_108 : decode bb_MO_extents 108 = .ok (.aload_n 0, 1) := by decide +kernel
theorem dd_MO_extents_109 : decode bb_MO_extents 109 = .ok (.getfield 39, 3) := by decide +kernel
theorem dd_MO_extents_112 : decode bb_MO_extents 112 = .ok (.ifCond .le 12, 3) := by decide +kernel
theorem dd_MO_extents_115 : decode bb_MO_extents 115 = .ok (.iload_n 3, 1) := by decide +kernel
theorem dd_MO_extents_116 : decode bb_MO_extents 116 = .ok (.iload_n 2, 1) := by decide +kernel
theorem dd_MO_extents_117 : decode bb_MO_extents 117 = .ok (.iconst 1, 1) := by decide +kernel
theorem dd_MO_extents_118 : decode bb_MO_extents 118 = .ok (.iadd, 1) := by decide +kernel
theorem dd_MO_extents_119 : decode bb_MO_extents 119 = .ok (.if_icmp .ne 5, 3) := by decide +kernel
theorem dd_MO_extents_122 : decode bb_MO_extents 122 = .ok (.iload_n 3, 1) := by decide +kernel
theorem dd_MO_extents_123 : decode bb_MO_extents 123 = .ok (.ireturn, 1) := by decide +kernel
theorem dd_MO_extents_124 : decode bb_MO_extents 124 = .ok (.iinc 4 1, 3) := by decide +kernel
theorem dd_MO_extents_127 : decode bb_MO_extents 127 = .ok (.goto (-114), 3) := by decide +kernel
theorem dd_MO_extents_130 : decode bb_MO_extents 130 = .ok (.iload_n 3, 1) := by decide +kernel
theorem dd_MO_extents_131 : decode bb_MO_extents 131 = .ok (.ireturn, 1) := by decide +kernel
theorem dd_MO_tree_0 : decode bb_MO_tree 0 = .ok (.iload_n 0, 1) := by decide +kernel
theorem dd_MO_tree_1 : decode bb_MO_tree 1 = .ok (.iconst 3, 1) := by decide +kernel
theorem dd_MO_tree_2 : decode bb_MO_tree 2 = .ok (.if_icmp .gt 7, 3) := by decide +kernel
theorem dd_MO_tree_5 : decode bb_MO_tree 5 = .ok (.iconst 0, 1) := by decide +kernel
theorem dd_MO_tree_6 : decode bb_MO_tree 6 = .ok (.goto 8, 3) := by decide +kernel
theorem dd_MO_tree_9 : decode bb_MO_tree 9 = .ok (.iload_n 0, 1) := by decide +kernel
theorem dd_MO_tree_10 : decode bb_MO_tree 10 = .ok (.iconst 3, 1) := by decide +kernel
theorem dd_MO_tree_11 : decode bb_MO_tree 11 = .ok (.iadd, 1) := by decide +kernel
theorem dd_MO_tree_12 : decode bb_MO_tree 12 = .ok (.iconst 4, 1) := by decide +kernel
theorem dd_MO_tree_13 : decode bb_MO_tree 13 = .ok (.idiv, 1) := by decide +kernel
theorem dd_MO_tree_14 : decode bb_MO_tree 14 = .ok (.ireturn, 1) := by decide +kernel
theorem dd_MO_mappedOf_0 : decode bb_MO_mappedOf 0 = .ok (.iconst 0, 1) := by decide +kernel
theorem dd_MO_mappedOf_1 : decode bb_MO_mappedOf 1 = .ok (.istore_n 2, 1) := by decide +kernel
theorem dd_MO_mappedOf_2 : decode bb_MO_mappedOf 2 = .ok (.bipush 60, 2) := by decide +kernel
theorem dd_MO_mappedOf_4 : decode bb_MO_mappedOf 4 = .ok (.iload_n 1, 1) := by decide +kernel
theorem dd_MO_mappedOf_5 : decode bb_MO_mappedOf 5 = .ok (.imul, 1) := by decide +kernel
theorem dd_MO_mappedOf_6 : decode bb_MO_mappedOf 6 = .ok (.istore_n 3, 1) := by decide +kernel
theorem dd_MO_mappedOf_7 : decode bb_MO_mappedOf 7 = .ok (.iload_n 3, 1) := by decide +kernel
theorem dd_MO_mappedOf_8 : decode bb_MO_mappedOf 8 = .ok (.bipush 60, 2) := by decide +kernel
theorem dd_MO_mappedOf_10 : decode bb_MO_mappedOf 10 = .ok (.iload_n 1, 1) := by decide +kernel
theorem dd_MO_mappedOf_11 : decode bb_MO_mappedOf 11 = .ok (.imul, 1) := by decide +kernel
theorem dd_MO_mappedOf_12 : decode bb_MO_mappedOf 12 = .ok (.bipush 60, 2) := by decide +kernel
theorem dd_MO_mappedOf_14 : decode bb_MO_mappedOf 14 = .ok (.iadd, 1) := by decide +kernel
theorem dd_MO_mappedOf_15 : decode bb_MO_mappedOf 15 = .ok (.if_icmp .ge 26, 3) := by decide +kernel
theorem dd_MO_mappedOf_18 : decode bb_MO_mappedOf 18 = .ok (.aload_n 0, 1) := by decide +kernel
theorem dd_MO_mappedOf_19 : decode bb_MO_mappedOf 19 = .ok (.getfield 7, 3) := by decide +kernel
theorem dd_MO_mappedOf_22 : decode bb_MO_mappedOf 22 = .ok (.iload_n 3, 1) := by decide +kernel
theorem dd_MO_mappedOf_23 : decode bb_MO_mappedOf 23 = .ok (.iaload, 1) := by decide +kernel
theorem dd_MO_mappedOf_24 : decode bb_MO_mappedOf 24 = .ok (.ifCond .lt 9, 3) := by decide +kernel
theorem dd_MO_mappedOf_27 : decode bb_MO_mappedOf 27 = .ok (.iload_n 2, 1) := by decide +kernel
theorem dd_MO_mappedOf_28 : decode bb_MO_mappedOf 28 = .ok (.iconst 1, 1) := by decide +kernel
theorem dd_MO_mappedOf_29 : decode bb_MO_mappedOf 29 = .ok (.iadd, 1) := by decide +kernel
theorem dd_MO_mappedOf_30 : decode bb_MO_mappedOf 30 = .ok (.goto 4, 3) := by decide +kernel
theorem dd_MO_mappedOf_33 : decode bb_MO_mappedOf 33 = .ok (.iload_n 2, 1) := by decide +kernel
theorem dd_MO_mappedOf_34 : decode bb_MO_mappedOf 34 = .ok (.istore_n 2, 1) := by decide +kernel
theorem dd_MO_mappedOf_35 : decode bb_MO_mappedOf 35 = .ok (.iinc 3 1, 3) := by decide +kernel
theorem dd_MO_mappedOf_38 : decode bb_MO_mappedOf 38 = .ok (.goto (-31), 3) := by decide +kernel
theorem dd_MO_mappedOf_41 : decode bb_MO_mappedOf 41 = .ok (.iload_n 2, 1) := by decide +kernel
theorem dd_MO_mappedOf_42 : decode bb_MO_mappedOf 42 = .ok (.ireturn, 1) := by decide +kernel
theorem dd_MO_pagesOf_0 : decode bb_MO_pagesOf 0 = .ok (.iconst 0, 1) := by decide +kernel
theorem dd_MO_pagesOf_1 : decode bb_MO_pagesOf 1 = .ok (.istore_n 2, 1) := by decide +kernel
theorem dd_MO_pagesOf_2 : decode bb_MO_pagesOf 2 = .ok (.bipush 60, 2) := by decide +kernel
theorem dd_MO_pagesOf_4 : decode bb_MO_pagesOf 4 = .ok (.iload_n 1, 1) := by decide +kernel
theorem dd_MO_pagesOf_5 : decode bb_MO_pagesOf 5 = .ok (.imul, 1) := by decide +kernel
theorem dd_MO_pagesOf_6 : decode bb_MO_pagesOf 6 = .ok (.istore_n 3, 1) := by decide +kernel
theorem dd_MO_pagesOf_7 : decode bb_MO_pagesOf 7 = .ok (.iload_n 3, 1) := by decide +kernel
theorem dd_MO_pagesOf_8 : decode bb_MO_pagesOf 8 = .ok (.bipush 60, 2) := by decide +kernel
theorem dd_MO_pagesOf_10 : decode bb_MO_pagesOf 10 = .ok (.iload_n 1, 1) := by decide +kernel
theorem dd_MO_pagesOf_11 : decode bb_MO_pagesOf 11 = .ok (.imul, 1) := by decide +kernel
theorem dd_MO_pagesOf_12 : decode bb_MO_pagesOf 12 = .ok (.bipush 60, 2) := by decide +kernel
theorem dd_MO_pagesOf_14 : decode bb_MO_pagesOf 14 = .ok (.iadd, 1) := by decide +kernel
theorem dd_MO_pagesOf_15 : decode bb_MO_pagesOf 15 = .ok (.if_icmp .ge 26, 3) := by decide +kernel
theorem dd_MO_pagesOf_18 : decode bb_MO_pagesOf 18 = .ok (.aload_n 0, 1) := by decide +kernel
theorem dd_MO_pagesOf_19 : decode bb_MO_pagesOf 19 = .ok (.getfield 17, 3) := by decide +kernel
theorem dd_MO_pagesOf_22 : decode bb_MO_pagesOf 22 = .ok (.iload_n 3, 1) := by decide +kernel
theorem dd_MO_pagesOf_23 : decode bb_MO_pagesOf 23 = .ok (.baload, 1) := by decide +kernel
theorem dd_MO_pagesOf_24 : decode bb_MO_pagesOf 24 = .ok (.ifCond .eq 9, 3) := by decide +kernel
theorem dd_MO_pagesOf_27 : decode bb_MO_pagesOf 27 = .ok (.iload_n 2, 1) := by decide +kernel
theorem dd_MO_pagesOf_28 : decode bb_MO_pagesOf 28 = .ok (.iconst 1, 1) := by decide +kernel
theorem dd_MO_pagesOf_29 : decode bb_MO_pagesOf 29 = .ok (.iadd, 1) := by decide +kernel
theorem dd_MO_pagesOf_30 : decode bb_MO_pagesOf 30 = .ok (.goto 4, 3) := by decide +kernel
theorem dd_MO_pagesOf_33 : decode bb_MO_pagesOf 33 = .ok (.iload_n 2, 1) := by decide +kernel
theorem dd_MO_pagesOf_34 : decode bb_MO_pagesOf 34 = .ok (.istore_n 2, 1) := by decide +kernel
theorem dd_MO_pagesOf_35 : decode bb_MO_pagesOf 35 = .ok (.iinc 3 1, 3) := by decide +kernel
theorem dd_MO_pagesOf_38 : decode bb_MO_pagesOf 38 = .ok (.goto (-31), 3) := by decide +kernel
theorem dd_MO_pagesOf_41 : decode bb_MO_pagesOf 41 = .ok (.iload_n 2, 1) := by decide +kernel
theorem dd_MO_pagesOf_42 : decode bb_MO_pagesOf 42 = .ok (.ireturn, 1) := by decide +kernel
theorem dd_MO_reservedOf_0 : decode bb_MO_reservedOf 0 = .ok (.iconst 0, 1) := by decide +kernel
theorem dd_MO_reservedOf_1 : decode bb_MO_reservedOf 1 = .ok (.istore_n 2, 1) := by decide +kernel
theorem dd_MO_reservedOf_2 : decode bb_MO_reservedOf 2 = .ok (.iconst 0, 1) := by decide +kernel
theorem dd_MO_reservedOf_3 : decode bb_MO_reservedOf 3 = .ok (.istore_n 3, 1) := by decide +kernel
theorem dd_MO_reservedOf_4 : decode bb_MO_reservedOf 4 = .ok (.bipush 60, 2) := by decide +kernel
theorem dd_MO_reservedOf_6 : decode bb_MO_reservedOf 6 = .ok (.iload_n 1, 1) := by decide +kernel
theorem dd_MO_reservedOf_7 : decode bb_MO_reservedOf 7 = .ok (.imul, 1) := by decide +kernel
theorem dd_MO_reservedOf_8 : decode bb_MO_reservedOf 8 = .ok (.istore 4, 2) := by decide +kernel
theorem dd_MO_reservedOf_10 : decode bb_MO_reservedOf 10 = .ok (.iload 4, 2) := by decide +kernel
theorem dd_MO_reservedOf_12 : decode bb_MO_reservedOf 12 = .ok (.bipush 60, 2) := by decide +kernel
theorem dd_MO_reservedOf_14 : decode bb_MO_reservedOf 14 = .ok (.iload_n 1, 1) := by decide +kernel
theorem dd_MO_reservedOf_15 : decode bb_MO_reservedOf 15 = .ok (.imul, 1) := by decide +kernel
theorem dd_MO_reservedOf_16 : decode bb_MO_reservedOf 16 = .ok (.bipush 60, 2) := by decide +kernel
theorem dd_MO_reservedOf_18 : decode bb_MO_reservedOf 18 = .ok (.iadd, 1) := by decide +kernel
theorem dd_MO_reservedOf_19 : decode bb_MO_reservedOf 19 = .ok (.if_icmp .ge 75, 3) := by decide +kernel
theorem dd_MO_reservedOf_22 : decode bb_MO_reservedOf 22 = .ok (.aload_n 0, 1) := by decide +kernel
theorem dd_MO_reservedOf_23 : decode bb_MO_reservedOf 23 = .ok (.getfield 17, 3) := by decide +kernel
theorem dd_MO_reservedOf_26 : decode bb_MO_reservedOf 26 = .ok (.iload 4, 2) := by decide +kernel
theorem dd_MO_reservedOf_28 : decode bb_MO_reservedOf 28 = .ok (.baload, 1) := by decide +kernel
theorem dd_MO_reservedOf_29 : decode bb_MO_reservedOf 29 = .ok (.ifCond .eq 19, 3) := by decide +kernel
theorem dd_MO_reservedOf_32 : decode bb_MO_reservedOf 32 = .ok (.aload_n 0, 1) := by decide +kernel
theorem dd_MO_reservedOf_33 : decode bb_MO_reservedOf 33 = .ok (.getfield 7, 3) := by decide +kernel
theorem dd_MO_reservedOf_36 : decode bb_MO_reservedOf 36 = .ok (.iload 4, 2) := by decide +kernel
theorem dd_MO_reservedOf_38 : decode bb_MO_reservedOf 38 = .ok (.iaload, 1) := by decide +kernel
theorem dd_MO_reservedOf_39 : decode bb_MO_reservedOf 39 = .ok (.ifCond .ge 9, 3) := by decide +kernel
theorem dd_MO_reservedOf_42 : decode bb_MO_reservedOf 42 = .ok (.iload_n 2, 1) := by decide +kernel
theorem dd_MO_reservedOf_43 : decode bb_MO_reservedOf 43 = .ok (.iconst 1, 1) := by decide +kernel
theorem dd_MO_reservedOf_44 : decode bb_MO_reservedOf 44 = .ok (.iadd, 1) := by decide +kernel
theorem dd_MO_reservedOf_45 : decode bb_MO_reservedOf 45 = .ok (.goto 4, 3) := by decide +kernel
theorem dd_MO_reservedOf_48 : decode bb_MO_reservedOf 48 = .ok (.iload_n 2, 1) := by decide +kernel
theorem dd_MO_reservedOf_49 : decode bb_MO_reservedOf 49 = .ok (.istore_n 2, 1) := by decide +kernel
theorem dd_MO_reservedOf_50 : decode bb_MO_reservedOf 50 = .ok (.aload_n 0, 1) := by decide +kernel
theorem dd_MO_reservedOf_51 : decode bb_MO_reservedOf 51 = .ok (.getfield 17, 3) := by decide +kernel
theorem dd_MO_reservedOf_54 : decode bb_MO_reservedOf 54 = .ok (.iload 4, 2) := by decide +kernel
theorem dd_MO_reservedOf_56 : decode bb_MO_reservedOf 56 = .ok (.baload, 1) := by decide +kernel
theorem dd_MO_reservedOf_57 : decode bb_MO_reservedOf 57 = .ok (.ifCond .eq 29, 3) := by decide +kernel
theorem dd_MO_reservedOf_60 : decode bb_MO_reservedOf 60 = .ok (.aload_n 0, 1) := by decide +kernel
theorem dd_MO_reservedOf_61 : decode bb_MO_reservedOf 61 = .ok (.getfield 7, 3) := by decide +kernel
theorem dd_MO_reservedOf_64 : decode bb_MO_reservedOf 64 = .ok (.iload 4, 2) := by decide +kernel
theorem dd_MO_reservedOf_66 : decode bb_MO_reservedOf 66 = .ok (.iaload, 1) := by decide +kernel
theorem dd_MO_reservedOf_67 : decode bb_MO_reservedOf 67 = .ok (.ifCond .lt 19, 3) := by decide +kernel
theorem dd_MO_reservedOf_70 : decode bb_MO_reservedOf 70 = .ok (.aload_n 0, 1) := by decide +kernel
theorem dd_MO_reservedOf_71 : decode bb_MO_reservedOf 71 = .ok (.getfield 13, 3) := by decide +kernel
theorem dd_MO_reservedOf_74 : decode bb_MO_reservedOf 74 = .ok (.iload 4, 2) := by decide +kernel
theorem dd_MO_reservedOf_76 : decode bb_MO_reservedOf 76 = .ok (.baload, 1) := by decide +kernel
theorem dd_MO_reservedOf_77 : decode bb_MO_reservedOf 77 = .ok (.ifCond .ne 9, 3) := by decide +kernel
theorem dd_MO_reservedOf_80 : decode bb_MO_reservedOf 80 = .ok (.iload_n 3, 1) := by decide +kernel
theorem dd_MO_reservedOf_81 : decode bb_MO_reservedOf 81 = .ok (.iconst 1, 1) := by decide +kernel
theorem dd_MO_reservedOf_82 : decode bb_MO_reservedOf 82 = .ok (.iadd, 1) := by decide +kernel
theorem dd_MO_reservedOf_83 : decode bb_MO_reservedOf 83 = .ok (.goto 4, 3) := by decide +kernel
theorem dd_MO_reservedOf_86 : decode bb_MO_reservedOf 86 = .ok (.iload_n 3, 1) := by decide +kernel
theorem dd_MO_reservedOf_87 : decode bb_MO_reservedOf 87 = .ok (.istore_n 3, 1) := by decide +kernel
theorem dd_MO_reservedOf_88 : decode bb_MO_reservedOf 88 = .ok (.iinc 4 1, 3) := by decide +kernel
theorem dd_MO_reservedOf_91 : decode bb_MO_reservedOf 91 = .ok (.goto (-81), 3) := by decide +kernel
theorem dd_MO_reservedOf_94 : decode bb_MO_reservedOf 94 = .ok (.aload_n 0, 1) := by decide +kernel
theorem dd_MO_reservedOf_95 : decode bb_MO_reservedOf 95 = .ok (.iload_n 1, 1) := by decide +kernel
theorem dd_MO_reservedOf_96 : decode bb_MO_reservedOf 96 = .ok (.bipush 60, 2) := by decide +kernel
theorem dd_MO_reservedOf_98 : decode bb_MO_reservedOf 98 = .ok (.invokevirtual 49, 3) := by decide +kernel
theorem dd_MO_reservedOf_101 : decode bb_MO_reservedOf 101 = .ok (.istore 4, 2) := by decide +kernel
theorem dd_MO_reservedOf_103 : decode bb_MO_reservedOf 103 = .ok (.iload_n 2, 1) := by decide +kernel
theorem dd_MO_reservedOf_104 : decode bb_MO_reservedOf 104 = .ok (.iload 4, 2) := by decide +kernel
theorem dd_MO_reservedOf_106 : decode bb_MO_reservedOf 106 = .ok (.iload_n 2, 1) := by decide +kernel
theorem dd_MO_reservedOf_107 : decode bb_MO_reservedOf 107 = .ok (.iadd, 1) := by decide +kernel
theorem dd_MO_reservedOf_108 : decode bb_MO_reservedOf 108 = .ok (.iconst 2, 1) := by decide +kernel
theorem dd_MO_reservedOf_109 : decode bb_MO_reservedOf 109 = .ok (.iload_n 3, 1) := by decide +kernel
theorem dd_MO_reservedOf_110 : decode bb_MO_reservedOf 110 = .ok (.imul, 1) := by decide +kernel
theorem dd_MO_reservedOf_111 : decode bb_MO_reservedOf 111 = .ok (.iadd, 1) := by decide +kernel
theorem dd_MO_reservedOf_112 : decode bb_MO_reservedOf 112 = .ok (.invokestatic 53, 3) := by decide +kernel
theorem dd_MO_reservedOf_115 : decode bb_MO_reservedOf 115 = .ok (.iadd, 1) := by decide +kernel
theorem dd_MO_reservedOf_116 : decode bb_MO_reservedOf 116 = .ok (.iload 4, 2) := by decide +kernel
theorem dd_MO_reservedOf_118 : decode bb_MO_reservedOf 118 = .ok (.invokestatic 53, 3) := by decide +kernel
theorem dd_MO_reservedOf_121 : decode bb_MO_reservedOf 121 = .ok (.isub, 1) := by decide +kernel
theorem dd_MO_reservedOf_122 : decode bb_MO_reservedOf 122 = .ok (.ireturn, 1) := by decide +kernel
theorem dd_MO_allReserved_0 : decode bb_MO_allReserved 0 = .ok (.iconst 0, 1) := by decide +kernel
theorem dd_MO_allReserved_1 : decode bb_MO_allReserved 1 = .ok (.istore_n 1, 1) := by decide +kernel
theorem dd_MO_allReserved_2 : decode bb_MO_allReserved 2 = .ok (.iconst 0, 1) := by decide +kernel
theorem dd_MO_allReserved_3 : decode bb_MO_allReserved 3 = .ok (.istore_n 2, 1) := by decide +kernel
theorem dd_MO_allReserved_4 : decode bb_MO_allReserved 4 = .ok (.iload_n 2, 1) := by decide +kernel
theorem dd_MO_allReserved_5 : decode bb_MO_allReserved 5 = .ok (.iconst 4, 1) := by decide +kernel
theorem dd_MO_allReserved_6 : decode bb_MO_allReserved 6 = .ok (.if_icmp .ge 17, 3) := by decide +kernel
theorem dd_MO_allReserved_9 : decode bb_MO_allReserved 9 = .ok (.iload_n 1, 1) := by decide +kernel
theorem dd_MO_allReserved_10 : decode bb_MO_allReserved 10 = .ok (.aload_n 0, 1) := by decide +kernel
theorem dd_MO_allReserved_11 : decode bb_MO_allReserved 11 = .ok (.iload_n 2, 1) := by decide +kernel
theorem dd_MO_allReserved_12 : decode bb_MO_allReserved 12 = .ok (.invokevirtual 57, 3) := by decide +kernel
theorem dd_MO_allReserved_15 : decode bb_MO_allReserved 15 = .ok (.iadd, 1) := by decide +kernel
theorem dd_MO_allReserved_16 : decode bb_MO_allReserved 16 = .ok (.istore_n 1, 1) := by decide +kernel
theorem dd_MO_allReserved_17 : decode bb_MO_allReserved 17 = .ok (.iinc 2 1, 3) := by decide +kernel
theorem dd_MO_allReserved_20 : decode bb_MO_allReserved 20 = .ok (.goto (-16), 3) := by decide +kernel
theorem dd_MO_allReserved_23 : decode bb_MO_allReserved 23 = .ok (.iload_n 1, 1) := by decide +kernel
theorem dd_MO_allReserved_24 : decode bb_MO_allReserved 24 = .ok (.ireturn, 1) := by decide +kernel
theorem dd_MO_allFree_0 : decode bb_MO_allFree 0 = .ok (.bipush 80, 2) := by decide +kernel
theorem dd_MO_allFree_2 : decode bb_MO_allFree 2 = .ok (.istore_n 1, 1) := by decide +kernel
theorem dd_MO_allFree_3 : decode bb_MO_allFree 3 = .ok (.iconst 0, 1) := by decide +kernel
theorem dd_MO_allFree_4 : decode bb_MO_allFree 4 = .ok (.istore_n 2, 1) := by decide +kernel
theorem dd_MO_allFree_5 : decode bb_MO_allFree 5 = .ok (.iload_n 2, 1) := by decide +kernel
theorem dd_MO_allFree_6 : decode bb_MO_allFree 6 = .ok (.iconst 4, 1) := by decide +kernel
theorem dd_MO_allFree_7 : decode bb_MO_allFree 7 = .ok (.if_icmp .ge 28, 3) := by decide +kernel
theorem dd_MO_allFree_10 : decode bb_MO_allFree 10 = .ok (.iload_n 1, 1) := by decide +kernel
theorem dd_MO_allFree_11 : decode bb_MO_allFree 11 = .ok (.aload_n 0, 1) := by decide +kernel
theorem dd_MO_allFree_12 : decode bb_MO_allFree 12 = .ok (.iload_n 2, 1) := by decide +kernel
theorem dd_MO_allFree_13 : decode bb_MO_allFree 13 = .ok (.invokevirtual 60, 3) := by decide +kernel
theorem dd_MO_allFree_16 : decode bb_MO_allFree 16 = .ok (.isub, 1) := by decide +kernel
theorem dd_MO_allFree_17 : decode bb_MO_allFree 17 = .ok (.aload_n 0, 1) := by decide +kernel
theorem dd_MO_allFree_18 : decode bb_MO_allFree 18 = .ok (.iload_n 2, 1) := by decide +kernel
theorem dd_MO_allFree_19 : decode bb_MO_allFree 19 = .ok (.bipush 60, 2) := by decide +kernel
theorem dd_MO_allFree_21 : decode bb_MO_allFree 21 = .ok (.invokevirtual 49, 3) := by decide +kernel
theorem dd_MO_allFree_24 : decode bb_MO_allFree 24 = .ok (.invokestatic 53, 3) := by decide +kernel
theorem dd_MO_allFree_27 : decode bb_MO_allFree 27 = .ok (.isub, 1) := by decide +kernel
theorem dd_MO_allFree_28 : decode bb_MO_allFree 28 = .ok (.istore_n 1, 1) := by decide +kernel
theorem dd_MO_allFree_29 : decode bb_MO_allFree 29 = .ok (.iinc 2 1, 3) := by decide +kernel
theorem dd_MO_allFree_32 : decode bb_MO_allFree 32 = .ok (.goto (-27), 3) := by decide +kernel
theorem dd_MO_allFree_35 : decode bb_MO_allFree 35 = .ok (.iload_n 1, 1) := by decide +kernel
theorem dd_MO_allFree_36 : decode bb_MO_allFree 36 = .ok (.ireturn, 1) := by decide +kernel
theorem dd_MO_map_0 : decode bb_MO_map 0 = .ok (.aload_n 0, 1) := by decide +kernel
theorem dd_MO_map_1 : decode bb_MO_map 1 = .ok (.getfield 7, 3) := by decide +kernel
theorem dd_MO_map_4 : decode bb_MO_map 4 = .ok (.iload_n 1, 1) := by decide +kernel
theorem dd_MO_map_5 : decode bb_MO_map 5 = .ok (.iload_n 2, 1) := by decide +kernel
theorem dd_MO_map_6 : decode bb_MO_map 6 = .ok (.iastore, 1) := by decide +kernel
theorem dd_MO_map_7 : decode bb_MO_map 7 = .ok (.aload_n 0, 1) := by decide +kernel
theorem dd_MO_map_8 : decode bb_MO_map 8 = .ok (.getfield 26, 3) := by decide +kernel
theorem dd_MO_map_11 : decode bb_MO_map 11 = .ok (.iload_n 2, 1) := by decide +kernel
theorem dd_MO_map_12 : decode bb_MO_map 12 = .ok (.iload_n 1, 1) := by decide +kernel
theorem dd_MO_map_13 : decode bb_MO_map 13 = .ok (.iastore, 1) := by decide +kernel
theorem dd_MO_map_14 : decode bb_MO_map 14 = .ok (.aload_n 0, 1) := by decide +kernel
theorem dd_MO_map_15 : decode bb_MO_map 15 = .ok (.getfield 13, 3) := by decide +kernel
theorem dd_MO_map_18 : decode bb_MO_map 18 = .ok (.iload_n 1, 1) := by decide +kernel
theorem dd_MO_map_19 : decode bb_MO_map 19 = .ok (.iconst 0, 1) := by decide +kernel
theorem dd_MO_map_20 : decode bb_MO_map 20 = .ok (.bastore, 1) := by decide +kernel
theorem dd_MO_map_21 : decode bb_MO_map 21 = .ok (.return_, 1) := by decide +kernel
theorem dd_MO_unmap_0 : decode bb_MO_unmap 0 = .ok (.aload_n 0, 1) := by decide +kernel
theorem dd_MO_unmap_1 : decode bb_MO_unmap 1 = .ok (.getfield 7, 3) := by decide +kernel
theorem dd_MO_unmap_4 : decode bb_MO_unmap 4 = .ok (.iload_n 1, 1) := by decide +kernel
theorem dd_MO_unmap_5 : decode bb_MO_unmap 5 = .ok (.iaload, 1) := by decide +kernel
theorem dd_MO_unmap_6 : decode bb_MO_unmap 6 = .ok (.ifCond .lt 15, 3) := by decide +kernel
theorem dd_MO_unmap_9 : decode bb_MO_unmap 9 = .ok (.aload_n 0, 1) := by decide +kernel
theorem dd_MO_unmap_10 : decode bb_MO_unmap 10 = .ok (.getfield 26, 3) := by decide +kernel
theorem dd_MO_unmap_13 : decode bb_MO_unmap 13 = .ok (.aload_n 0, 1) := by decide +kernel
theorem dd_MO_unmap_14 : decode bb_MO_unmap 14 = .ok (.getfield 7, 3) := by decide +kernel
theorem dd_MO_unmap_17 : decode bb_MO_unmap 17 = .ok (.iload_n 1, 1) := by decide +kernel
theorem dd_MO_unmap_18 : decode bb_MO_unmap 18 = .ok (.iaload, 1) := by decide +kernel
theorem dd_MO_unmap_19 : decode bb_MO_unmap 19 = .ok (.iconst (-1), 1) := by decide +kernel
theorem dd_MO_unmap_20 : decode bb_MO_unmap 20 = .ok (.iastore, 1) := by decide +kernel
theorem dd_MO_unmap_21 : decode bb_MO_unmap 21 = .ok (.aload_n 0, 1) := by decide +kernel
theorem dd_MO_unmap_22 : decode bb_MO_unmap 22 = .ok (.getfield 7, 3) := by decide +kernel
theorem dd_MO_unmap_25 : decode bb_MO_unmap 25 = .ok (.iload_n 1, 1) := by decide +kernel
theorem dd_MO_unmap_26 : decode bb_MO_unmap 26 = .ok (.iconst (-1), 1) := by decide +kernel
theorem dd_MO_unmap_27 : decode bb_MO_unmap 27 = .ok (.iastore, 1) := by decide +kernel
theorem dd_MO_unmap_28 : decode bb_MO_unmap 28 = .ok (.aload_n 0, 1) := by decide +kernel
theorem dd_MO_unmap_29 : decode bb_MO_unmap 29 = .ok (.getfield 13, 3) := by decide +kernel
theorem dd_MO_unmap_32 : decode bb_MO_unmap 32 = .ok (.iload_n 1, 1) := by decide +kernel
theorem dd_MO_unmap_33 : decode bb_MO_unmap 33 = .ok (.iconst 0, 1) := by decide +kernel
theorem dd_MO_unmap_34 : decode bb_MO_unmap 34 = .ok (.bastore, 1) := by decide +kernel
theorem dd_MO_unmap_35 : decode bb_MO_unmap 35 = .ok (.return_, 1) := by decide +kernel
theorem dd_MO_room_0 : decode bb_MO_room 0 = .ok (.iconst 0, 1) := by decide +kernel
theorem dd_MO_room_1 : decode bb_MO_room 1 = .ok (.istore_n 2, 1) := by decide +kernel
theorem dd_MO_room_2 : decode bb_MO_room 2 = .ok (.iload_n 1, 1) := by decide +kernel
theorem dd_MO_room_3 : decode bb_MO_room 3 = .ok (.iload_n 2, 1) := by decide +kernel
theorem dd_MO_room_4 : decode bb_MO_room 4 = .ok (.iadd, 1) := by decide +kernel
theorem dd_MO_room_5 : decode bb_MO_room 5 = .ok (.bipush 80, 2) := by decide +kernel
theorem dd_MO_room_7 : decode bb_MO_room 7 = .ok (.if_icmp .ge 20, 3) := by decide +kernel
theorem dd_MO_room_10 : decode bb_MO_room 10 = .ok (.aload_n 0, 1) := by decide +kernel
theorem dd_MO_room_11 : decode bb_MO_room 11 = .ok (.getfield 26, 3) := by decide +kernel
theorem dd_MO_room_14 : decode bb_MO_room 14 = .ok (.iload_n 1, 1) := by decide +kernel
theorem dd_MO_room_15 : decode bb_MO_room 15 = .ok (.iload_n 2, 1) := by decide +kernel
theorem dd_MO_room_16 : decode bb_MO_room 16 = .ok (.iadd, 1) := by decide +kernel
theorem dd_MO_room_17 : decode bb_MO_room 17 = .ok (.iaload, 1) := by decide +kernel
theorem dd_MO_room_18 : decode bb_MO_room 18 = .ok (.ifCond .ge 9, 3) := by decide +kernel
theorem dd_MO_room_21 : decode bb_MO_room 21 = .ok (.iinc 2 1, 3) := by decide +kernel
theorem dd_MO_room_24 : decode bb_MO_room 24 = .ok (.goto (-22), 3) := by decide +kernel
theorem dd_MO_room_27 : decode bb_MO_room 27 = .ok (.iload_n 2, 1) := by decide +kernel
theorem dd_MO_room_28 : decode bb_MO_room 28 = .ok (.ireturn, 1) := by decide +kernel
theorem dd_MO_bestFor_0 : decode bb_MO_bestFor 0 = .ok (.iconst (-1), 1) := by decide +kernel
theorem dd_MO_bestFor_1 : decode bb_MO_bestFor 1 = .ok (.istore_n 2, 1) := by decide +kernel
theorem dd_MO_bestFor_2 : decode bb_MO_bestFor 2 = .ok (.iconst 0, 1) := by decide +kernel
theorem dd_MO_bestFor_3 : decode bb_MO_bestFor 3 = .ok (.istore_n 3, 1) := by decide +kernel
theorem dd_MO_bestFor_4 : decode bb_MO_bestFor 4 = .ok (.iconst 0, 1) := by decide +kernel
theorem dd_MO_bestFor_5 : decode bb_MO_bestFor 5 = .ok (.istore 4, 2) := by decide +kernel
theorem dd_MO_bestFor_7 : decode bb_MO_bestFor 7 = .ok (.iload 4, 2) := by decide +kernel
theorem dd_MO_bestFor_9 : decode bb_MO_bestFor 9 = .ok (.bipush 80, 2) := by decide +kernel
theorem dd_MO_bestFor_11 : decode bb_MO_bestFor 11 = .ok (.if_icmp .ge 88, 3) := by decide +kernel
theorem dd_MO_bestFor_14 : decode bb_MO_bestFor 14 = .ok (.aload_n 0, 1) := by decide +kernel
theorem dd_MO_bestFor_15 : decode bb_MO_bestFor 15 = .ok (.iload 4, 2) := by decide +kernel
theorem dd_MO_bestFor_17 : decode bb_MO_bestFor 17 = .ok (.invokevirtual 63, 3) := by decide +kernel
theorem dd_MO_bestFor_20 : decode bb_MO_bestFor 20 = .ok (.istore 5, 2) := by decide +kernel
theorem dd_MO_bestFor_22 : decode bb_MO_bestFor 22 = .ok (.iload 5, 2) := by decide +kernel
theorem dd_MO_bestFor_24 : decode bb_MO_bestFor 24 = .ok (.ifCond .le 69, 3) := by decide +kernel
theorem dd_MO_bestFor_27 : decode bb_MO_bestFor 27 = .ok (.iload 4, 2) := by decide +kernel
theorem dd_MO_bestFor_29 : decode bb_MO_bestFor 29 = .ok (.ifCond .eq 15, 3) := by decide +kernel
theorem dd_MO_bestFor_32 : decode bb_MO_bestFor 32 = .ok (.aload_n 0, 1) := by decide +kernel
theorem dd_MO_bestFor_33 : decode bb_MO_bestFor 33 = .ok (.getfield 26, 3) := by decide +kernel
theorem dd_MO_bestFor_36 : decode bb_MO_bestFor 36 = .ok (.iload 4, 2) := by decide +kernel
theorem dd_MO_bestFor_38 : decode bb_MO_bestFor 38 = .ok (.iconst 1, 1) := by decide +kernel
theorem dd_MO_bestFor_39 : decode bb_MO_bestFor 39 = .ok (.isub, 1) := by decide +kernel
theorem dd_MO_bestFor_40 : decode bb_MO_bestFor 40 = .ok (.iaload, 1) := by decide +kernel
theorem dd_MO_bestFor_41 : decode bb_MO_bestFor 41 = .ok (.ifCond .lt 52, 3) := by decide +kernel
theorem dd_MO_bestFor_44 : decode bb_MO_bestFor 44 = .ok (.iload_n 3, 1) := by decide +kernel
theorem dd_MO_bestFor_45 : decode bb_MO_bestFor 45 = .ok (.iload_n 1, 1) := by decide +kernel
theorem dd_MO_bestFor_46 : decode bb_MO_bestFor 46 = .ok (.if_icmp .lt 23, 3) := by decide +kernel
theorem dd_MO_bestFor_49 : decode bb_MO_bestFor 49 = .ok (.iload 5, 2) := by decide +kernel
theorem dd_MO_bestFor_51 : decode bb_MO_bestFor 51 = .ok (.iload_n 1, 1) := by decide +kernel
theorem dd_MO_bestFor_52 : decode bb_MO_bestFor 52 = .ok (.if_icmp .lt 13, 3) := by decide +kernel
theorem dd_MO_bestFor_55 : decode bb_MO_bestFor 55 = .ok (.iload 5, 2) := by decide +kernel
theorem dd_MO_bestFor_57 : decode bb_MO_bestFor 57 = .ok (.iload_n 3, 1) := by decide +kernel
theorem dd_MO_bestFor_58 : decode bb_MO_bestFor 58 = .ok (.if_icmp .ge 7, 3) := by decide +kernel
theorem dd_MO_bestFor_61 : decode bb_MO_bestFor 61 = .ok (.iconst 1, 1) := by decide +kernel
theorem dd_MO_bestFor_62 : decode bb_MO_bestFor 62 = .ok (.goto 18, 3) := by decide +kernel
theorem dd_MO_bestFor_65 : decode bb_MO_bestFor 65 = .ok (.iconst 0, 1) := by decide +kernel
theorem dd_MO_bestFor_66 : decode bb_MO_bestFor 66 = .ok (.goto 14, 3) := by decide +kernel
theorem dd_MO_bestFor_69 : decode bb_MO_bestFor 69 = .ok (.iload 5, 2) := by decide +kernel
theorem dd_MO_bestFor_71 : decode bb_MO_bestFor 71 = .ok (.iload_n 3, 1) := by decide +kernel
theorem dd_MO_bestFor_72 : decode bb_MO_bestFor 72 = .ok (.if_icmp .le 7, 3) := by decide +kernel
theorem dd_MO_bestFor_75 : decode bb_MO_bestFor 75 = .ok (.iconst 1, 1) := by decide +kernel
theorem dd_MO_bestFor_76 : decode bb_MO_bestFor 76 = .ok (.goto 4, 3) := by decide +kernel
theorem dd_MO_bestFor_79 : decode bb_MO_bestFor 79 = .ok (.iconst 0, 1) := by decide +kernel
theorem dd_MO_bestFor_80 : decode bb_MO_bestFor 80 = .ok (.istore 6, 2) := by decide +kernel
theorem dd_MO_bestFor_82 : decode bb_MO_bestFor 82 = .ok (.iload 6, 2) := by decide +kernel
theorem dd_MO_bestFor_84 : decode bb_MO_bestFor 84 = .ok (.ifCond .eq 9, 3) := by decide +kernel
theorem dd_MO_bestFor_87 : decode bb_MO_bestFor 87 = .ok (.iload 4, 2) := by decide +kernel
theorem dd_MO_bestFor_89 : decode bb_MO_bestFor 89 = .ok (.istore_n 2, 1) := by decide +kernel
theorem dd_MO_bestFor_90 : decode bb_MO_bestFor 90 = .ok (.iload 5, 2) := by decide +kernel
theorem dd_MO_bestFor_92 : decode bb_MO_bestFor 92 = .ok (.istore_n 3, 1) := by decide +kernel
theorem dd_MO_bestFor_93 : decode bb_MO_bestFor 93 = .ok (.iinc 4 1, 3) := by decide +kernel
theorem dd_MO_bestFor_96 : decode bb_MO_bestFor 96 = .ok (.goto (-89), 3) := by decide +kernel
theorem dd_MO_bestFor_99 : decode bb_MO_bestFor 99 = .ok (.iload_n 2, 1) := by decide +kernel
theorem dd_MO_bestFor_100 : decode bb_MO_bestFor 100 = .ok (.ireturn, 1) := by decide +kernel
theorem dd_MO_mapRow_0 : decode bb_MO_mapRow 0 = .ok (.iconst 0, 1) := by decide +kernel
theorem dd_MO_mapRow_1 : decode bb_MO_mapRow 1 = .ok (.istore_n 3, 1) := by decide +kernel
theorem dd_MO_mapRow_2 : decode bb_MO_mapRow 2 = .ok (.iload_n 1, 1) := by decide +kernel
theorem dd_MO_mapRow_3 : decode bb_MO_mapRow 3 = .ok (.bipush 60, 2) := by decide +kernel
theorem dd_MO_mapRow_5 : decode bb_MO_mapRow 5 = .ok (.irem, 1) := by decide +kernel
theorem dd_MO_mapRow_6 : decode bb_MO_mapRow 6 = .ok (.ifCond .le 66, 3) := by decide +kernel
theorem dd_MO_mapRow_9 : decode bb_MO_mapRow 9 = .ok (.aload_n 0, 1) := by decide +kernel
theorem dd_MO_mapRow_10 : decode bb_MO_mapRow 10 = .ok (.getfield 7, 3) := by decide +kernel
theorem dd_MO_mapRow_13 : decode bb_MO_mapRow 13 = .ok (.iload_n 1, 1) := by decide +kernel
theorem dd_MO_mapRow_14 : decode bb_MO_mapRow 14 = .ok (.iconst 1, 1) := by decide +kernel
theorem dd_MO_mapRow_15 : decode bb_MO_mapRow 15 = .ok (.isub, 1) := by decide +kernel
theorem dd_MO_mapRow_16 : decode bb_MO_mapRow 16 = .ok (.iaload, 1) := by decide +kernel
theorem dd_MO_mapRow_17 : decode bb_MO_mapRow 17 = .ok (.ifCond .lt 55, 3) := by decide +kernel
theorem dd_MO_mapRow_20 : decode bb_MO_mapRow 20 = .ok (.aload_n 0, 1) := by decide +kernel
theorem dd_MO_mapRow_21 : decode bb_MO_mapRow 21 = .ok (.getfield 7, 3) := by decide +kernel
theorem dd_MO_mapRow_24 : decode bb_MO_mapRow 24 = .ok (.iload_n 1, 1) := by decide +kernel
theorem dd_MO_mapRow_25 : decode bb_MO_mapRow 25 = .ok (.iconst 1, 1) := by decide +kernel
theorem dd_MO_mapRow_26 : decode bb_MO_mapRow 26 = .ok (.isub, 1) := by decide +kernel
theorem dd_MO_mapRow_27 : decode bb_MO_mapRow 27 = .ok (.iaload, 1) := by decide +kernel
theorem dd_MO_mapRow_28 : decode bb_MO_mapRow 28 = .ok (.iconst 1, 1) := by decide +kernel
theorem dd_MO_mapRow_29 : decode bb_MO_mapRow 29 = .ok (.iadd, 1) := by decide +kernel
theorem dd_MO_mapRow_30 : decode bb_MO_mapRow 30 = .ok (.istore 4, 2) := by decide +kernel
theorem dd_MO_mapRow_32 : decode bb_MO_mapRow 32 = .ok (.iload_n 3, 1) := by decide +kernel
theorem dd_MO_mapRow_33 : decode bb_MO_mapRow 33 = .ok (.iload_n 2, 1) := by decide +kernel
theorem dd_MO_mapRow_34 : decode bb_MO_mapRow 34 = .ok (.if_icmp .ge 38, 3) := by decide +kernel
theorem dd_MO_mapRow_37 : decode bb_MO_mapRow 37 = .ok (.iload 4, 2) := by decide +kernel
theorem dd_MO_mapRow_39 : decode bb_MO_mapRow 39 = .ok (.bipush 80, 2) := by decide +kernel
theorem dd_MO_mapRow_41 : decode bb_MO_mapRow 41 = .ok (.if_icmp .ge 31, 3) := by decide +kernel
theorem dd_MO_mapRow_44 : decode bb_MO_mapRow 44 = .ok (.aload_n 0, 1) := by decide +kernel
theorem dd_MO_mapRow_45 : decode bb_MO_mapRow 45 = .ok (.getfield 26, 3) := by decide +kernel
theorem dd_MO_mapRow_48 : decode bb_MO_mapRow 48 = .ok (.iload 4, 2) := by decide +kernel
theorem dd_MO_mapRow_50 : decode bb_MO_mapRow 50 = .ok (.iaload, 1) := by decide +kernel
theorem dd_MO_mapRow_51 : decode bb_MO_mapRow 51 = .ok (.ifCond .ge 21, 3) := by decide +kernel
theorem dd_MO_mapRow_54 : decode bb_MO_mapRow 54 = .ok (.aload_n 0, 1) := by decide +kernel
theorem dd_MO_mapRow_55 : decode bb_MO_mapRow 55 = .ok (.iload_n 1, 1) := by decide +kernel
theorem dd_MO_mapRow_56 : decode bb_MO_mapRow 56 = .ok (.iload_n 3, 1) := by decide +kernel
theorem dd_MO_mapRow_57 : decode bb_MO_mapRow 57 = .ok (.iadd, 1) := by decide +kernel
theorem dd_MO_mapRow_58 : decode bb_MO_mapRow 58 = .ok (.iload 4, 2) := by decide +kernel
theorem dd_MO_mapRow_60 : decode bb_MO_mapRow 60 = .ok (.invokevirtual 66, 3) := by decide +kernel
theorem dd_MO_mapRow_63 : decode bb_MO_mapRow 63 = .ok (.iinc 3 1, 3) := by decide +kernel
theorem dd_MO_mapRow_66 : decode bb_MO_mapRow 66 = .ok (.iinc 4 1, 3) := by decide +kernel
theorem dd_MO_mapRow_69 : decode bb_MO_mapRow 69 = .ok (.goto (-37), 3) := by decide +kernel
theorem dd_MO_mapRow_72 : decode bb_MO_mapRow 72 = .ok (.iload_n 3, 1) := by decide +kernel
theorem dd_MO_mapRow_73 : decode bb_MO_mapRow 73 = .ok (.iload_n 2, 1) := by decide +kernel
theorem dd_MO_mapRow_74 : decode bb_MO_mapRow 74 = .ok (.if_icmp .ge 59, 3) := by decide +kernel
theorem dd_MO_mapRow_77 : decode bb_MO_mapRow 77 = .ok (.aload_n 0, 1) := by decide +kernel
theorem dd_MO_mapRow_78 : decode bb_MO_mapRow 78 = .ok (.iload_n 2, 1) := by decide +kernel
theorem dd_MO_mapRow_79 : decode bb_MO_mapRow 79 = .ok (.iload_n 3, 1) := by decide +kernel
theorem dd_MO_mapRow_80 : decode bb_MO_mapRow 80 = .ok (.isub, 1) := by decide +kernel
theorem dd_MO_mapRow_81 : decode bb_MO_mapRow 81 = .ok (.invokevirtual 70, 3) := by decide +kernel
theorem dd_MO_mapRow_84 : decode bb_MO_mapRow 84 = .ok (.istore 4, 2) := by decide +kernel
theorem dd_MO_mapRow_86 : decode bb_MO_mapRow 86 = .ok (.aload_n 0, 1) := by decide +kernel
theorem dd_MO_mapRow_87 : decode bb_MO_mapRow 87 = .ok (.iload 4, 2) := by decide +kernel
theorem dd_MO_mapRow_89 : decode bb_MO_mapRow 89 = .ok (.invokevirtual 63, 3) := by decide +kernel
theorem dd_MO_mapRow_92 : decode bb_MO_mapRow 92 = .ok (.istore 5, 2) := by decide +kernel
theorem dd_MO_mapRow_94 : decode bb_MO_mapRow 94 = .ok (.iconst 0, 1) := by decide +kernel
theorem dd_MO_mapRow_95 : decode bb_MO_mapRow 95 = .ok (.istore 6, 2) := by decide +kernel
theorem dd_MO_mapRow_97 : decode bb_MO_mapRow 97 = .ok (.iload 6, 2) := by decide +kernel
theorem dd_MO_mapRow_99 : decode bb_MO_mapRow 99 = .ok (.iload 5, 2) := by decide +kernel
theorem dd_MO_mapRow_101 : decode bb_MO_mapRow 101 = .ok (.if_icmp .ge 29, 3) := by decide +kernel
theorem dd_MO_mapRow_104 : decode bb_MO_mapRow 104 = .ok (.iload_n 3, 1) := by decide +kernel
theorem dd_MO_mapRow_105 : decode bb_MO_mapRow 105 = .ok (.iload_n 2, 1) := by decide +kernel
theorem dd_MO_mapRow_106 : decode bb_MO_mapRow 106 = .ok (.if_icmp .ge 24, 3) := by decide +kernel
theorem dd_MO_mapRow_109 : decode bb_MO_mapRow 109 = .ok (.aload_n 0, 1) := by decide +kernel
theorem dd_MO_mapRow_110 : decode bb_MO_mapRow 110 = .ok (.iload_n 1, 1) := by decide +kernel
theorem dd_MO_mapRow_111 : decode bb_MO_mapRow 111 = .ok (.iload_n 3, 1) := by decide +kernel
theorem dd_MO_mapRow_112 : decode bb_MO_mapRow 112 = .ok (.iadd, 1) := by decide +kernel
theorem dd_MO_mapRow_113 : decode bb_MO_mapRow 113 = .ok (.iload 4, 2) := by decide +kernel
theorem dd_MO_mapRow_115 : decode bb_MO_mapRow 115 = .ok (.iload 6, 2) := by decide +kernel
theorem dd_MO_mapRow_117 : decode bb_MO_mapRow 117 = .ok (.iadd, 1) := by decide +kernel
theorem dd_MO_mapRow_118 : decode bb_MO_mapRow 118 = .ok (.invokevirtual 66, 3) := by decide +kernel
theorem dd_MO_mapRow_121 : decode bb_MO_mapRow 121 = .ok (.iinc 3 1, 3) := by decide +kernel
theorem dd_MO_mapRow_124 : decode bb_MO_mapRow 124 = .ok (.iinc 6 1, 3) := by decide +kernel
theorem dd_MO_mapRow_127 : decode bb_MO_mapRow 127 = .ok (.goto (-30), 3) := by decide +kernel
theorem dd_MO_mapRow_130 : decode bb_MO_mapRow 130 = .ok (.goto (-58), 3) := by decide +kernel
theorem dd_MO_mapRow_133 : decode bb_MO_mapRow 133 = .ok (.return_, 1) := by decide +kernel
theorem dd_MO_mapHoles_0 : decode bb_MO_mapHoles 0 = .ok (.iload_n 1, 1) := by decide +kernel
theorem dd_MO_mapHoles_1 : decode bb_MO_mapHoles 1 = .ok (.istore 4, 2) := by decide +kernel
theorem dd_MO_mapHoles_3 : decode bb_MO_mapHoles 3 = .ok (.iload 4, 2) := by decide +kernel
theorem dd_MO_mapHoles_5 : decode bb_MO_mapHoles 5 = .ok (.iload_n 2, 1) := by decide +kernel
theorem dd_MO_mapHoles_6 : decode bb_MO_mapHoles 6 = .ok (.if_icmp .ge 76, 3) := by decide +kernel
theorem dd_MO_mapHoles_9 : decode bb_MO_mapHoles 9 = .ok (.iconst 0, 1) := by decide +kernel
theorem dd_MO_mapHoles_10 : decode bb_MO_mapHoles 10 = .ok (.istore 5, 2) := by decide +kernel
theorem dd_MO_mapHoles_12 : decode bb_MO_mapHoles 12 = .ok (.iload 4, 2) := by decide +kernel
theorem dd_MO_mapHoles_14 : decode bb_MO_mapHoles 14 = .ok (.iload 5, 2) := by decide +kernel
theorem dd_MO_mapHoles_16 : decode bb_MO_mapHoles 16 = .ok (.iadd, 1) := by decide +kernel
theorem dd_MO_mapHoles_17 : decode bb_MO_mapHoles 17 = .ok (.iload_n 2, 1) := by decide +kernel
theorem dd_MO_mapHoles_18 : decode bb_MO_mapHoles 18 = .ok (.if_icmp .ge 39, 3) := by decide +kernel
theorem dd_MO_mapHoles_21 : decode bb_MO_mapHoles 21 = .ok (.aload_n 0, 1) := by decide +kernel
theorem dd_MO_mapHoles_22 : decode bb_MO_mapHoles 22 = .ok (.getfield 7, 3) := by decide +kernel
theorem dd_MO_mapHoles_25 : decode bb_MO_mapHoles 25 = .ok (.iload 4, 2) := by decide +kernel
theorem dd_MO_mapHoles_27 : decode bb_MO_mapHoles 27 = .ok (.iload 5, 2) := by decide +kernel
theorem dd_MO_mapHoles_29 : decode bb_MO_mapHoles 29 = .ok (.iadd, 1) := by decide +kernel
theorem dd_MO_mapHoles_30 : decode bb_MO_mapHoles 30 = .ok (.iaload, 1) := by decide +kernel
theorem dd_MO_mapHoles_31 : decode bb_MO_mapHoles 31 = .ok (.ifCond .ge 26, 3) := by decide +kernel
theorem dd_MO_mapHoles_34 : decode bb_MO_mapHoles 34 = .ok (.iload_n 3, 1) := by decide +kernel
theorem dd_MO_mapHoles_35 : decode bb_MO_mapHoles 35 = .ok (.ifCond .ne 16, 3) := by decide +kernel
theorem dd_MO_mapHoles_38 : decode bb_MO_mapHoles 38 = .ok (.aload_n 0, 1) := by decide +kernel
theorem dd_MO_mapHoles_39 : decode bb_MO_mapHoles 39 = .ok (.getfield 17, 3) := by decide +kernel
theorem dd_MO_mapHoles_42 : decode bb_MO_mapHoles 42 = .ok (.iload 4, 2) := by decide +kernel
theorem dd_MO_mapHoles_44 : decode bb_MO_mapHoles 44 = .ok (.iload 5, 2) := by decide +kernel
theorem dd_MO_mapHoles_46 : decode bb_MO_mapHoles 46 = .ok (.iadd, 1) := by decide +kernel
theorem dd_MO_mapHoles_47 : decode bb_MO_mapHoles 47 = .ok (.baload, 1) := by decide +kernel
theorem dd_MO_mapHoles_48 : decode bb_MO_mapHoles 48 = .ok (.ifCond .eq 9, 3) := by decide +kernel
theorem dd_MO_mapHoles_51 : decode bb_MO_mapHoles 51 = .ok (.iinc 5 1, 3) := by decide +kernel
theorem dd_MO_mapHoles_54 : decode bb_MO_mapHoles 54 = .ok (.goto (-42), 3) := by decide +kernel
theorem dd_MO_mapHoles_57 : decode bb_MO_mapHoles 57 = .ok (.iload 5, 2) := by decide +kernel
theorem dd_MO_mapHoles_59 : decode bb_MO_mapHoles 59 = .ok (.ifCond .le 11, 3) := by decide +kernel
theorem dd_MO_mapHoles_62 : decode bb_MO_mapHoles 62 = .ok (.aload_n 0, 1) := by decide +kernel
theorem dd_MO_mapHoles_63 : decode bb_MO_mapHoles 63 = .ok (.iload 4, 2) := by decide +kernel
theorem dd_MO_mapHoles_65 : decode bb_MO_mapHoles 65 = .ok (.iload 5, 2) := by decide +kernel
theorem dd_MO_mapHoles_67 : decode bb_MO_mapHoles 67 = .ok (.invokevirtual 73, 3) := by decide +kernel
theorem dd_MO_mapHoles_70 : decode bb_MO_mapHoles 70 = .ok (.iload 4, 2) := by decide +kernel
theorem dd_MO_mapHoles_72 : decode bb_MO_mapHoles 72 = .ok (.iload 5, 2) := by decide +kernel
theorem dd_MO_mapHoles_74 : decode bb_MO_mapHoles 74 = .ok (.iadd, 1) := by decide +kernel
theorem dd_MO_mapHoles_75 : decode bb_MO_mapHoles 75 = .ok (.iconst 1, 1) := by decide +kernel
theorem dd_MO_mapHoles_76 : decode bb_MO_mapHoles 76 = .ok (.iadd, 1) := by decide +kernel
theorem dd_MO_mapHoles_77 : decode bb_MO_mapHoles 77 = .ok (.istore 4, 2) := by decide +kernel
theorem dd_MO_mapHoles_79 : decode bb_MO_mapHoles 79 = .ok (.goto (-76), 3) := by decide +kernel
theorem dd_MO_mapHoles_82 : decode bb_MO_mapHoles 82 = .ok (.return_, 1) := by decide +kernel
theorem dd_MO_write_0 : decode bb_MO_write 0 = .ok (.aload_n 0, 1) := by decide +kernel
theorem dd_MO_write_1 : decode bb_MO_write 1 = .ok (.iconst 0, 1) := by decide +kernel
theorem dd_MO_write_2 : decode bb_MO_write 2 = .ok (.invokevirtual 76, 3) := by decide +kernel
theorem dd_MO_write_5 : decode bb_MO_write 5 = .ok (.aload_n 0, 1) := by decide +kernel
theorem dd_MO_write_6 : decode bb_MO_write 6 = .ok (.iconst 1, 1) := by decide +kernel
theorem dd_MO_write_7 : decode bb_MO_write 7 = .ok (.invokevirtual 76, 3) := by decide +kernel
theorem dd_MO_write_10 : decode bb_MO_write 10 = .ok (.iadd, 1) := by decide +kernel
theorem dd_MO_write_11 : decode bb_MO_write 11 = .ok (.aload_n 0, 1) := by decide +kernel
theorem dd_MO_write_12 : decode bb_MO_write 12 = .ok (.iconst 2, 1) := by decide +kernel
theorem dd_MO_write_13 : decode bb_MO_write 13 = .ok (.invokevirtual 76, 3) := by decide +kernel
theorem dd_MO_write_16 : decode bb_MO_write 16 = .ok (.iadd, 1) := by decide +kernel
theorem dd_MO_write_17 : decode bb_MO_write 17 = .ok (.aload_n 0, 1) := by decide +kernel
theorem dd_MO_write_18 : decode bb_MO_write 18 = .ok (.iconst 3, 1) := by decide +kernel
theorem dd_MO_write_19 : decode bb_MO_write 19 = .ok (.invokevirtual 76, 3) := by decide +kernel
theorem dd_MO_write_22 : decode bb_MO_write 22 = .ok (.iadd, 1) := by decide +kernel
theorem dd_MO_write_23 : decode bb_MO_write 23 = .ok (.istore 4, 2) := by decide +kernel
theorem dd_MO_write_25 : decode bb_MO_write 25 = .ok (.aload_n 0, 1) := by decide +kernel
theorem dd_MO_write_26 : decode bb_MO_write 26 = .ok (.iload_n 1, 1) := by decide +kernel
theorem dd_MO_write_27 : decode bb_MO_write 27 = .ok (.invokestatic 79, 3) := by decide +kernel
theorem dd_MO_write_30 : decode bb_MO_write 30 = .ok (.ifCond .ne 10, 3) := by decide +kernel
theorem dd_MO_write_33 : decode bb_MO_write 33 = .ok (.iload_n 2, 1) := by decide +kernel
theorem dd_MO_write_34 : decode bb_MO_write 34 = .ok (.invokestatic 82, 3) := by decide +kernel
theorem dd_MO_write_37 : decode bb_MO_write 37 = .ok (.ifCond .eq 7, 3) := by decide +kernel
theorem dd_MO_write_40 : decode bb_MO_write 40 = .ok (.iconst 1, 1) := by decide +kernel
theorem dd_MO_write_41 : decode bb_MO_write 41 = .ok (.goto 29, 3) := by decide +kernel
theorem dd_MO_write_44 : decode bb_MO_write 44 = .ok (.aload_n 0, 1) := by decide +kernel
theorem dd_MO_write_45 : decode bb_MO_write 45 = .ok (.getfield 17, 3) := by decide +kernel
theorem dd_MO_write_48 : decode bb_MO_write 48 = .ok (.bipush 60, 2) := by decide +kernel
theorem dd_MO_write_50 : decode bb_MO_write 50 = .ok (.iload_n 1, 1) := by decide +kernel
theorem dd_MO_write_51 : decode bb_MO_write 51 = .ok (.imul, 1) := by decide +kernel
theorem dd_MO_write_52 : decode bb_MO_write 52 = .ok (.iload_n 2, 1) := by decide +kernel
theorem dd_MO_write_53 : decode bb_MO_write 53 = .ok (.iadd, 1) := by decide +kernel
theorem dd_MO_write_54 : decode bb_MO_write 54 = .ok (.baload, 1) := by decide +kernel
theorem dd_MO_write_55 : decode bb_MO_write 55 = .ok (.ifCond .ne 14, 3) := by decide +kernel
theorem dd_MO_write_58 : decode bb_MO_write 58 = .ok (.iload 4, 2) := by decide +kernel
theorem dd_MO_write_60 : decode bb_MO_write 60 = .ok (.bipush 24, 2) := by decide +kernel
theorem dd_MO_write_62 : decode bb_MO_write 62 = .ok (.if_icmp .ne 7, 3) := by decide +kernel
theorem dd_MO_write_65 : decode bb_MO_write 65 = .ok (.iconst 2, 1) := by decide +kernel
theorem dd_MO_write_66 : decode bb_MO_write 66 = .ok (.goto 4, 3) := by decide +kernel
theorem dd_MO_write_69 : decode bb_MO_write 69 = .ok (.iconst 0, 1) := by decide +kernel
theorem dd_MO_write_70 : decode bb_MO_write 70 = .ok (.putfield 35, 3) := by decide +kernel
theorem dd_MO_write_73 : decode bb_MO_write 73 = .ok (.aload_n 0, 1) := by decide +kernel
theorem dd_MO_write_74 : decode bb_MO_write 74 = .ok (.getfield 35, 3) := by decide +kernel
theorem dd_MO_write_77 : decode bb_MO_write 77 = .ok (.ifCond .le 4, 3) := by decide +kernel
theorem dd_MO_write_80 : decode bb_MO_write 80 = .ok (.return_, 1) := by decide +kernel
theorem dd_MO_write_81 : decode bb_MO_write 81 = .ok (.bipush 60, 2) := by decide +kernel
theorem dd_MO_write_83 : decode bb_MO_write 83 = .ok (.iload_n 1, 1) := by decide +kernel
theorem dd_MO_write_84 : decode bb_MO_write 84 = .ok (.imul, 1) := by decide +kernel
theorem dd_MO_write_85 : decode bb_MO_write 85 = .ok (.iload_n 2, 1) := by decide +kernel
theorem dd_MO_write_86 : decode bb_MO_write 86 = .ok (.iadd, 1) := by decide +kernel
theorem dd_MO_write_87 : decode bb_MO_write 87 = .ok (.istore 5, 2) := by decide +kernel
theorem dd_MO_write_89 : decode bb_MO_write 89 = .ok (.aload_n 0, 1) := by decide +kernel
theorem dd_MO_write_90 : decode bb_MO_write 90 = .ok (.getfield 17, 3) := by decide +kernel
theorem dd_MO_write_93 : decode bb_MO_write 93 = .ok (.iload 5, 2) := by decide +kernel
theorem dd_MO_write_95 : decode bb_MO_write 95 = .ok (.baload, 1) := by decide +kernel
theorem dd_MO_write_96 : decode bb_MO_write 96 = .ok (.istore 6, 2) := by decide +kernel
theorem dd_MO_write_98 : decode bb_MO_write 98 = .ok (.aload_n 0, 1) := by decide +kernel
theorem dd_MO_write_99 : decode bb_MO_write 99 = .ok (.getfield 17, 3) := by decide +kernel
theorem dd_MO_write_102 : decode bb_MO_write 102 = .ok (.iload 5, 2) := by decide +kernel
theorem dd_MO_write_104 : decode bb_MO_write 104 = .ok (.iconst 1, 1) := by decide +kernel
theorem dd_MO_write_105 : decode bb_MO_write 105 = .ok (.bastore, 1) := by decide +kernel
theorem dd_MO_write_106 : decode bb_MO_write 106 = .ok (.iload 6, 2) := by decide +kernel
theorem dd_MO_write_108 : decode bb_MO_write 108 = .ok (.ifCond .ne 28, 3) := by decide +kernel
theorem dd_MO_write_111 : decode bb_MO_write 111 = .ok (.aload_n 0, 1) := by decide +kernel
theorem dd_MO_write_112 : decode bb_MO_write 112 = .ok (.invokevirtual 85, 3) := by decide +kernel
theorem dd_MO_write_115 : decode bb_MO_write 115 = .ok (.aload_n 0, 1) := by decide +kernel
theorem dd_MO_write_116 : decode bb_MO_write 116 = .ok (.invokevirtual 89, 3) := by decide +kernel
theorem dd_MO_write_119 : decode bb_MO_write 119 = .ok (.if_icmp .ge 17, 3) := by decide +kernel
theorem dd_MO_write_122 : decode bb_MO_write 122 = .ok (.aload_n 0, 1) := by decide +kernel
theorem dd_MO_write_123 : decode bb_MO_write 123 = .ok (.getfield 17, 3) := by decide +kernel
theorem dd_MO_write_126 : decode bb_MO_write 126 = .ok (.iload 5, 2) := by decide +kernel
theorem dd_MO_write_128 : decode bb_MO_write 128 = .ok (.iconst 0, 1) := by decide +kernel
theorem dd_MO_write_129 : decode bb_MO_write 129 = .ok (.bastore, 1) := by decide +kernel
theorem dd_MO_write_130 : decode bb_MO_write 130 = .ok (.aload_n 0, 1) := by decide +kernel
theorem dd_MO_write_131 : decode bb_MO_write 131 = .ok (.iconst 3, 1) := by decide +kernel
theorem dd_MO_write_132 : decode bb_MO_write 132 = .ok (.putfield 35, 3) := by decide +kernel
theorem dd_MO_write_135 : decode bb_MO_write 135 = .ok (.return_, 1) := by decide +kernel
theorem dd_MO_write_136 : decode bb_MO_write 136 = .ok (.aload_n 0, 1) := by decide +kernel
theorem dd_MO_write_137 : decode bb_MO_write 137 = .ok (.getfield 20, 3) := by decide +kernel
theorem dd_MO_write_140 : decode bb_MO_write 140 = .ok (.iload 5, 2) := by decide +kernel
theorem dd_MO_write_142 : decode bb_MO_write 142 = .ok (.iload_n 3, 1) := by decide +kernel
theorem dd_MO_write_143 : decode bb_MO_write 143 = .ok (.iastore, 1) := by decide +kernel
theorem dd_MO_write_144 : decode bb_MO_write 144 = .ok (.aload_n 0, 1) := by decide +kernel
theorem dd_MO_write_145 : decode bb_MO_write 145 = .ok (.getfield 23, 3) := by decide +kernel
theorem dd_MO_write_148 : decode bb_MO_write 148 = .ok (.iload_n 1, 1) := by decide +kernel
theorem dd_MO_write_149 : decode bb_MO_write 149 = .ok (.aload_n 0, 1) := by decide +kernel
theorem dd_MO_write_150 : decode bb_MO_write 150 = .ok (.getfield 23, 3) := by decide +kernel
theorem dd_MO_write_153 : decode bb_MO_write 153 = .ok (.iload_n 1, 1) := by decide +kernel
theorem dd_MO_write_154 : decode bb_MO_write 154 = .ok (.iaload, 1) := by decide +kernel
theorem dd_MO_write_155 : decode bb_MO_write 155 = .ok (.iload_n 2, 1) := by decide +kernel
theorem dd_MO_write_156 : decode bb_MO_write 156 = .ok (.if_icmp .le 12, 3) := by decide +kernel
end
section
theorem dd_MO_write_159 : decode bb_MO_write 159 = .ok (.aload_n 0, 1) := by decide +kernel
theorem dd_MO_write_160 : decode bb_MO_write 160 = .ok (.getfield 23, 3) := by decide +kernel
theorem dd_MO_write_163 : decode bb_MO_write 163 = .ok (.iload_n 1, 1) := by decide +kernel
theorem dd_MO_write_164 : decode bb_MO_write 164 = .ok (.iaload, 1) := by decide +kernel
theorem dd_MO_write_165 : decode bb_MO_write 165 = .ok (.goto 6, 3) := by decide +kernel
theorem dd_MO_write_168 : decode bb_MO_write 168 = .ok (.iload_n 2, 1) := by decide +kernel
theorem dd_MO_write_169 : decode bb_MO_write 169 = .ok (.iconst 1, 1) := by decide +kernel
theorem dd_MO_write_170 : decode bb_MO_write 170 = .ok (.iadd, 1) := by decide +kernel
theorem dd_MO_write_171 : decode bb_MO_write 171 = .ok (.iastore, 1) := by decide +kernel
theorem dd_MO_write_172 : decode bb_MO_write 172 = .ok (.return_, 1) := by decide +kernel
theorem dd_MO_read_0 : decode bb_MO_read 0 = .ok (.aload_n 0, 1) := by decide +kernel
theorem dd_MO_read_1 : decode bb_MO_read 1 = .ok (.iload_n 1, 1) := by decide +kernel
theorem dd_MO_read_2 : decode bb_MO_read 2 = .ok (.invokestatic 79, 3) := by decide +kernel
theorem dd_MO_read_5 : decode bb_MO_read 5 = .ok (.ifCond .ne 10, 3) := by decide +kernel
theorem dd_MO_read_8 : decode bb_MO_read 8 = .ok (.iload_n 2, 1) := by decide +kernel
theorem dd_MO_read_9 : decode bb_MO_read 9 = .ok (.invokestatic 82, 3) := by decide +kernel
theorem dd_MO_read_12 : decode bb_MO_read 12 = .ok (.ifCond .eq 7, 3) := by decide +kernel
theorem dd_MO_read_15 : decode bb_MO_read 15 = .ok (.iconst 1, 1) := by decide +kernel
theorem dd_MO_read_16 : decode bb_MO_read 16 = .ok (.goto 4, 3) := by decide +kernel
theorem dd_MO_read_19 : decode bb_MO_read 19 = .ok (.iconst 0, 1) := by decide +kernel
theorem dd_MO_read_20 : decode bb_MO_read 20 = .ok (.putfield 35, 3) := by decide +kernel
theorem dd_MO_read_23 : decode bb_MO_read 23 = .ok (.aload_n 0, 1) := by decide +kernel
theorem dd_MO_read_24 : decode bb_MO_read 24 = .ok (.getfield 35, 3) := by decide +kernel
theorem dd_MO_read_27 : decode bb_MO_read 27 = .ok (.ifCond .le 5, 3) := by decide +kernel
theorem dd_MO_read_30 : decode bb_MO_read 30 = .ok (.iconst 0, 1) := by decide +kernel
theorem dd_MO_read_31 : decode bb_MO_read 31 = .ok (.ireturn, 1) := by decide +kernel
theorem dd_MO_read_32 : decode bb_MO_read 32 = .ok (.bipush 60, 2) := by decide +kernel
theorem dd_MO_read_34 : decode bb_MO_read 34 = .ok (.iload_n 1, 1) := by decide +kernel
theorem dd_MO_read_35 : decode bb_MO_read 35 = .ok (.imul, 1) := by decide +kernel
theorem dd_MO_read_36 : decode bb_MO_read 36 = .ok (.iload_n 2, 1) := by decide +kernel
theorem dd_MO_read_37 : decode bb_MO_read 37 = .ok (.iadd, 1) := by decide +kernel
theorem dd_MO_read_38 : decode bb_MO_read 38 = .ok (.istore_n 3, 1) := by decide +kernel
theorem dd_MO_read_39 : decode bb_MO_read 39 = .ok (.aload_n 0, 1) := by decide +kernel
theorem dd_MO_read_40 : decode bb_MO_read 40 = .ok (.getfield 17, 3) := by decide +kernel
theorem dd_MO_read_43 : decode bb_MO_read 43 = .ok (.iload_n 3, 1) := by decide +kernel
theorem dd_MO_read_44 : decode bb_MO_read 44 = .ok (.baload, 1) := by decide +kernel
theorem dd_MO_read_45 : decode bb_MO_read 45 = .ok (.ifCond .eq 12, 3) := by decide +kernel
theorem dd_MO_read_48 : decode bb_MO_read 48 = .ok (.aload_n 0, 1) := by decide +kernel
theorem dd_MO_read_49 : decode bb_MO_read 49 = .ok (.getfield 20, 3) := by decide +kernel
theorem dd_MO_read_52 : decode bb_MO_read 52 = .ok (.iload_n 3, 1) := by decide +kernel
theorem dd_MO_read_53 : decode bb_MO_read 53 = .ok (.iaload, 1) := by decide +kernel
theorem dd_MO_read_54 : decode bb_MO_read 54 = .ok (.goto 36, 3) := by decide +kernel
theorem dd_MO_read_57 : decode bb_MO_read 57 = .ok (.aload_n 0, 1) := by decide +kernel
theorem dd_MO_read_58 : decode bb_MO_read 58 = .ok (.getfield 7, 3) := by decide +kernel
theorem dd_MO_read_61 : decode bb_MO_read 61 = .ok (.iload_n 3, 1) := by decide +kernel
theorem dd_MO_read_62 : decode bb_MO_read 62 = .ok (.iaload, 1) := by decide +kernel
theorem dd_MO_read_63 : decode bb_MO_read 63 = .ok (.ifCond .lt 26, 3) := by decide +kernel
theorem dd_MO_read_66 : decode bb_MO_read 66 = .ok (.aload_n 0, 1) := by decide +kernel
theorem dd_MO_read_67 : decode bb_MO_read 67 = .ok (.getfield 13, 3) := by decide +kernel
theorem dd_MO_read_70 : decode bb_MO_read 70 = .ok (.iload_n 3, 1) := by decide +kernel
theorem dd_MO_read_71 : decode bb_MO_read 71 = .ok (.baload, 1) := by decide +kernel
theorem dd_MO_read_72 : decode bb_MO_read 72 = .ok (.ifCond .eq 17, 3) := by decide +kernel
theorem dd_MO_read_75 : decode bb_MO_read 75 = .ok (.aload_n 0, 1) := by decide +kernel
theorem dd_MO_read_76 : decode bb_MO_read 76 = .ok (.getfield 29, 3) := by decide +kernel
theorem dd_MO_read_79 : decode bb_MO_read 79 = .ok (.aload_n 0, 1) := by decide +kernel
theorem dd_MO_read_80 : decode bb_MO_read 80 = .ok (.getfield 7, 3) := by decide +kernel
theorem dd_MO_read_83 : decode bb_MO_read 83 = .ok (.iload_n 3, 1) := by decide +kernel
theorem dd_MO_read_84 : decode bb_MO_read 84 = .ok (.iaload, 1) := by decide +kernel
theorem dd_MO_read_85 : decode bb_MO_read 85 = .ok (.iaload, 1) := by decide +kernel
theorem dd_MO_read_86 : decode bb_MO_read 86 = .ok (.goto 4, 3) := by decide +kernel
theorem dd_MO_read_89 : decode bb_MO_read 89 = .ok (.iconst 0, 1) := by decide +kernel
theorem dd_MO_read_90 : decode bb_MO_read 90 = .ok (.ireturn, 1) := by decide +kernel
theorem dd_MO_preallocate_0 : decode bb_MO_preallocate 0 = .ok (.aload_n 0, 1) := by decide +kernel
theorem dd_MO_preallocate_1 : decode bb_MO_preallocate 1 = .ok (.iload_n 1, 1) := by decide +kernel
theorem dd_MO_preallocate_2 : decode bb_MO_preallocate 2 = .ok (.invokestatic 79, 3) := by decide +kernel
theorem dd_MO_preallocate_5 : decode bb_MO_preallocate 5 = .ok (.ifCond .ne 10, 3) := by decide +kernel
theorem dd_MO_preallocate_8 : decode bb_MO_preallocate 8 = .ok (.iload_n 2, 1) := by decide +kernel
theorem dd_MO_preallocate_9 : decode bb_MO_preallocate 9 = .ok (.invokestatic 82, 3) := by decide +kernel
theorem dd_MO_preallocate_12 : decode bb_MO_preallocate 12 = .ok (.ifCond .eq 7, 3) := by decide +kernel
theorem dd_MO_preallocate_15 : decode bb_MO_preallocate 15 = .ok (.iconst 1, 1) := by decide +kernel
theorem dd_MO_preallocate_16 : decode bb_MO_preallocate 16 = .ok (.goto 21, 3) := by decide +kernel
theorem dd_MO_preallocate_19 : decode bb_MO_preallocate 19 = .ok (.iload_n 3, 1) := by decide +kernel
theorem dd_MO_preallocate_20 : decode bb_MO_preallocate 20 = .ok (.iconst 1, 1) := by decide +kernel
theorem dd_MO_preallocate_21 : decode bb_MO_preallocate 21 = .ok (.if_icmp .lt 11, 3) := by decide +kernel
theorem dd_MO_preallocate_24 : decode bb_MO_preallocate 24 = .ok (.iload_n 3, 1) := by decide +kernel
theorem dd_MO_preallocate_25 : decode bb_MO_preallocate 25 = .ok (.bipush 60, 2) := by decide +kernel
theorem dd_MO_preallocate_27 : decode bb_MO_preallocate 27 = .ok (.iload_n 2, 1) := by decide +kernel
theorem dd_MO_preallocate_28 : decode bb_MO_preallocate 28 = .ok (.isub, 1) := by decide +kernel
theorem dd_MO_preallocate_29 : decode bb_MO_preallocate 29 = .ok (.if_icmp .le 7, 3) := by decide +kernel
theorem dd_MO_preallocate_32 : decode bb_MO_preallocate 32 = .ok (.iconst 2, 1) := by decide +kernel
theorem dd_MO_preallocate_33 : decode bb_MO_preallocate 33 = .ok (.goto 4, 3) := by decide +kernel
theorem dd_MO_preallocate_36 : decode bb_MO_preallocate 36 = .ok (.iconst 0, 1) := by decide +kernel
theorem dd_MO_preallocate_37 : decode bb_MO_preallocate 37 = .ok (.putfield 35, 3) := by decide +kernel
theorem dd_MO_preallocate_40 : decode bb_MO_preallocate 40 = .ok (.aload_n 0, 1) := by decide +kernel
theorem dd_MO_preallocate_41 : decode bb_MO_preallocate 41 = .ok (.getfield 35, 3) := by decide +kernel
theorem dd_MO_preallocate_44 : decode bb_MO_preallocate 44 = .ok (.ifCond .le 5, 3) := by decide +kernel
theorem dd_MO_preallocate_47 : decode bb_MO_preallocate 47 = .ok (.iconst 0, 1) := by decide +kernel
theorem dd_MO_preallocate_48 : decode bb_MO_preallocate 48 = .ok (.ireturn, 1) := by decide +kernel
theorem dd_MO_preallocate_49 : decode bb_MO_preallocate 49 = .ok (.iconst 0, 1) := by decide +kernel
theorem dd_MO_preallocate_50 : decode bb_MO_preallocate 50 = .ok (.istore 4, 2) := by decide +kernel
theorem dd_MO_preallocate_52 : decode bb_MO_preallocate 52 = .ok (.iconst 0, 1) := by decide +kernel
theorem dd_MO_preallocate_53 : decode bb_MO_preallocate 53 = .ok (.istore 5, 2) := by decide +kernel
theorem dd_MO_preallocate_55 : decode bb_MO_preallocate 55 = .ok (.iconst 0, 1) := by decide +kernel
theorem dd_MO_preallocate_56 : decode bb_MO_preallocate 56 = .ok (.istore 6, 2) := by decide +kernel
theorem dd_MO_preallocate_58 : decode bb_MO_preallocate 58 = .ok (.iload 6, 2) := by decide +kernel
theorem dd_MO_preallocate_60 : decode bb_MO_preallocate 60 = .ok (.bipush 60, 2) := by decide +kernel
theorem dd_MO_preallocate_62 : decode bb_MO_preallocate 62 = .ok (.if_icmp .ge 28, 3) := by decide +kernel
theorem dd_MO_preallocate_65 : decode bb_MO_preallocate 65 = .ok (.aload_n 0, 1) := by decide +kernel
theorem dd_MO_preallocate_66 : decode bb_MO_preallocate 66 = .ok (.getfield 32, 3) := by decide +kernel
theorem dd_MO_preallocate_69 : decode bb_MO_preallocate 69 = .ok (.iload 6, 2) := by decide +kernel
theorem dd_MO_preallocate_71 : decode bb_MO_preallocate 71 = .ok (.aload_n 0, 1) := by decide +kernel
theorem dd_MO_preallocate_72 : decode bb_MO_preallocate 72 = .ok (.getfield 7, 3) := by decide +kernel
theorem dd_MO_preallocate_75 : decode bb_MO_preallocate 75 = .ok (.bipush 60, 2) := by decide +kernel
theorem dd_MO_preallocate_77 : decode bb_MO_preallocate 77 = .ok (.iload_n 1, 1) := by decide +kernel
theorem dd_MO_preallocate_78 : decode bb_MO_preallocate 78 = .ok (.imul, 1) := by decide +kernel
theorem dd_MO_preallocate_79 : decode bb_MO_preallocate 79 = .ok (.iload 6, 2) := by decide +kernel
theorem dd_MO_preallocate_81 : decode bb_MO_preallocate 81 = .ok (.iadd, 1) := by decide +kernel
theorem dd_MO_preallocate_82 : decode bb_MO_preallocate 82 = .ok (.iaload, 1) := by decide +kernel
theorem dd_MO_preallocate_83 : decode bb_MO_preallocate 83 = .ok (.iastore, 1) := by decide +kernel
theorem dd_MO_preallocate_84 : decode bb_MO_preallocate 84 = .ok (.iinc 6 1, 3) := by decide +kernel
theorem dd_MO_preallocate_87 : decode bb_MO_preallocate 87 = .ok (.goto (-29), 3) := by decide +kernel
theorem dd_MO_preallocate_90 : decode bb_MO_preallocate 90 = .ok (.bipush 60, 2) := by decide +kernel
theorem dd_MO_preallocate_92 : decode bb_MO_preallocate 92 = .ok (.iload_n 1, 1) := by decide +kernel
theorem dd_MO_preallocate_93 : decode bb_MO_preallocate 93 = .ok (.imul, 1) := by decide +kernel
theorem dd_MO_preallocate_94 : decode bb_MO_preallocate 94 = .ok (.iload_n 2, 1) := by decide +kernel
theorem dd_MO_preallocate_95 : decode bb_MO_preallocate 95 = .ok (.iadd, 1) := by decide +kernel
theorem dd_MO_preallocate_96 : decode bb_MO_preallocate 96 = .ok (.istore 6, 2) := by decide +kernel
theorem dd_MO_preallocate_98 : decode bb_MO_preallocate 98 = .ok (.iload 6, 2) := by decide +kernel
theorem dd_MO_preallocate_100 : decode bb_MO_preallocate 100 = .ok (.bipush 60, 2) := by decide +kernel
theorem dd_MO_preallocate_102 : decode bb_MO_preallocate 102 = .ok (.iload_n 1, 1) := by decide +kernel
theorem dd_MO_preallocate_103 : decode bb_MO_preallocate 103 = .ok (.imul, 1) := by decide +kernel
theorem dd_MO_preallocate_104 : decode bb_MO_preallocate 104 = .ok (.iload_n 2, 1) := by decide +kernel
theorem dd_MO_preallocate_105 : decode bb_MO_preallocate 105 = .ok (.iadd, 1) := by decide +kernel
theorem dd_MO_preallocate_106 : decode bb_MO_preallocate 106 = .ok (.iload_n 3, 1) := by decide +kernel
theorem dd_MO_preallocate_107 : decode bb_MO_preallocate 107 = .ok (.iadd, 1) := by decide +kernel
theorem dd_MO_preallocate_108 : decode bb_MO_preallocate 108 = .ok (.if_icmp .ge 30, 3) := by decide +kernel
theorem dd_MO_preallocate_111 : decode bb_MO_preallocate 111 = .ok (.aload_n 0, 1) := by decide +kernel
theorem dd_MO_preallocate_112 : decode bb_MO_preallocate 112 = .ok (.getfield 7, 3) := by decide +kernel
theorem dd_MO_preallocate_115 : decode bb_MO_preallocate 115 = .ok (.iload 6, 2) := by decide +kernel
theorem dd_MO_preallocate_117 : decode bb_MO_preallocate 117 = .ok (.iaload, 1) := by decide +kernel
theorem dd_MO_preallocate_118 : decode bb_MO_preallocate 118 = .ok (.ifCond .ge 10, 3) := by decide +kernel
theorem dd_MO_preallocate_121 : decode bb_MO_preallocate 121 = .ok (.iload 4, 2) := by decide +kernel
theorem dd_MO_preallocate_123 : decode bb_MO_preallocate 123 = .ok (.iconst 1, 1) := by decide +kernel
theorem dd_MO_preallocate_124 : decode bb_MO_preallocate 124 = .ok (.iadd, 1) := by decide +kernel
theorem dd_MO_preallocate_125 : decode bb_MO_preallocate 125 = .ok (.goto 5, 3) := by decide +kernel
theorem dd_MO_preallocate_128 : decode bb_MO_preallocate 128 = .ok (.iload 4, 2) := by decide +kernel
theorem dd_MO_preallocate_130 : decode bb_MO_preallocate 130 = .ok (.istore 4, 2) := by decide +kernel
theorem dd_MO_preallocate_132 : decode bb_MO_preallocate 132 = .ok (.iinc 6 1, 3) := by decide +kernel
theorem dd_MO_preallocate_135 : decode bb_MO_preallocate 135 = .ok (.goto (-37), 3) := by decide +kernel
theorem dd_MO_preallocate_138 : decode bb_MO_preallocate 138 = .ok (.iconst 0, 1) := by decide +kernel
theorem dd_MO_preallocate_139 : decode bb_MO_preallocate 139 = .ok (.istore 6, 2) := by decide +kernel
theorem dd_MO_preallocate_141 : decode bb_MO_preallocate 141 = .ok (.iload 6, 2) := by decide +kernel
theorem dd_MO_preallocate_143 : decode bb_MO_preallocate 143 = .ok (.bipush 80, 2) := by decide +kernel
theorem dd_MO_preallocate_145 : decode bb_MO_preallocate 145 = .ok (.if_icmp .ge 30, 3) := by decide +kernel
theorem dd_MO_preallocate_148 : decode bb_MO_preallocate 148 = .ok (.aload_n 0, 1) := by decide +kernel
theorem dd_MO_preallocate_149 : decode bb_MO_preallocate 149 = .ok (.getfield 26, 3) := by decide +kernel
theorem dd_MO_preallocate_152 : decode bb_MO_preallocate 152 = .ok (.iload 6, 2) := by decide +kernel
theorem dd_MO_preallocate_154 : decode bb_MO_preallocate 154 = .ok (.iaload, 1) := by decide +kernel
theorem dd_MO_preallocate_155 : decode bb_MO_preallocate 155 = .ok (.ifCond .lt 10, 3) := by decide +kernel
theorem dd_MO_preallocate_158 : decode bb_MO_preallocate 158 = .ok (.iload 5, 2) := by decide +kernel
theorem dd_MO_preallocate_160 : decode bb_MO_preallocate 160 = .ok (.iconst 1, 1) := by decide +kernel
theorem dd_MO_preallocate_161 : decode bb_MO_preallocate 161 = .ok (.iadd, 1) := by decide +kernel
theorem dd_MO_preallocate_162 : decode bb_MO_preallocate 162 = .ok (.goto 5, 3) := by decide +kernel
theorem dd_MO_preallocate_165 : decode bb_MO_preallocate 165 = .ok (.iload 5, 2) := by decide +kernel
theorem dd_MO_preallocate_167 : decode bb_MO_preallocate 167 = .ok (.istore 5, 2) := by decide +kernel
theorem dd_MO_preallocate_169 : decode bb_MO_preallocate 169 = .ok (.iinc 6 1, 3) := by decide +kernel
theorem dd_MO_preallocate_172 : decode bb_MO_preallocate 172 = .ok (.goto (-31), 3) := by decide +kernel
theorem dd_MO_preallocate_175 : decode bb_MO_preallocate 175 = .ok (.iload 4, 2) := by decide +kernel
theorem dd_MO_preallocate_177 : decode bb_MO_preallocate 177 = .ok (.bipush 80, 2) := by decide +kernel
theorem dd_MO_preallocate_179 : decode bb_MO_preallocate 179 = .ok (.iload 5, 2) := by decide +kernel
theorem dd_MO_preallocate_181 : decode bb_MO_preallocate 181 = .ok (.isub, 1) := by decide +kernel
theorem dd_MO_preallocate_182 : decode bb_MO_preallocate 182 = .ok (.if_icmp .le 10, 3) := by decide +kernel
theorem dd_MO_preallocate_185 : decode bb_MO_preallocate 185 = .ok (.aload_n 0, 1) := by decide +kernel
theorem dd_MO_preallocate_186 : decode bb_MO_preallocate 186 = .ok (.iconst 3, 1) := by decide +kernel
theorem dd_MO_preallocate_187 : decode bb_MO_preallocate 187 = .ok (.putfield 35, 3) := by decide +kernel
theorem dd_MO_preallocate_190 : decode bb_MO_preallocate 190 = .ok (.iconst 0, 1) := by decide +kernel
theorem dd_MO_preallocate_191 : decode bb_MO_preallocate 191 = .ok (.ireturn, 1) := by decide +kernel
theorem dd_MO_preallocate_192 : decode bb_MO_preallocate 192 = .ok (.aload_n 0, 1) := by decide +kernel
theorem dd_MO_preallocate_193 : decode bb_MO_preallocate 193 = .ok (.bipush 60, 2) := by decide +kernel
theorem dd_MO_preallocate_195 : decode bb_MO_preallocate 195 = .ok (.iload_n 1, 1) := by decide +kernel
theorem dd_MO_preallocate_196 : decode bb_MO_preallocate 196 = .ok (.imul, 1) := by decide +kernel
theorem dd_MO_preallocate_197 : decode bb_MO_preallocate 197 = .ok (.iload_n 2, 1) := by decide +kernel
theorem dd_MO_preallocate_198 : decode bb_MO_preallocate 198 = .ok (.iadd, 1) := by decide +kernel
theorem dd_MO_preallocate_199 : decode bb_MO_preallocate 199 = .ok (.bipush 60, 2) := by decide +kernel
theorem dd_MO_preallocate_201 : decode bb_MO_preallocate 201 = .ok (.iload_n 1, 1) := by decide +kernel
theorem dd_MO_preallocate_202 : decode bb_MO_preallocate 202 = .ok (.imul, 1) := by decide +kernel
theorem dd_MO_preallocate_203 : decode bb_MO_preallocate 203 = .ok (.iload_n 2, 1) := by decide +kernel
theorem dd_MO_preallocate_204 : decode bb_MO_preallocate 204 = .ok (.iadd, 1) := by decide +kernel
theorem dd_MO_preallocate_205 : decode bb_MO_preallocate 205 = .ok (.iload_n 3, 1) := by decide +kernel
theorem dd_MO_preallocate_206 : decode bb_MO_preallocate 206 = .ok (.iadd, 1) := by decide +kernel
theorem dd_MO_preallocate_207 : decode bb_MO_preallocate 207 = .ok (.iconst 1, 1) := by decide +kernel
theorem dd_MO_preallocate_208 : decode bb_MO_preallocate 208 = .ok (.invokevirtual 92, 3) := by decide +kernel
theorem dd_MO_preallocate_211 : decode bb_MO_preallocate 211 = .ok (.aload_n 0, 1) := by decide +kernel
theorem dd_MO_preallocate_212 : decode bb_MO_preallocate 212 = .ok (.invokevirtual 85, 3) := by decide +kernel
theorem dd_MO_preallocate_215 : decode bb_MO_preallocate 215 = .ok (.aload_n 0, 1) := by decide +kernel
theorem dd_MO_preallocate_216 : decode bb_MO_preallocate 216 = .ok (.invokevirtual 89, 3) := by decide +kernel
theorem dd_MO_preallocate_219 : decode bb_MO_preallocate 219 = .ok (.if_icmp .ge 47, 3) := by decide +kernel
theorem dd_MO_preallocate_222 : decode bb_MO_preallocate 222 = .ok (.iconst 0, 1) := by decide +kernel
theorem dd_MO_preallocate_223 : decode bb_MO_preallocate 223 = .ok (.istore 6, 2) := by decide +kernel
theorem dd_MO_preallocate_225 : decode bb_MO_preallocate 225 = .ok (.iload 6, 2) := by decide +kernel
theorem dd_MO_preallocate_227 : decode bb_MO_preallocate 227 = .ok (.bipush 60, 2) := by decide +kernel
theorem dd_MO_preallocate_229 : decode bb_MO_preallocate 229 = .ok (.if_icmp .ge 30, 3) := by decide +kernel
theorem dd_MO_preallocate_232 : decode bb_MO_preallocate 232 = .ok (.aload_n 0, 1) := by decide +kernel
theorem dd_MO_preallocate_233 : decode bb_MO_preallocate 233 = .ok (.getfield 32, 3) := by decide +kernel
theorem dd_MO_preallocate_236 : decode bb_MO_preallocate 236 = .ok (.iload 6, 2) := by decide +kernel
theorem dd_MO_preallocate_238 : decode bb_MO_preallocate 238 = .ok (.iaload, 1) := by decide +kernel
theorem dd_MO_preallocate_239 : decode bb_MO_preallocate 239 = .ok (.ifCond .ge 14, 3) := by decide +kernel
theorem dd_MO_preallocate_242 : decode bb_MO_preallocate 242 = .ok (.aload_n 0, 1) := by decide +kernel
theorem dd_MO_preallocate_243 : decode bb_MO_preallocate 243 = .ok (.bipush 60, 2) := by decide +kernel
theorem dd_MO_preallocate_245 : decode bb_MO_preallocate 245 = .ok (.iload_n 1, 1) := by decide +kernel
theorem dd_MO_preallocate_246 : decode bb_MO_preallocate 246 = .ok (.imul, 1) := by decide +kernel
theorem dd_MO_preallocate_247 : decode bb_MO_preallocate 247 = .ok (.iload 6, 2) := by decide +kernel
theorem dd_MO_preallocate_249 : decode bb_MO_preallocate 249 = .ok (.iadd, 1) := by decide +kernel
theorem dd_MO_preallocate_250 : decode bb_MO_preallocate 250 = .ok (.invokevirtual 96, 3) := by decide +kernel
theorem dd_MO_preallocate_253 : decode bb_MO_preallocate 253 = .ok (.iinc 6 1, 3) := by decide +kernel
theorem dd_MO_preallocate_256 : decode bb_MO_preallocate 256 = .ok (.goto (-31), 3) := by decide +kernel
theorem dd_MO_preallocate_259 : decode bb_MO_preallocate 259 = .ok (.aload_n 0, 1) := by decide +kernel
theorem dd_MO_preallocate_260 : decode bb_MO_preallocate 260 = .ok (.iconst 3, 1) := by decide +kernel
theorem dd_MO_preallocate_261 : decode bb_MO_preallocate 261 = .ok (.putfield 35, 3) := by decide +kernel
theorem dd_MO_preallocate_264 : decode bb_MO_preallocate 264 = .ok (.iconst 0, 1) := by decide +kernel
theorem dd_MO_preallocate_265 : decode bb_MO_preallocate 265 = .ok (.ireturn, 1) := by decide +kernel
theorem dd_MO_preallocate_266 : decode bb_MO_preallocate 266 = .ok (.iload 4, 2) := by decide +kernel
theorem dd_MO_preallocate_268 : decode bb_MO_preallocate 268 = .ok (.ireturn, 1) := by decide +kernel
theorem dd_MO_empty_0 : decode bb_MO_empty 0 = .ok (.iconst 0, 1) := by decide +kernel
theorem dd_MO_empty_1 : decode bb_MO_empty 1 = .ok (.istore_n 3, 1) := by decide +kernel
theorem dd_MO_empty_2 : decode bb_MO_empty 2 = .ok (.iload_n 1, 1) := by decide +kernel
theorem dd_MO_empty_3 : decode bb_MO_empty 3 = .ok (.istore 4, 2) := by decide +kernel
theorem dd_MO_empty_5 : decode bb_MO_empty 5 = .ok (.iload 4, 2) := by decide +kernel
theorem dd_MO_empty_7 : decode bb_MO_empty 7 = .ok (.iload_n 2, 1) := by decide +kernel
theorem dd_MO_empty_8 : decode bb_MO_empty 8 = .ok (.if_icmp .ge 41, 3) := by decide +kernel
theorem dd_MO_empty_11 : decode bb_MO_empty 11 = .ok (.aload_n 0, 1) := by decide +kernel
theorem dd_MO_empty_12 : decode bb_MO_empty 12 = .ok (.getfield 7, 3) := by decide +kernel
theorem dd_MO_empty_15 : decode bb_MO_empty 15 = .ok (.iload 4, 2) := by decide +kernel
theorem dd_MO_empty_17 : decode bb_MO_empty 17 = .ok (.iaload, 1) := by decide +kernel
theorem dd_MO_empty_18 : decode bb_MO_empty 18 = .ok (.ifCond .lt 9, 3) := by decide +kernel
theorem dd_MO_empty_21 : decode bb_MO_empty 21 = .ok (.iload_n 3, 1) := by decide +kernel
theorem dd_MO_empty_22 : decode bb_MO_empty 22 = .ok (.iconst 1, 1) := by decide +kernel
theorem dd_MO_empty_23 : decode bb_MO_empty 23 = .ok (.iadd, 1) := by decide +kernel
theorem dd_MO_empty_24 : decode bb_MO_empty 24 = .ok (.goto 4, 3) := by decide +kernel
theorem dd_MO_empty_27 : decode bb_MO_empty 27 = .ok (.iload_n 3, 1) := by decide +kernel
theorem dd_MO_empty_28 : decode bb_MO_empty 28 = .ok (.istore_n 3, 1) := by decide +kernel
theorem dd_MO_empty_29 : decode bb_MO_empty 29 = .ok (.aload_n 0, 1) := by decide +kernel
theorem dd_MO_empty_30 : decode bb_MO_empty 30 = .ok (.iload 4, 2) := by decide +kernel
theorem dd_MO_empty_32 : decode bb_MO_empty 32 = .ok (.invokevirtual 96, 3) := by decide +kernel
theorem dd_MO_empty_35 : decode bb_MO_empty 35 = .ok (.aload_n 0, 1) := by decide +kernel
theorem dd_MO_empty_36 : decode bb_MO_empty 36 = .ok (.getfield 17, 3) := by decide +kernel
theorem dd_MO_empty_39 : decode bb_MO_empty 39 = .ok (.iload 4, 2) := by decide +kernel
theorem dd_MO_empty_41 : decode bb_MO_empty 41 = .ok (.iconst 0, 1) := by decide +kernel
theorem dd_MO_empty_42 : decode bb_MO_empty 42 = .ok (.bastore, 1) := by decide +kernel
theorem dd_MO_empty_43 : decode bb_MO_empty 43 = .ok (.iinc 4 1, 3) := by decide +kernel
theorem dd_MO_empty_46 : decode bb_MO_empty 46 = .ok (.goto (-41), 3) := by decide +kernel
theorem dd_MO_empty_49 : decode bb_MO_empty 49 = .ok (.iload_n 3, 1) := by decide +kernel
theorem dd_MO_empty_50 : decode bb_MO_empty 50 = .ok (.ireturn, 1) := by decide +kernel
theorem dd_MO_punch_0 : decode bb_MO_punch 0 = .ok (.aload_n 0, 1) := by decide +kernel
theorem dd_MO_punch_1 : decode bb_MO_punch 1 = .ok (.iload_n 1, 1) := by decide +kernel
theorem dd_MO_punch_2 : decode bb_MO_punch 2 = .ok (.invokestatic 79, 3) := by decide +kernel
theorem dd_MO_punch_5 : decode bb_MO_punch 5 = .ok (.ifCond .ne 10, 3) := by decide +kernel
theorem dd_MO_punch_8 : decode bb_MO_punch 8 = .ok (.iload_n 2, 1) := by decide +kernel
theorem dd_MO_punch_9 : decode bb_MO_punch 9 = .ok (.invokestatic 82, 3) := by decide +kernel
theorem dd_MO_punch_12 : decode bb_MO_punch 12 = .ok (.ifCond .eq 7, 3) := by decide +kernel
theorem dd_MO_punch_15 : decode bb_MO_punch 15 = .ok (.iconst 1, 1) := by decide +kernel
theorem dd_MO_punch_16 : decode bb_MO_punch 16 = .ok (.goto 21, 3) := by decide +kernel
theorem dd_MO_punch_19 : decode bb_MO_punch 19 = .ok (.iload_n 3, 1) := by decide +kernel
theorem dd_MO_punch_20 : decode bb_MO_punch 20 = .ok (.iconst 1, 1) := by decide +kernel
theorem dd_MO_punch_21 : decode bb_MO_punch 21 = .ok (.if_icmp .lt 11, 3) := by decide +kernel
theorem dd_MO_punch_24 : decode bb_MO_punch 24 = .ok (.iload_n 3, 1) := by decide +kernel
theorem dd_MO_punch_25 : decode bb_MO_punch 25 = .ok (.bipush 60, 2) := by decide +kernel
theorem dd_MO_punch_27 : decode bb_MO_punch 27 = .ok (.iload_n 2, 1) := by decide +kernel
theorem dd_MO_punch_28 : decode bb_MO_punch 28 = .ok (.isub, 1) := by decide +kernel
theorem dd_MO_punch_29 : decode bb_MO_punch 29 = .ok (.if_icmp .le 7, 3) := by decide +kernel
theorem dd_MO_punch_32 : decode bb_MO_punch 32 = .ok (.iconst 2, 1) := by decide +kernel
theorem dd_MO_punch_33 : decode bb_MO_punch 33 = .ok (.goto 4, 3) := by decide +kernel
theorem dd_MO_punch_36 : decode bb_MO_punch 36 = .ok (.iconst 0, 1) := by decide +kernel
theorem dd_MO_punch_37 : decode bb_MO_punch 37 = .ok (.putfield 35, 3) := by decide +kernel
theorem dd_MO_punch_40 : decode bb_MO_punch 40 = .ok (.aload_n 0, 1) := by decide +kernel
theorem dd_MO_punch_41 : decode bb_MO_punch 41 = .ok (.getfield 35, 3) := by decide +kernel
theorem dd_MO_punch_44 : decode bb_MO_punch 44 = .ok (.ifCond .le 7, 3) := by decide +kernel
theorem dd_MO_punch_47 : decode bb_MO_punch 47 = .ok (.iconst 0, 1) := by decide +kernel
theorem dd_MO_punch_48 : decode bb_MO_punch 48 = .ok (.goto 21, 3) := by decide +kernel
theorem dd_MO_punch_51 : decode bb_MO_punch 51 = .ok (.aload_n 0, 1) := by decide +kernel
theorem dd_MO_punch_52 : decode bb_MO_punch 52 = .ok (.bipush 60, 2) := by decide +kernel
theorem dd_MO_punch_54 : decode bb_MO_punch 54 = .ok (.iload_n 1, 1) := by decide +kernel
theorem dd_MO_punch_55 : decode bb_MO_punch 55 = .ok (.imul, 1) := by decide +kernel
theorem dd_MO_punch_56 : decode bb_MO_punch 56 = .ok (.iload_n 2, 1) := by decide +kernel
theorem dd_MO_punch_57 : decode bb_MO_punch 57 = .ok (.iadd, 1) := by decide +kernel
theorem dd_MO_punch_58 : decode bb_MO_punch 58 = .ok (.bipush 60, 2) := by decide +kernel
theorem dd_MO_punch_60 : decode bb_MO_punch 60 = .ok (.iload_n 1, 1) := by decide +kernel
theorem dd_MO_punch_61 : decode bb_MO_punch 61 = .ok (.imul, 1) := by decide +kernel
theorem dd_MO_punch_62 : decode bb_MO_punch 62 = .ok (.iload_n 2, 1) := by decide +kernel
theorem dd_MO_punch_63 : decode bb_MO_punch 63 = .ok (.iadd, 1) := by decide +kernel
theorem dd_MO_punch_64 : decode bb_MO_punch 64 = .ok (.iload_n 3, 1) := by decide +kernel
theorem dd_MO_punch_65 : decode bb_MO_punch 65 = .ok (.iadd, 1) := by decide +kernel
theorem dd_MO_punch_66 : decode bb_MO_punch 66 = .ok (.invokevirtual 100, 3) := by decide +kernel
theorem dd_MO_punch_69 : decode bb_MO_punch 69 = .ok (.ireturn, 1) := by decide +kernel
theorem dd_MO_truncate_0 : decode bb_MO_truncate 0 = .ok (.aload_n 0, 1) := by decide +kernel
theorem dd_MO_truncate_1 : decode bb_MO_truncate 1 = .ok (.iload_n 1, 1) := by decide +kernel
theorem dd_MO_truncate_2 : decode bb_MO_truncate 2 = .ok (.invokestatic 79, 3) := by decide +kernel
theorem dd_MO_truncate_5 : decode bb_MO_truncate 5 = .ok (.ifCond .eq 7, 3) := by decide +kernel
theorem dd_MO_truncate_8 : decode bb_MO_truncate 8 = .ok (.iconst 1, 1) := by decide +kernel
theorem dd_MO_truncate_9 : decode bb_MO_truncate 9 = .ok (.goto 18, 3) := by decide +kernel
theorem dd_MO_truncate_12 : decode bb_MO_truncate 12 = .ok (.iload_n 2, 1) := by decide +kernel
theorem dd_MO_truncate_13 : decode bb_MO_truncate 13 = .ok (.ifCond .lt 9, 3) := by decide +kernel
theorem dd_MO_truncate_16 : decode bb_MO_truncate 16 = .ok (.iload_n 2, 1) := by decide +kernel
theorem dd_MO_truncate_17 : decode bb_MO_truncate 17 = .ok (.bipush 60, 2) := by decide +kernel
theorem dd_MO_truncate_19 : decode bb_MO_truncate 19 = .ok (.if_icmp .le 7, 3) := by decide +kernel
theorem dd_MO_truncate_22 : decode bb_MO_truncate 22 = .ok (.iconst 2, 1) := by decide +kernel
theorem dd_MO_truncate_23 : decode bb_MO_truncate 23 = .ok (.goto 4, 3) := by decide +kernel
theorem dd_MO_truncate_26 : decode bb_MO_truncate 26 = .ok (.iconst 0, 1) := by decide +kernel
theorem dd_MO_truncate_27 : decode bb_MO_truncate 27 = .ok (.putfield 35, 3) := by decide +kernel
theorem dd_MO_truncate_30 : decode bb_MO_truncate 30 = .ok (.aload_n 0, 1) := by decide +kernel
theorem dd_MO_truncate_31 : decode bb_MO_truncate 31 = .ok (.getfield 35, 3) := by decide +kernel
theorem dd_MO_truncate_34 : decode bb_MO_truncate 34 = .ok (.ifCond .le 5, 3) := by decide +kernel
theorem dd_MO_truncate_37 : decode bb_MO_truncate 37 = .ok (.iconst 0, 1) := by decide +kernel
theorem dd_MO_truncate_38 : decode bb_MO_truncate 38 = .ok (.ireturn, 1) := by decide +kernel
theorem dd_MO_truncate_39 : decode bb_MO_truncate 39 = .ok (.aload_n 0, 1) := by decide +kernel
theorem dd_MO_truncate_40 : decode bb_MO_truncate 40 = .ok (.getfield 23, 3) := by decide +kernel
theorem dd_MO_truncate_43 : decode bb_MO_truncate 43 = .ok (.iload_n 1, 1) := by decide +kernel
theorem dd_MO_truncate_44 : decode bb_MO_truncate 44 = .ok (.iload_n 2, 1) := by decide +kernel
theorem dd_MO_truncate_45 : decode bb_MO_truncate 45 = .ok (.iastore, 1) := by decide +kernel
theorem dd_MO_truncate_46 : decode bb_MO_truncate 46 = .ok (.aload_n 0, 1) := by decide +kernel
theorem dd_MO_truncate_47 : decode bb_MO_truncate 47 = .ok (.bipush 60, 2) := by decide +kernel
theorem dd_MO_truncate_49 : decode bb_MO_truncate 49 = .ok (.iload_n 1, 1) := by decide +kernel
theorem dd_MO_truncate_50 : decode bb_MO_truncate 50 = .ok (.imul, 1) := by decide +kernel
theorem dd_MO_truncate_51 : decode bb_MO_truncate 51 = .ok (.iload_n 2, 1) := by decide +kernel
theorem dd_MO_truncate_52 : decode bb_MO_truncate 52 = .ok (.iadd, 1) := by decide +kernel
theorem dd_MO_truncate_53 : decode bb_MO_truncate 53 = .ok (.bipush 60, 2) := by decide +kernel
theorem dd_MO_truncate_55 : decode bb_MO_truncate 55 = .ok (.iload_n 1, 1) := by decide +kernel
theorem dd_MO_truncate_56 : decode bb_MO_truncate 56 = .ok (.imul, 1) := by decide +kernel
theorem dd_MO_truncate_57 : decode bb_MO_truncate 57 = .ok (.bipush 60, 2) := by decide +kernel
theorem dd_MO_truncate_59 : decode bb_MO_truncate 59 = .ok (.iadd, 1) := by decide +kernel
theorem dd_MO_truncate_60 : decode bb_MO_truncate 60 = .ok (.invokevirtual 100, 3) := by decide +kernel
theorem dd_MO_truncate_63 : decode bb_MO_truncate 63 = .ok (.ireturn, 1) := by decide +kernel
theorem dd_MO_flush_0 : decode bb_MO_flush 0 = .ok (.aload_n 0, 1) := by decide +kernel
theorem dd_MO_flush_1 : decode bb_MO_flush 1 = .ok (.iload_n 1, 1) := by decide +kernel
theorem dd_MO_flush_2 : decode bb_MO_flush 2 = .ok (.invokestatic 79, 3) := by decide +kernel
theorem dd_MO_flush_5 : decode bb_MO_flush 5 = .ok (.ifCond .eq 7, 3) := by decide +kernel
theorem dd_MO_flush_8 : decode bb_MO_flush 8 = .ok (.iconst 1, 1) := by decide +kernel
theorem dd_MO_flush_9 : decode bb_MO_flush 9 = .ok (.goto 4, 3) := by decide +kernel
theorem dd_MO_flush_12 : decode bb_MO_flush 12 = .ok (.iconst 0, 1) := by decide +kernel
theorem dd_MO_flush_13 : decode bb_MO_flush 13 = .ok (.putfield 35, 3) := by decide +kernel
theorem dd_MO_flush_16 : decode bb_MO_flush 16 = .ok (.aload_n 0, 1) := by decide +kernel
theorem dd_MO_flush_17 : decode bb_MO_flush 17 = .ok (.getfield 35, 3) := by decide +kernel
theorem dd_MO_flush_20 : decode bb_MO_flush 20 = .ok (.ifCond .le 5, 3) := by decide +kernel
theorem dd_MO_flush_23 : decode bb_MO_flush 23 = .ok (.iconst 0, 1) := by decide +kernel
theorem dd_MO_flush_24 : decode bb_MO_flush 24 = .ok (.ireturn, 1) := by decide +kernel
theorem dd_MO_flush_25 : decode bb_MO_flush 25 = .ok (.aload_n 0, 1) := by decide +kernel
theorem dd_MO_flush_26 : decode bb_MO_flush 26 = .ok (.iload_n 1, 1) := by decide +kernel
theorem dd_MO_flush_27 : decode bb_MO_flush 27 = .ok (.invokevirtual 76, 3) := by decide +kernel
theorem dd_MO_flush_30 : decode bb_MO_flush 30 = .ok (.istore_n 2, 1) := by decide +kernel
theorem dd_MO_flush_31 : decode bb_MO_flush 31 = .ok (.aload_n 0, 1) := by decide +kernel
theorem dd_MO_flush_32 : decode bb_MO_flush 32 = .ok (.bipush 60, 2) := by decide +kernel
theorem dd_MO_flush_34 : decode bb_MO_flush 34 = .ok (.iload_n 1, 1) := by decide +kernel
theorem dd_MO_flush_35 : decode bb_MO_flush 35 = .ok (.imul, 1) := by decide +kernel
theorem dd_MO_flush_36 : decode bb_MO_flush 36 = .ok (.bipush 60, 2) := by decide +kernel
theorem dd_MO_flush_38 : decode bb_MO_flush 38 = .ok (.iload_n 1, 1) := by decide +kernel
theorem dd_MO_flush_39 : decode bb_MO_flush 39 = .ok (.imul, 1) := by decide +kernel
theorem dd_MO_flush_40 : decode bb_MO_flush 40 = .ok (.bipush 60, 2) := by decide +kernel
theorem dd_MO_flush_42 : decode bb_MO_flush 42 = .ok (.iadd, 1) := by decide +kernel
theorem dd_MO_flush_43 : decode bb_MO_flush 43 = .ok (.iconst 0, 1) := by decide +kernel
theorem dd_MO_flush_44 : decode bb_MO_flush 44 = .ok (.invokevirtual 92, 3) := by decide +kernel
theorem dd_MO_flush_47 : decode bb_MO_flush 47 = .ok (.bipush 60, 2) := by decide +kernel
theorem dd_MO_flush_49 : decode bb_MO_flush 49 = .ok (.iload_n 1, 1) := by decide +kernel
theorem dd_MO_flush_50 : decode bb_MO_flush 50 = .ok (.imul, 1) := by decide +kernel
theorem dd_MO_flush_51 : decode bb_MO_flush 51 = .ok (.istore_n 3, 1) := by decide +kernel
theorem dd_MO_flush_52 : decode bb_MO_flush 52 = .ok (.iload_n 3, 1) := by decide +kernel
theorem dd_MO_flush_53 : decode bb_MO_flush 53 = .ok (.bipush 60, 2) := by decide +kernel
theorem dd_MO_flush_55 : decode bb_MO_flush 55 = .ok (.iload_n 1, 1) := by decide +kernel
theorem dd_MO_flush_56 : decode bb_MO_flush 56 = .ok (.imul, 1) := by decide +kernel
theorem dd_MO_flush_57 : decode bb_MO_flush 57 = .ok (.bipush 60, 2) := by decide +kernel
theorem dd_MO_flush_59 : decode bb_MO_flush 59 = .ok (.iadd, 1) := by decide +kernel
theorem dd_MO_flush_60 : decode bb_MO_flush 60 = .ok (.if_icmp .ge 49, 3) := by decide +kernel
theorem dd_MO_flush_63 : decode bb_MO_flush 63 = .ok (.aload_n 0, 1) := by decide +kernel
theorem dd_MO_flush_64 : decode bb_MO_flush 64 = .ok (.getfield 17, 3) := by decide +kernel
theorem dd_MO_flush_67 : decode bb_MO_flush 67 = .ok (.iload_n 3, 1) := by decide +kernel
theorem dd_MO_flush_68 : decode bb_MO_flush 68 = .ok (.baload, 1) := by decide +kernel
theorem dd_MO_flush_69 : decode bb_MO_flush 69 = .ok (.ifCond .eq 34, 3) := by decide +kernel
theorem dd_MO_flush_72 : decode bb_MO_flush 72 = .ok (.aload_n 0, 1) := by decide +kernel
theorem dd_MO_flush_73 : decode bb_MO_flush 73 = .ok (.getfield 13, 3) := by decide +kernel
theorem dd_MO_flush_76 : decode bb_MO_flush 76 = .ok (.iload_n 3, 1) := by decide +kernel
theorem dd_MO_flush_77 : decode bb_MO_flush 77 = .ok (.iconst 1, 1) := by decide +kernel
theorem dd_MO_flush_78 : decode bb_MO_flush 78 = .ok (.bastore, 1) := by decide +kernel
theorem dd_MO_flush_79 : decode bb_MO_flush 79 = .ok (.aload_n 0, 1) := by decide +kernel
theorem dd_MO_flush_80 : decode bb_MO_flush 80 = .ok (.getfield 29, 3) := by decide +kernel
theorem dd_MO_flush_83 : decode bb_MO_flush 83 = .ok (.aload_n 0, 1) := by decide +kernel
theorem dd_MO_flush_84 : decode bb_MO_flush 84 = .ok (.getfield 7, 3) := by decide +kernel
theorem dd_MO_flush_87 : decode bb_MO_flush 87 = .ok (.iload_n 3, 1) := by decide +kernel
theorem dd_MO_flush_88 : decode bb_MO_flush 88 = .ok (.iaload, 1) := by decide +kernel
theorem dd_MO_flush_89 : decode bb_MO_flush 89 = .ok (.aload_n 0, 1) := by decide +kernel
theorem dd_MO_flush_90 : decode bb_MO_flush 90 = .ok (.getfield 20, 3) := by decide +kernel
theorem dd_MO_flush_93 : decode bb_MO_flush 93 = .ok (.iload_n 3, 1) := by decide +kernel
theorem dd_MO_flush_94 : decode bb_MO_flush 94 = .ok (.iaload, 1) := by decide +kernel
theorem dd_MO_flush_95 : decode bb_MO_flush 95 = .ok (.iastore, 1) := by decide +kernel
theorem dd_MO_flush_96 : decode bb_MO_flush 96 = .ok (.aload_n 0, 1) := by decide +kernel
theorem dd_MO_flush_97 : decode bb_MO_flush 97 = .ok (.getfield 17, 3) := by decide +kernel
theorem dd_MO_flush_100 : decode bb_MO_flush 100 = .ok (.iload_n 3, 1) := by decide +kernel
theorem dd_MO_flush_101 : decode bb_MO_flush 101 = .ok (.iconst 0, 1) := by decide +kernel
theorem dd_MO_flush_102 : decode bb_MO_flush 102 = .ok (.bastore, 1) := by decide +kernel
theorem dd_MO_flush_103 : decode bb_MO_flush 103 = .ok (.iinc 3 1, 3) := by decide +kernel
theorem dd_MO_flush_106 : decode bb_MO_flush 106 = .ok (.goto (-54), 3) := by decide +kernel
theorem dd_MO_flush_109 : decode bb_MO_flush 109 = .ok (.iload_n 2, 1) := by decide +kernel
theorem dd_MO_flush_110 : decode bb_MO_flush 110 = .ok (.ireturn, 1) := by decide +kernel
theorem dd_MO_crash_0 : decode bb_MO_crash 0 = .ok (.aload_n 0, 1) := by decide +kernel
theorem dd_MO_crash_1 : decode bb_MO_crash 1 = .ok (.iconst 0, 1) := by decide +kernel
theorem dd_MO_crash_2 : decode bb_MO_crash 2 = .ok (.putfield 35, 3) := by decide +kernel
theorem dd_MO_crash_5 : decode bb_MO_crash 5 = .ok (.iconst 0, 1) := by decide +kernel
theorem dd_MO_crash_6 : decode bb_MO_crash 6 = .ok (.istore_n 1, 1) := by decide +kernel
theorem dd_MO_crash_7 : decode bb_MO_crash 7 = .ok (.iconst 0, 1) := by decide +kernel
theorem dd_MO_crash_8 : decode bb_MO_crash 8 = .ok (.istore_n 2, 1) := by decide +kernel
theorem dd_MO_crash_9 : decode bb_MO_crash 9 = .ok (.iload_n 2, 1) := by decide +kernel
theorem dd_MO_crash_10 : decode bb_MO_crash 10 = .ok (.sipush 240, 3) := by decide +kernel
theorem dd_MO_crash_13 : decode bb_MO_crash 13 = .ok (.if_icmp .ge 33, 3) := by decide +kernel
theorem dd_MO_crash_16 : decode bb_MO_crash 16 = .ok (.aload_n 0, 1) := by decide +kernel
theorem dd_MO_crash_17 : decode bb_MO_crash 17 = .ok (.getfield 17, 3) := by decide +kernel
theorem dd_MO_crash_20 : decode bb_MO_crash 20 = .ok (.iload_n 2, 1) := by decide +kernel
theorem dd_MO_crash_21 : decode bb_MO_crash 21 = .ok (.baload, 1) := by decide +kernel
theorem dd_MO_crash_22 : decode bb_MO_crash 22 = .ok (.ifCond .eq 9, 3) := by decide +kernel
theorem dd_MO_crash_25 : decode bb_MO_crash 25 = .ok (.iload_n 1, 1) := by decide +kernel
theorem dd_MO_crash_26 : decode bb_MO_crash 26 = .ok (.iconst 1, 1) := by decide +kernel
theorem dd_MO_crash_27 : decode bb_MO_crash 27 = .ok (.iadd, 1) := by decide +kernel
theorem dd_MO_crash_28 : decode bb_MO_crash 28 = .ok (.goto 4, 3) := by decide +kernel
theorem dd_MO_crash_31 : decode bb_MO_crash 31 = .ok (.iload_n 1, 1) := by decide +kernel
theorem dd_MO_crash_32 : decode bb_MO_crash 32 = .ok (.istore_n 1, 1) := by decide +kernel
theorem dd_MO_crash_33 : decode bb_MO_crash 33 = .ok (.aload_n 0, 1) := by decide +kernel
theorem dd_MO_crash_34 : decode bb_MO_crash 34 = .ok (.getfield 17, 3) := by decide +kernel
theorem dd_MO_crash_37 : decode bb_MO_crash 37 = .ok (.iload_n 2, 1) := by decide +kernel
theorem dd_MO_crash_38 : decode bb_MO_crash 38 = .ok (.iconst 0, 1) := by decide +kernel
theorem dd_MO_crash_39 : decode bb_MO_crash 39 = .ok (.bastore, 1) := by decide +kernel
theorem dd_MO_crash_40 : decode bb_MO_crash 40 = .ok (.iinc 2 1, 3) := by decide +kernel
theorem dd_MO_crash_43 : decode bb_MO_crash 43 = .ok (.goto (-34), 3) := by decide +kernel
theorem dd_MO_crash_46 : decode bb_MO_crash 46 = .ok (.iload_n 1, 1) := by decide +kernel
theorem dd_MO_crash_47 : decode bb_MO_crash 47 = .ok (.ireturn, 1) := by decide +kernel
theorem dd_MO_extent_0 : decode bb_MO_extent 0 = .ok (.aload_n 0, 1) := by decide +kernel
theorem dd_MO_extent_1 : decode bb_MO_extent 1 = .ok (.iload_n 1, 1) := by decide +kernel
theorem dd_MO_extent_2 : decode bb_MO_extent 2 = .ok (.invokestatic 79, 3) := by decide +kernel
theorem dd_MO_extent_5 : decode bb_MO_extent 5 = .ok (.ifCond .ne 13, 3) := by decide +kernel
theorem dd_MO_extent_8 : decode bb_MO_extent 8 = .ok (.iload_n 2, 1) := by decide +kernel
theorem dd_MO_extent_9 : decode bb_MO_extent 9 = .ok (.ifCond .lt 9, 3) := by decide +kernel
theorem dd_MO_extent_12 : decode bb_MO_extent 12 = .ok (.iload_n 2, 1) := by decide +kernel
theorem dd_MO_extent_13 : decode bb_MO_extent 13 = .ok (.bipush 60, 2) := by decide +kernel
theorem dd_MO_extent_15 : decode bb_MO_extent 15 = .ok (.if_icmp .le 7, 3) := by decide +kernel
theorem dd_MO_extent_18 : decode bb_MO_extent 18 = .ok (.iconst 1, 1) := by decide +kernel
theorem dd_MO_extent_19 : decode bb_MO_extent 19 = .ok (.goto 4, 3) := by decide +kernel
theorem dd_MO_extent_22 : decode bb_MO_extent 22 = .ok (.iconst 0, 1) := by decide +kernel
theorem dd_MO_extent_23 : decode bb_MO_extent 23 = .ok (.putfield 35, 3) := by decide +kernel
theorem dd_MO_extent_26 : decode bb_MO_extent 26 = .ok (.aload_n 0, 1) := by decide +kernel
theorem dd_MO_extent_27 : decode bb_MO_extent 27 = .ok (.getfield 35, 3) := by decide +kernel
theorem dd_MO_extent_30 : decode bb_MO_extent 30 = .ok (.ifCond .ne 18, 3) := by decide +kernel
theorem dd_MO_extent_33 : decode bb_MO_extent 33 = .ok (.aload_n 0, 1) := by decide +kernel
theorem dd_MO_extent_34 : decode bb_MO_extent 34 = .ok (.iload_n 1, 1) := by decide +kernel
theorem dd_MO_extent_35 : decode bb_MO_extent 35 = .ok (.iload_n 2, 1) := by decide +kernel
theorem dd_MO_extent_36 : decode bb_MO_extent 36 = .ok (.invokevirtual 49, 3) := by decide +kernel
theorem dd_MO_extent_39 : decode bb_MO_extent 39 = .ok (.iload_n 2, 1) := by decide +kernel
theorem dd_MO_extent_40 : decode bb_MO_extent 40 = .ok (.if_icmp .gt 8, 3) := by decide +kernel
theorem dd_MO_extent_43 : decode bb_MO_extent 43 = .ok (.aload_n 0, 1) := by decide +kernel
theorem dd_MO_extent_44 : decode bb_MO_extent 44 = .ok (.iconst 1, 1) := by decide +kernel
theorem dd_MO_extent_45 : decode bb_MO_extent 45 = .ok (.putfield 35, 3) := by decide +kernel
theorem dd_MO_extent_48 : decode bb_MO_extent 48 = .ok (.aload_n 0, 1) := by decide +kernel
theorem dd_MO_extent_49 : decode bb_MO_extent 49 = .ok (.getfield 35, 3) := by decide +kernel
theorem dd_MO_extent_52 : decode bb_MO_extent 52 = .ok (.ifCond .ne 17, 3) := by decide +kernel
theorem dd_MO_extent_55 : decode bb_MO_extent 55 = .ok (.iload_n 3, 1) := by decide +kernel
theorem dd_MO_extent_56 : decode bb_MO_extent 56 = .ok (.ifCond .lt 8, 3) := by decide +kernel
theorem dd_MO_extent_59 : decode bb_MO_extent 59 = .ok (.iload_n 3, 1) := by decide +kernel
theorem dd_MO_extent_60 : decode bb_MO_extent 60 = .ok (.iconst 3, 1) := by decide +kernel
theorem dd_MO_extent_61 : decode bb_MO_extent 61 = .ok (.if_icmp .le 8, 3) := by decide +kernel
theorem dd_MO_extent_64 : decode bb_MO_extent 64 = .ok (.aload_n 0, 1) := by decide +kernel
theorem dd_MO_extent_65 : decode bb_MO_extent 65 = .ok (.iconst 2, 1) := by decide +kernel
theorem dd_MO_extent_66 : decode bb_MO_extent 66 = .ok (.putfield 35, 3) := by decide +kernel
theorem dd_MO_extent_69 : decode bb_MO_extent 69 = .ok (.aload_n 0, 1) := by decide +kernel
theorem dd_MO_extent_70 : decode bb_MO_extent 70 = .ok (.getfield 35, 3) := by decide +kernel
theorem dd_MO_extent_73 : decode bb_MO_extent 73 = .ok (.ifCond .le 5, 3) := by decide +kernel
theorem dd_MO_extent_76 : decode bb_MO_extent 76 = .ok (.iconst 0, 1) := by decide +kernel
theorem dd_MO_extent_77 : decode bb_MO_extent 77 = .ok (.ireturn, 1) := by decide +kernel
theorem dd_MO_extent_78 : decode bb_MO_extent 78 = .ok (.iload_n 3, 1) := by decide +kernel
theorem dd_MO_extent_79 : decode bb_MO_extent 79 = .ok (.ifCond .ne 15, 3) := by decide +kernel
theorem dd_MO_extent_82 : decode bb_MO_extent 82 = .ok (.aload_n 0, 1) := by decide +kernel
theorem dd_MO_extent_83 : decode bb_MO_extent 83 = .ok (.getfield 46, 3) := by decide +kernel
theorem dd_MO_extent_86 : decode bb_MO_extent 86 = .ok (.bipush 60, 2) := by decide +kernel
theorem dd_MO_extent_88 : decode bb_MO_extent 88 = .ok (.iload_n 1, 1) := by decide +kernel
theorem dd_MO_extent_89 : decode bb_MO_extent 89 = .ok (.imul, 1) := by decide +kernel
theorem dd_MO_extent_90 : decode bb_MO_extent 90 = .ok (.isub, 1) := by decide +kernel
theorem dd_MO_extent_91 : decode bb_MO_extent 91 = .ok (.goto 49, 3) := by decide +kernel
theorem dd_MO_extent_94 : decode bb_MO_extent 94 = .ok (.iload_n 3, 1) := by decide +kernel
theorem dd_MO_extent_95 : decode bb_MO_extent 95 = .ok (.iconst 1, 1) := by decide +kernel
theorem dd_MO_extent_96 : decode bb_MO_extent 96 = .ok (.if_icmp .ne 15, 3) := by decide +kernel
theorem dd_MO_extent_99 : decode bb_MO_extent 99 = .ok (.aload_n 0, 1) := by decide +kernel
theorem dd_MO_extent_100 : decode bb_MO_extent 100 = .ok (.getfield 7, 3) := by decide +kernel
theorem dd_MO_extent_103 : decode bb_MO_extent 103 = .ok (.aload_n 0, 1) := by decide +kernel
theorem dd_MO_extent_104 : decode bb_MO_extent 104 = .ok (.getfield 46, 3) := by decide +kernel
theorem dd_MO_extent_107 : decode bb_MO_extent 107 = .ok (.iaload, 1) := by decide +kernel
theorem dd_MO_extent_108 : decode bb_MO_extent 108 = .ok (.goto 32, 3) := by decide +kernel
theorem dd_MO_extent_111 : decode bb_MO_extent 111 = .ok (.iload_n 3, 1) := by decide +kernel
theorem dd_MO_extent_112 : decode bb_MO_extent 112 = .ok (.iconst 2, 1) := by decide +kernel
theorem dd_MO_extent_113 : decode bb_MO_extent 113 = .ok (.if_icmp .ne 10, 3) := by decide +kernel
theorem dd_MO_extent_116 : decode bb_MO_extent 116 = .ok (.aload_n 0, 1) := by decide +kernel
theorem dd_MO_extent_117 : decode bb_MO_extent 117 = .ok (.getfield 39, 3) := by decide +kernel
theorem dd_MO_extent_120 : decode bb_MO_extent 120 = .ok (.goto 20, 3) := by decide +kernel
theorem dd_MO_extent_123 : decode bb_MO_extent 123 = .ok (.aload_n 0, 1) := by decide +kernel
theorem dd_MO_extent_124 : decode bb_MO_extent 124 = .ok (.getfield 13, 3) := by decide +kernel
theorem dd_MO_extent_127 : decode bb_MO_extent 127 = .ok (.aload_n 0, 1) := by decide +kernel
theorem dd_MO_extent_128 : decode bb_MO_extent 128 = .ok (.getfield 46, 3) := by decide +kernel
theorem dd_MO_extent_131 : decode bb_MO_extent 131 = .ok (.baload, 1) := by decide +kernel
theorem dd_MO_extent_132 : decode bb_MO_extent 132 = .ok (.ifCond .eq 7, 3) := by decide +kernel
theorem dd_MO_extent_135 : decode bb_MO_extent 135 = .ok (.iconst 0, 1) := by decide +kernel
theorem dd_MO_extent_136 : decode bb_MO_extent 136 = .ok (.goto 4, 3) := by decide +kernel
theorem dd_MO_extent_139 : decode bb_MO_extent 139 = .ok (.iconst 1, 1) := by decide +kernel
theorem dd_MO_extent_140 : decode bb_MO_extent 140 = .ok (.ireturn, 1) := by decide +kernel
theorem dd_MO_about_0 : decode bb_MO_about 0 = .ok (.aload_n 0, 1) := by decide +kernel
theorem dd_MO_about_1 : decode bb_MO_about 1 = .ok (.iload_n 1, 1) := by decide +kernel
theorem dd_MO_about_2 : decode bb_MO_about 2 = .ok (.invokestatic 79, 3) := by decide +kernel
theorem dd_MO_about_5 : decode bb_MO_about 5 = .ok (.ifCond .eq 7, 3) := by decide +kernel
theorem dd_MO_about_8 : decode bb_MO_about 8 = .ok (.iconst 1, 1) := by decide +kernel
theorem dd_MO_about_9 : decode bb_MO_about 9 = .ok (.goto 17, 3) := by decide +kernel
theorem dd_MO_about_12 : decode bb_MO_about 12 = .ok (.iload_n 2, 1) := by decide +kernel
theorem dd_MO_about_13 : decode bb_MO_about 13 = .ok (.ifCond .lt 8, 3) := by decide +kernel
theorem dd_MO_about_16 : decode bb_MO_about 16 = .ok (.iload_n 2, 1) := by decide +kernel
theorem dd_MO_about_17 : decode bb_MO_about 17 = .ok (.iconst 5, 1) := by decide +kernel
theorem dd_MO_about_18 : decode bb_MO_about 18 = .ok (.if_icmp .le 7, 3) := by decide +kernel
theorem dd_MO_about_21 : decode bb_MO_about 21 = .ok (.iconst 2, 1) := by decide +kernel
theorem dd_MO_about_22 : decode bb_MO_about 22 = .ok (.goto 4, 3) := by decide +kernel
theorem dd_MO_about_25 : decode bb_MO_about 25 = .ok (.iconst 0, 1) := by decide +kernel
theorem dd_MO_about_26 : decode bb_MO_about 26 = .ok (.putfield 35, 3) := by decide +kernel
theorem dd_MO_about_29 : decode bb_MO_about 29 = .ok (.aload_n 0, 1) := by decide +kernel
theorem dd_MO_about_30 : decode bb_MO_about 30 = .ok (.getfield 35, 3) := by decide +kernel
theorem dd_MO_about_33 : decode bb_MO_about 33 = .ok (.ifCond .le 5, 3) := by decide +kernel
theorem dd_MO_about_36 : decode bb_MO_about 36 = .ok (.iconst 0, 1) := by decide +kernel
theorem dd_MO_about_37 : decode bb_MO_about 37 = .ok (.ireturn, 1) := by decide +kernel
theorem dd_MO_about_38 : decode bb_MO_about 38 = .ok (.iload_n 2, 1) := by decide +kernel
theorem dd_MO_about_72 : decode bb_MO_about 72 = .ok (.aload_n 0, 1) := by decide +kernel
theorem dd_MO_about_73 : decode bb_MO_about 73 = .ok (.getfield 23, 3) := by decide +kernel
theorem dd_MO_about_76 : decode bb_MO_about 76 = .ok (.iload_n 1, 1) := by decide +kernel
theorem dd_MO_about_77 : decode bb_MO_about 77 = .ok (.iaload, 1) := by decide +kernel
theorem dd_MO_about_78 : decode bb_MO_about 78 = .ok (.ireturn, 1) := by decide +kernel
theorem dd_MO_about_79 : decode bb_MO_about 79 = .ok (.aload_n 0, 1) := by decide +kernel
theorem dd_MO_about_80 : decode bb_MO_about 80 = .ok (.iload_n 1, 1) := by decide +kernel
theorem dd_MO_about_81 : decode bb_MO_about 81 = .ok (.invokevirtual 60, 3) := by decide +kernel
theorem dd_MO_about_84 : decode bb_MO_about 84 = .ok (.ireturn, 1) := by decide +kernel
theorem dd_MO_about_85 : decode bb_MO_about 85 = .ok (.aload_n 0, 1) := by decide +kernel
theorem dd_MO_about_86 : decode bb_MO_about 86 = .ok (.iload_n 1, 1) := by decide +kernel
theorem dd_MO_about_87 : decode bb_MO_about 87 = .ok (.bipush 60, 2) := by decide +kernel
theorem dd_MO_about_89 : decode bb_MO_about 89 = .ok (.invokevirtual 49, 3) := by decide +kernel
theorem dd_MO_about_92 : decode bb_MO_about 92 = .ok (.ireturn, 1) := by decide +kernel
theorem dd_MO_about_93 : decode bb_MO_about 93 = .ok (.aload_n 0, 1) := by decide +kernel
theorem dd_MO_about_94 : decode bb_MO_about 94 = .ok (.iload_n 1, 1) := by decide +kernel
theorem dd_MO_about_95 : decode bb_MO_about 95 = .ok (.bipush 60, 2) := by decide +kernel
theorem dd_MO_about_97 : decode bb_MO_about 97 = .ok (.invokevirtual 49, 3) := by decide +kernel
theorem dd_MO_about_100 : decode bb_MO_about 100 = .ok (.invokestatic 53, 3) := by decide +kernel
theorem dd_MO_about_103 : decode bb_MO_about 103 = .ok (.ireturn, 1) := by decide +kernel
theorem dd_MO_about_104 : decode bb_MO_about 104 = .ok (.aload_n 0, 1) := by decide +kernel
theorem dd_MO_about_105 : decode bb_MO_about 105 = .ok (.iload_n 1, 1) := by decide +kernel
theorem dd_MO_about_106 : decode bb_MO_about 106 = .ok (.invokevirtual 76, 3) := by decide +kernel
theorem dd_MO_about_109 : decode bb_MO_about 109 = .ok (.ireturn, 1) := by decide +kernel
theorem dd_MO_about_110 : decode bb_MO_about 110 = .ok (.aload_n 0, 1) := by decide +kernel
theorem dd_MO_about_111 : decode bb_MO_about 111 = .ok (.iload_n 1, 1) := by decide +kernel
theorem dd_MO_about_112 : decode bb_MO_about 112 = .ok (.invokevirtual 57, 3) := by decide +kernel
theorem dd_MO_about_115 : decode bb_MO_about 115 = .ok (.ireturn, 1) := by decide +kernel
theorem dd_MO_free_0 : decode bb_MO_free 0 = .ok (.aload_n 0, 1) := by decide +kernel
theorem dd_MO_free_1 : decode bb_MO_free 1 = .ok (.iconst 0, 1) := by decide +kernel
theorem dd_MO_free_2 : decode bb_MO_free 2 = .ok (.putfield 35, 3) := by decide +kernel
theorem dd_MO_free_5 : decode bb_MO_free 5 = .ok (.aload_n 0, 1) := by decide +kernel
theorem dd_MO_free_6 : decode bb_MO_free 6 = .ok (.invokevirtual 85, 3) := by decide +kernel
theorem dd_MO_free_9 : decode bb_MO_free 9 = .ok (.ireturn, 1) := by decide +kernel
theorem dd_MO_reserved_0 : decode bb_MO_reserved 0 = .ok (.aload_n 0, 1) := by decide +kernel
theorem dd_MO_reserved_1 : decode bb_MO_reserved 1 = .ok (.iconst 0, 1) := by decide +kernel
theorem dd_MO_reserved_2 : decode bb_MO_reserved 2 = .ok (.putfield 35, 3) := by decide +kernel
theorem dd_MO_reserved_5 : decode bb_MO_reserved 5 = .ok (.aload_n 0, 1) := by decide +kernel
theorem dd_MO_reserved_6 : decode bb_MO_reserved 6 = .ok (.invokevirtual 89, 3) := by decide +kernel
theorem dd_MO_reserved_9 : decode bb_MO_reserved 9 = .ok (.ireturn, 1) := by decide +kernel
theorem dd_MO_owner_0 : decode bb_MO_owner 0 = .ok (.aload_n 0, 1) := by decide +kernel
theorem dd_MO_owner_1 : decode bb_MO_owner 1 = .ok (.iload_n 1, 1) := by decide +kernel
theorem dd_MO_owner_2 : decode bb_MO_owner 2 = .ok (.ifCond .lt 9, 3) := by decide +kernel
theorem dd_MO_owner_5 : decode bb_MO_owner 5 = .ok (.iload_n 1, 1) := by decide +kernel
theorem dd_MO_owner_6 : decode bb_MO_owner 6 = .ok (.bipush 79, 2) := by decide +kernel
theorem dd_MO_owner_8 : decode bb_MO_owner 8 = .ok (.if_icmp .le 7, 3) := by decide +kernel
theorem dd_MO_owner_11 : decode bb_MO_owner 11 = .ok (.iconst 1, 1) := by decide +kernel
theorem dd_MO_owner_12 : decode bb_MO_owner 12 = .ok (.goto 4, 3) := by decide +kernel
theorem dd_MO_owner_15 : decode bb_MO_owner 15 = .ok (.iconst 0, 1) := by decide +kernel
theorem dd_MO_owner_16 : decode bb_MO_owner 16 = .ok (.putfield 35, 3) := by decide +kernel
theorem dd_MO_owner_19 : decode bb_MO_owner 19 = .ok (.aload_n 0, 1) := by decide +kernel
theorem dd_MO_owner_20 : decode bb_MO_owner 20 = .ok (.getfield 35, 3) := by decide +kernel
theorem dd_MO_owner_23 : decode bb_MO_owner 23 = .ok (.ifCond .le 7, 3) := by decide +kernel
theorem dd_MO_owner_26 : decode bb_MO_owner 26 = .ok (.iconst 0, 1) := by decide +kernel
theorem dd_MO_owner_27 : decode bb_MO_owner 27 = .ok (.goto 9, 3) := by decide +kernel
theorem dd_MO_owner_30 : decode bb_MO_owner 30 = .ok (.aload_n 0, 1) := by decide +kernel
theorem dd_MO_owner_31 : decode bb_MO_owner 31 = .ok (.getfield 26, 3) := by decide +kernel
theorem dd_MO_owner_34 : decode bb_MO_owner 34 = .ok (.iload_n 1, 1) := by decide +kernel
theorem dd_MO_owner_35 : decode bb_MO_owner 35 = .ok (.iaload, 1) := by decide +kernel
theorem dd_MO_owner_36 : decode bb_MO_owner 36 = .ok (.ireturn, 1) := by decide +kernel
theorem dd_MO_value_0 : decode bb_MO_value 0 = .ok (.aload_n 0, 1) := by decide +kernel
theorem dd_MO_value_1 : decode bb_MO_value 1 = .ok (.iload_n 1, 1) := by decide +kernel
theorem dd_MO_value_2 : decode bb_MO_value 2 = .ok (.ifCond .lt 9, 3) := by decide +kernel
theorem dd_MO_value_5 : decode bb_MO_value 5 = .ok (.iload_n 1, 1) := by decide +kernel
theorem dd_MO_value_6 : decode bb_MO_value 6 = .ok (.bipush 79, 2) := by decide +kernel
theorem dd_MO_value_8 : decode bb_MO_value 8 = .ok (.if_icmp .le 7, 3) := by decide +kernel
theorem dd_MO_value_11 : decode bb_MO_value 11 = .ok (.iconst 1, 1) := by decide +kernel
theorem dd_MO_value_12 : decode bb_MO_value 12 = .ok (.goto 4, 3) := by decide +kernel
theorem dd_MO_value_15 : decode bb_MO_value 15 = .ok (.iconst 0, 1) := by decide +kernel
theorem dd_MO_value_16 : decode bb_MO_value 16 = .ok (.putfield 35, 3) := by decide +kernel
theorem dd_MO_value_19 : decode bb_MO_value 19 = .ok (.aload_n 0, 1) := by decide +kernel
theorem dd_MO_value_20 : decode bb_MO_value 20 = .ok (.getfield 35, 3) := by decide +kernel
theorem dd_MO_value_23 : decode bb_MO_value 23 = .ok (.ifCond .le 7, 3) := by decide +kernel
theorem dd_MO_value_26 : decode bb_MO_value 26 = .ok (.iconst 0, 1) := by decide +kernel
theorem dd_MO_value_27 : decode bb_MO_value 27 = .ok (.goto 9, 3) := by decide +kernel
theorem dd_MO_value_30 : decode bb_MO_value 30 = .ok (.aload_n 0, 1) := by decide +kernel
theorem dd_MO_value_31 : decode bb_MO_value 31 = .ok (.getfield 29, 3) := by decide +kernel
theorem dd_MO_value_34 : decode bb_MO_value 34 = .ok (.iload_n 1, 1) := by decide +kernel
theorem dd_MO_value_35 : decode bb_MO_value 35 = .ok (.iaload, 1) := by decide +kernel
theorem dd_MO_value_36 : decode bb_MO_value 36 = .ok (.ireturn, 1) := by decide +kernel
end
section
theorem dd_DE_init_0 : decode bb_DE_init 0 = .ok (.aload_n 0, 1) := by decide +kernel
theorem dd_DE_init_1 : decode bb_DE_init 1 = .ok (.invokespecial 1, 3) := by decide +kernel
theorem dd_DE_init_4 : decode bb_DE_init 4 = .ok (.aload_n 0, 1) := by decide +kernel
theorem dd_DE_init_5 : decode bb_DE_init 5 = .ok (.new 7, 3) := by decide +kernel
theorem dd_DE_init_8 : decode bb_DE_init 8 = .ok (.dup, 1) := by decide +kernel
theorem dd_DE_init_9 : decode bb_DE_init 9 = .ok (.invokespecial 9, 3) := by decide +kernel
theorem dd_DE_init_12 : decode bb_DE_init 12 = .ok (.putfield 10, 3) := by decide +kernel
theorem dd_DE_init_15 : decode bb_DE_init 15 = .ok (.aload_n 0, 1) := by decide +kernel
theorem dd_DE_init_16 : decode bb_DE_init 16 = .ok (.iconst 4, 1) := by decide +kernel
theorem dd_DE_init_17 : decode bb_DE_init 17 = .ok (.anewarray 16, 3) := by decide +kernel
theorem dd_DE_init_20 : decode bb_DE_init 20 = .ok (.putfield 18, 3) := by decide +kernel
theorem dd_DE_init_23 : decode bb_DE_init 23 = .ok (.iconst 0, 1) := by decide +kernel
theorem dd_DE_init_24 : decode bb_DE_init 24 = .ok (.istore_n 1, 1) := by decide +kernel
theorem dd_DE_init_25 : decode bb_DE_init 25 = .ok (.iload_n 1, 1) := by decide +kernel
theorem dd_DE_init_26 : decode bb_DE_init 26 = .ok (.iconst 4, 1) := by decide +kernel
theorem dd_DE_init_27 : decode bb_DE_init 27 = .ok (.if_icmp .ge 30, 3) := by decide +kernel
theorem dd_DE_init_30 : decode bb_DE_init 30 = .ok (.aload_n 0, 1) := by decide +kernel
theorem dd_DE_init_31 : decode bb_DE_init 31 = .ok (.getfield 18, 3) := by decide +kernel
theorem dd_DE_init_34 : decode bb_DE_init 34 = .ok (.iload_n 1, 1) := by decide +kernel
theorem dd_DE_init_35 : decode bb_DE_init 35 = .ok (.new 16, 3) := by decide +kernel
theorem dd_DE_init_38 : decode bb_DE_init 38 = .ok (.dup, 1) := by decide +kernel
theorem dd_DE_init_39 : decode bb_DE_init 39 = .ok (.aload_n 0, 1) := by decide +kernel
theorem dd_DE_init_40 : decode bb_DE_init 40 = .ok (.getfield 10, 3) := by decide +kernel
theorem dd_DE_init_43 : decode bb_DE_init 43 = .ok (.iload_n 1, 1) := by decide +kernel
theorem dd_DE_init_44 : decode bb_DE_init 44 = .ok (.bipush 60, 2) := by decide +kernel
theorem dd_DE_init_46 : decode bb_DE_init 46 = .ok (.imul, 1) := by decide +kernel
theorem dd_DE_init_47 : decode bb_DE_init 47 = .ok (.invokespecial 22, 3) := by decide +kernel
theorem dd_DE_init_50 : decode bb_DE_init 50 = .ok (.aastore, 1) := by decide +kernel
theorem dd_DE_init_51 : decode bb_DE_init 51 = .ok (.iinc 1 1, 3) := by decide +kernel
theorem dd_DE_init_54 : decode bb_DE_init 54 = .ok (.goto (-29), 3) := by decide +kernel
theorem dd_DE_init_57 : decode bb_DE_init 57 = .ok (.return_, 1) := by decide +kernel
theorem dd_DE_write_0 : decode bb_DE_write 0 = .ok (.iload_n 1, 1) := by decide +kernel
theorem dd_DE_write_1 : decode bb_DE_write 1 = .ok (.iload_n 2, 1) := by decide +kernel
theorem dd_DE_write_2 : decode bb_DE_write 2 = .ok (.invokestatic 25, 3) := by decide +kernel
theorem dd_DE_write_5 : decode bb_DE_write 5 = .ok (.aload_n 0, 1) := by decide +kernel
theorem dd_DE_write_6 : decode bb_DE_write 6 = .ok (.getfield 18, 3) := by decide +kernel
theorem dd_DE_write_9 : decode bb_DE_write 9 = .ok (.iload_n 1, 1) := by decide +kernel
theorem dd_DE_write_10 : decode bb_DE_write 10 = .ok (.aaload, 1) := by decide +kernel
theorem dd_DE_write_11 : decode bb_DE_write 11 = .ok (.astore 4, 2) := by decide +kernel
theorem dd_DE_write_13 : decode bb_DE_write 13 = .ok (.aload 4, 2) := by decide +kernel
theorem dd_DE_write_15 : decode bb_DE_write 15 = .ok (.iload_n 2, 1) := by decide +kernel
theorem dd_DE_write_16 : decode bb_DE_write 16 = .ok (.invokevirtual 29, 3) := by decide +kernel
theorem dd_DE_write_19 : decode bb_DE_write 19 = .ok (.ifCond .ne 7, 3) := by decide +kernel
theorem dd_DE_write_22 : decode bb_DE_write 22 = .ok (.iconst 1, 1) := by decide +kernel
theorem dd_DE_write_23 : decode bb_DE_write 23 = .ok (.goto 4, 3) := by decide +kernel
theorem dd_DE_write_26 : decode bb_DE_write 26 = .ok (.iconst 0, 1) := by decide +kernel
theorem dd_DE_write_27 : decode bb_DE_write 27 = .ok (.istore 5, 2) := by decide +kernel
theorem dd_DE_write_29 : decode bb_DE_write 29 = .ok (.iload 5, 2) := by decide +kernel
theorem dd_DE_write_31 : decode bb_DE_write 31 = .ok (.ifCond .eq 20, 3) := by decide +kernel
theorem dd_DE_write_34 : decode bb_DE_write 34 = .ok (.aload_n 0, 1) := by decide +kernel
theorem dd_DE_write_35 : decode bb_DE_write 35 = .ok (.invokevirtual 33, 3) := by decide +kernel
theorem dd_DE_write_38 : decode bb_DE_write 38 = .ok (.bipush 24, 2) := by decide +kernel
theorem dd_DE_write_40 : decode bb_DE_write 40 = .ok (.if_icmp .lt 11, 3) := by decide +kernel
theorem dd_DE_write_43 : decode bb_DE_write 43 = .ok (.new 37, 3) := by decide +kernel
theorem dd_DE_write_46 : decode bb_DE_write 46 = .ok (.dup, 1) := by decide +kernel
theorem dd_DE_write_47 : decode bb_DE_write 47 = .ok (.invokespecial 39, 3) := by decide +kernel
theorem dd_DE_write_50 : decode bb_DE_write 50 = .ok (.athrow, 1) := by decide +kernel
theorem dd_DE_write_51 : decode bb_DE_write 51 = .ok (.aload 4, 2) := by decide +kernel
theorem dd_DE_write_53 : decode bb_DE_write 53 = .ok (.iload_n 2, 1) := by decide +kernel
theorem dd_DE_write_54 : decode bb_DE_write 54 = .ok (.iload_n 3, 1) := by decide +kernel
theorem dd_DE_write_55 : decode bb_DE_write 55 = .ok (.invokevirtual 40, 3) := by decide +kernel
theorem dd_DE_write_58 : decode bb_DE_write 58 = .ok (.iload 5, 2) := by decide +kernel
theorem dd_DE_write_60 : decode bb_DE_write 60 = .ok (.ifCond .eq 24, 3) := by decide +kernel
theorem dd_DE_write_63 : decode bb_DE_write 63 = .ok (.aload_n 0, 1) := by decide +kernel
theorem dd_DE_write_64 : decode bb_DE_write 64 = .ok (.invokevirtual 43, 3) := by decide +kernel
theorem dd_DE_write_67 : decode bb_DE_write 67 = .ok (.ifCond .eq 17, 3) := by decide +kernel
theorem dd_DE_write_70 : decode bb_DE_write 70 = .ok (.aload 4, 2) := by decide +kernel
theorem dd_DE_write_72 : decode bb_DE_write 72 = .ok (.iload_n 2, 1) := by decide +kernel
theorem dd_DE_write_73 : decode bb_DE_write 73 = .ok (.invokevirtual 47, 3) := by decide +kernel
theorem dd_DE_write_76 : decode bb_DE_write 76 = .ok (.new 51, 3) := by decide +kernel
theorem dd_DE_write_79 : decode bb_DE_write 79 = .ok (.dup, 1) := by decide +kernel
theorem dd_DE_write_80 : decode bb_DE_write 80 = .ok (.invokespecial 53, 3) := by decide +kernel
theorem dd_DE_write_83 : decode bb_DE_write 83 = .ok (.athrow, 1) := by decide +kernel
theorem dd_DE_write_84 : decode bb_DE_write 84 = .ok (.aload 4, 2) := by decide +kernel
theorem dd_DE_write_86 : decode bb_DE_write 86 = .ok (.iload_n 2, 1) := by decide +kernel
theorem dd_DE_write_87 : decode bb_DE_write 87 = .ok (.iconst 1, 1) := by decide +kernel
theorem dd_DE_write_88 : decode bb_DE_write 88 = .ok (.iadd, 1) := by decide +kernel
theorem dd_DE_write_89 : decode bb_DE_write 89 = .ok (.invokevirtual 54, 3) := by decide +kernel
theorem dd_DE_write_92 : decode bb_DE_write 92 = .ok (.return_, 1) := by decide +kernel
theorem dd_DE_read_0 : decode bb_DE_read 0 = .ok (.iload_n 1, 1) := by decide +kernel
theorem dd_DE_read_1 : decode bb_DE_read 1 = .ok (.iload_n 2, 1) := by decide +kernel
theorem dd_DE_read_2 : decode bb_DE_read 2 = .ok (.invokestatic 25, 3) := by decide +kernel
theorem dd_DE_read_5 : decode bb_DE_read 5 = .ok (.aload_n 0, 1) := by decide +kernel
theorem dd_DE_read_6 : decode bb_DE_read 6 = .ok (.getfield 18, 3) := by decide +kernel
theorem dd_DE_read_9 : decode bb_DE_read 9 = .ok (.iload_n 1, 1) := by decide +kernel
theorem dd_DE_read_10 : decode bb_DE_read 10 = .ok (.aaload, 1) := by decide +kernel
theorem dd_DE_read_11 : decode bb_DE_read 11 = .ok (.iload_n 2, 1) := by decide +kernel
theorem dd_DE_read_12 : decode bb_DE_read 12 = .ok (.invokevirtual 57, 3) := by decide +kernel
theorem dd_DE_read_15 : decode bb_DE_read 15 = .ok (.ireturn, 1) := by decide +kernel
theorem dd_DE_preallocate_0 : decode bb_DE_preallocate 0 = .ok (.iload_n 1, 1) := by decide +kernel
theorem dd_DE_preallocate_1 : decode bb_DE_preallocate 1 = .ok (.iload_n 2, 1) := by decide +kernel
theorem dd_DE_preallocate_2 : decode bb_DE_preallocate 2 = .ok (.invokestatic 25, 3) := by decide +kernel
theorem dd_DE_preallocate_5 : decode bb_DE_preallocate 5 = .ok (.iload_n 2, 1) := by decide +kernel
theorem dd_DE_preallocate_6 : decode bb_DE_preallocate 6 = .ok (.iload_n 3, 1) := by decide +kernel
theorem dd_DE_preallocate_7 : decode bb_DE_preallocate 7 = .ok (.invokestatic 61, 3) := by decide +kernel
theorem dd_DE_preallocate_10 : decode bb_DE_preallocate 10 = .ok (.aload_n 0, 1) := by decide +kernel
theorem dd_DE_preallocate_11 : decode bb_DE_preallocate 11 = .ok (.getfield 18, 3) := by decide +kernel
theorem dd_DE_preallocate_14 : decode bb_DE_preallocate 14 = .ok (.iload_n 1, 1) := by decide +kernel
theorem dd_DE_preallocate_15 : decode bb_DE_preallocate 15 = .ok (.aaload, 1) := by decide +kernel
theorem dd_DE_preallocate_16 : decode bb_DE_preallocate 16 = .ok (.astore 4, 2) := by decide +kernel
theorem dd_DE_preallocate_18 : decode bb_DE_preallocate 18 = .ok (.iload_n 2, 1) := by decide +kernel
theorem dd_DE_preallocate_19 : decode bb_DE_preallocate 19 = .ok (.iload_n 3, 1) := by decide +kernel
theorem dd_DE_preallocate_20 : decode bb_DE_preallocate 20 = .ok (.iadd, 1) := by decide +kernel
theorem dd_DE_preallocate_21 : decode bb_DE_preallocate 21 = .ok (.istore 5, 2) := by decide +kernel
theorem dd_DE_preallocate_23 : decode bb_DE_preallocate 23 = .ok (.aload 4, 2) := by decide +kernel
theorem dd_DE_preallocate_25 : decode bb_DE_preallocate 25 = .ok (.iload_n 2, 1) := by decide +kernel
theorem dd_DE_preallocate_26 : decode bb_DE_preallocate 26 = .ok (.iload 5, 2) := by decide +kernel
theorem dd_DE_preallocate_28 : decode bb_DE_preallocate 28 = .ok (.invokevirtual 64, 3) := by decide +kernel
theorem dd_DE_preallocate_31 : decode bb_DE_preallocate 31 = .ok (.istore 6, 2) := by decide +kernel
theorem dd_DE_preallocate_33 : decode bb_DE_preallocate 33 = .ok (.iload 6, 2) := by decide +kernel
theorem dd_DE_preallocate_35 : decode bb_DE_preallocate 35 = .ok (.aload_n 0, 1) := by decide +kernel
theorem dd_DE_preallocate_36 : decode bb_DE_preallocate 36 = .ok (.getfield 10, 3) := by decide +kernel
theorem dd_DE_preallocate_39 : decode bb_DE_preallocate 39 = .ok (.invokevirtual 68, 3) := by decide +kernel
theorem dd_DE_preallocate_42 : decode bb_DE_preallocate 42 = .ok (.if_icmp .le 11, 3) := by decide +kernel
theorem dd_DE_preallocate_45 : decode bb_DE_preallocate 45 = .ok (.new 51, 3) := by decide +kernel
theorem dd_DE_preallocate_48 : decode bb_DE_preallocate 48 = .ok (.dup, 1) := by decide +kernel
theorem dd_DE_preallocate_49 : decode bb_DE_preallocate 49 = .ok (.invokespecial 53, 3) := by decide +kernel
theorem dd_DE_preallocate_52 : decode bb_DE_preallocate 52 = .ok (.athrow, 1) := by decide +kernel
theorem dd_DE_preallocate_53 : decode bb_DE_preallocate 53 = .ok (.aload 4, 2) := by decide +kernel
theorem dd_DE_preallocate_55 : decode bb_DE_preallocate 55 = .ok (.invokevirtual 71, 3) := by decide +kernel
theorem dd_DE_preallocate_58 : decode bb_DE_preallocate 58 = .ok (.aload 4, 2) := by decide +kernel
theorem dd_DE_preallocate_60 : decode bb_DE_preallocate 60 = .ok (.iload_n 2, 1) := by decide +kernel
theorem dd_DE_preallocate_61 : decode bb_DE_preallocate 61 = .ok (.iload 5, 2) := by decide +kernel
theorem dd_DE_preallocate_63 : decode bb_DE_preallocate 63 = .ok (.iconst 0, 1) := by decide +kernel
theorem dd_DE_preallocate_64 : decode bb_DE_preallocate 64 = .ok (.invokevirtual 74, 3) := by decide +kernel
theorem dd_DE_preallocate_67 : decode bb_DE_preallocate 67 = .ok (.aload_n 0, 1) := by decide +kernel
theorem dd_DE_preallocate_68 : decode bb_DE_preallocate 68 = .ok (.invokevirtual 43, 3) := by decide +kernel
theorem dd_DE_preallocate_71 : decode bb_DE_preallocate 71 = .ok (.ifCond .eq 16, 3) := by decide +kernel
theorem dd_DE_preallocate_74 : decode bb_DE_preallocate 74 = .ok (.aload 4, 2) := by decide +kernel
theorem dd_DE_preallocate_76 : decode bb_DE_preallocate 76 = .ok (.invokevirtual 78, 3) := by decide +kernel
theorem dd_DE_preallocate_79 : decode bb_DE_preallocate 79 = .ok (.new 51, 3) := by decide +kernel
theorem dd_DE_preallocate_82 : decode bb_DE_preallocate 82 = .ok (.dup, 1) := by decide +kernel
theorem dd_DE_preallocate_83 : decode bb_DE_preallocate 83 = .ok (.invokespecial 53, 3) := by decide +kernel
theorem dd_DE_preallocate_86 : decode bb_DE_preallocate 86 = .ok (.athrow, 1) := by decide +kernel
theorem dd_DE_preallocate_87 : decode bb_DE_preallocate 87 = .ok (.iload 6, 2) := by decide +kernel
theorem dd_DE_preallocate_89 : decode bb_DE_preallocate 89 = .ok (.ireturn, 1) := by decide +kernel
theorem dd_DE_punch_0 : decode bb_DE_punch 0 = .ok (.iload_n 1, 1) := by decide +kernel
theorem dd_DE_punch_1 : decode bb_DE_punch 1 = .ok (.iload_n 2, 1) := by decide +kernel
theorem dd_DE_punch_2 : decode bb_DE_punch 2 = .ok (.invokestatic 25, 3) := by decide +kernel
theorem dd_DE_punch_5 : decode bb_DE_punch 5 = .ok (.iload_n 2, 1) := by decide +kernel
theorem dd_DE_punch_6 : decode bb_DE_punch 6 = .ok (.iload_n 3, 1) := by decide +kernel
theorem dd_DE_punch_7 : decode bb_DE_punch 7 = .ok (.invokestatic 61, 3) := by decide +kernel
theorem dd_DE_punch_10 : decode bb_DE_punch 10 = .ok (.aload_n 0, 1) := by decide +kernel
theorem dd_DE_punch_11 : decode bb_DE_punch 11 = .ok (.getfield 18, 3) := by decide +kernel
theorem dd_DE_punch_14 : decode bb_DE_punch 14 = .ok (.iload_n 1, 1) := by decide +kernel
theorem dd_DE_punch_15 : decode bb_DE_punch 15 = .ok (.aaload, 1) := by decide +kernel
theorem dd_DE_punch_16 : decode bb_DE_punch 16 = .ok (.iload_n 2, 1) := by decide +kernel
theorem dd_DE_punch_17 : decode bb_DE_punch 17 = .ok (.iload_n 2, 1) := by decide +kernel
theorem dd_DE_punch_18 : decode bb_DE_punch 18 = .ok (.iload_n 3, 1) := by decide +kernel
theorem dd_DE_punch_19 : decode bb_DE_punch 19 = .ok (.iadd, 1) := by decide +kernel
theorem dd_DE_punch_20 : decode bb_DE_punch 20 = .ok (.invokevirtual 81, 3) := by decide +kernel
theorem dd_DE_punch_23 : decode bb_DE_punch 23 = .ok (.ireturn, 1) := by decide +kernel
theorem dd_DE_truncate_0 : decode bb_DE_truncate 0 = .ok (.iload_n 1, 1) := by decide +kernel
theorem dd_DE_truncate_1 : decode bb_DE_truncate 1 = .ok (.invokestatic 84, 3) := by decide +kernel
theorem dd_DE_truncate_4 : decode bb_DE_truncate 4 = .ok (.iload_n 2, 1) := by decide +kernel
theorem dd_DE_truncate_5 : decode bb_DE_truncate 5 = .ok (.ifCond .lt 9, 3) := by decide +kernel
theorem dd_DE_truncate_8 : decode bb_DE_truncate 8 = .ok (.iload_n 2, 1) := by decide +kernel
theorem dd_DE_truncate_9 : decode bb_DE_truncate 9 = .ok (.bipush 60, 2) := by decide +kernel
theorem dd_DE_truncate_11 : decode bb_DE_truncate 11 = .ok (.if_icmp .le 11, 3) := by decide +kernel
theorem dd_DE_truncate_14 : decode bb_DE_truncate 14 = .ok (.new 87, 3) := by decide +kernel
theorem dd_DE_truncate_17 : decode bb_DE_truncate 17 = .ok (.dup, 1) := by decide +kernel
theorem dd_DE_truncate_18 : decode bb_DE_truncate 18 = .ok (.invokespecial 89, 3) := by decide +kernel
theorem dd_DE_truncate_21 : decode bb_DE_truncate 21 = .ok (.athrow, 1) := by decide +kernel
theorem dd_DE_truncate_22 : decode bb_DE_truncate 22 = .ok (.aload_n 0, 1) := by decide +kernel
theorem dd_DE_truncate_23 : decode bb_DE_truncate 23 = .ok (.getfield 18, 3) := by decide +kernel
theorem dd_DE_truncate_26 : decode bb_DE_truncate 26 = .ok (.iload_n 1, 1) := by decide +kernel
theorem dd_DE_truncate_27 : decode bb_DE_truncate 27 = .ok (.aaload, 1) := by decide +kernel
theorem dd_DE_truncate_28 : decode bb_DE_truncate 28 = .ok (.iload_n 2, 1) := by decide +kernel
theorem dd_DE_truncate_29 : decode bb_DE_truncate 29 = .ok (.invokevirtual 90, 3) := by decide +kernel
theorem dd_DE_truncate_32 : decode bb_DE_truncate 32 = .ok (.aload_n 0, 1) := by decide +kernel
theorem dd_DE_truncate_33 : decode bb_DE_truncate 33 = .ok (.getfield 18, 3) := by decide +kernel
theorem dd_DE_truncate_36 : decode bb_DE_truncate 36 = .ok (.iload_n 1, 1) := by decide +kernel
theorem dd_DE_truncate_37 : decode bb_DE_truncate 37 = .ok (.aaload, 1) := by decide +kernel
theorem dd_DE_truncate_38 : decode bb_DE_truncate 38 = .ok (.iload_n 2, 1) := by decide +kernel
theorem dd_DE_truncate_39 : decode bb_DE_truncate 39 = .ok (.bipush 60, 2) := by decide +kernel
theorem dd_DE_truncate_41 : decode bb_DE_truncate 41 = .ok (.invokevirtual 81, 3) := by decide +kernel
theorem dd_DE_truncate_44 : decode bb_DE_truncate 44 = .ok (.ireturn, 1) := by decide +kernel
theorem dd_DE_flush_0 : decode bb_DE_flush 0 = .ok (.iload_n 1, 1) := by decide +kernel
theorem dd_DE_flush_1 : decode bb_DE_flush 1 = .ok (.invokestatic 84, 3) := by decide +kernel
theorem dd_DE_flush_4 : decode bb_DE_flush 4 = .ok (.aload_n 0, 1) := by decide +kernel
theorem dd_DE_flush_5 : decode bb_DE_flush 5 = .ok (.getfield 18, 3) := by decide +kernel
theorem dd_DE_flush_8 : decode bb_DE_flush 8 = .ok (.iload_n 1, 1) := by decide +kernel
theorem dd_DE_flush_9 : decode bb_DE_flush 9 = .ok (.aaload, 1) := by decide +kernel
theorem dd_DE_flush_10 : decode bb_DE_flush 10 = .ok (.astore_n 2, 1) := by decide +kernel
theorem dd_DE_flush_11 : decode bb_DE_flush 11 = .ok (.aload_n 2, 1) := by decide +kernel
theorem dd_DE_flush_12 : decode bb_DE_flush 12 = .ok (.iconst 0, 1) := by decide +kernel
theorem dd_DE_flush_13 : decode bb_DE_flush 13 = .ok (.bipush 60, 2) := by decide +kernel
theorem dd_DE_flush_15 : decode bb_DE_flush 15 = .ok (.iconst 1, 1) := by decide +kernel
theorem dd_DE_flush_16 : decode bb_DE_flush 16 = .ok (.invokevirtual 74, 3) := by decide +kernel
theorem dd_DE_flush_19 : decode bb_DE_flush 19 = .ok (.aload_n 2, 1) := by decide +kernel
theorem dd_DE_flush_20 : decode bb_DE_flush 20 = .ok (.invokevirtual 93, 3) := by decide +kernel
theorem dd_DE_flush_23 : decode bb_DE_flush 23 = .ok (.ireturn, 1) := by decide +kernel
theorem dd_DE_crash_0 : decode bb_DE_crash 0 = .ok (.aload_n 0, 1) := by decide +kernel
theorem dd_DE_crash_1 : decode bb_DE_crash 1 = .ok (.invokevirtual 33, 3) := by decide +kernel
theorem dd_DE_crash_4 : decode bb_DE_crash 4 = .ok (.istore_n 1, 1) := by decide +kernel
theorem dd_DE_crash_5 : decode bb_DE_crash 5 = .ok (.iconst 0, 1) := by decide +kernel
theorem dd_DE_crash_6 : decode bb_DE_crash 6 = .ok (.istore_n 2, 1) := by decide +kernel
theorem dd_DE_crash_7 : decode bb_DE_crash 7 = .ok (.iload_n 2, 1) := by decide +kernel
theorem dd_DE_crash_8 : decode bb_DE_crash 8 = .ok (.iconst 4, 1) := by decide +kernel
theorem dd_DE_crash_9 : decode bb_DE_crash 9 = .ok (.if_icmp .ge 18, 3) := by decide +kernel
theorem dd_DE_crash_12 : decode bb_DE_crash 12 = .ok (.aload_n 0, 1) := by decide +kernel
theorem dd_DE_crash_13 : decode bb_DE_crash 13 = .ok (.getfield 18, 3) := by decide +kernel
theorem dd_DE_crash_16 : decode bb_DE_crash 16 = .ok (.iload_n 2, 1) := by decide +kernel
theorem dd_DE_crash_17 : decode bb_DE_crash 17 = .ok (.aaload, 1) := by decide +kernel
theorem dd_DE_crash_18 : decode bb_DE_crash 18 = .ok (.invokevirtual 96, 3) := by decide +kernel
theorem dd_DE_crash_21 : decode bb_DE_crash 21 = .ok (.iinc 2 1, 3) := by decide +kernel
theorem dd_DE_crash_24 : decode bb_DE_crash 24 = .ok (.goto (-17), 3) := by decide +kernel
theorem dd_DE_crash_27 : decode bb_DE_crash 27 = .ok (.iload_n 1, 1) := by decide +kernel
theorem dd_DE_crash_28 : decode bb_DE_crash 28 = .ok (.ireturn, 1) := by decide +kernel
theorem dd_DE_extent_0 : decode bb_DE_extent 0 = .ok (.iload_n 1, 1) := by decide +kernel
theorem dd_DE_extent_1 : decode bb_DE_extent 1 = .ok (.invokestatic 84, 3) := by decide +kernel
theorem dd_DE_extent_4 : decode bb_DE_extent 4 = .ok (.aload_n 0, 1) := by decide +kernel
theorem dd_DE_extent_5 : decode bb_DE_extent 5 = .ok (.getfield 18, 3) := by decide +kernel
theorem dd_DE_extent_8 : decode bb_DE_extent 8 = .ok (.iload_n 1, 1) := by decide +kernel
theorem dd_DE_extent_9 : decode bb_DE_extent 9 = .ok (.aaload, 1) := by decide +kernel
theorem dd_DE_extent_10 : decode bb_DE_extent 10 = .ok (.astore 4, 2) := by decide +kernel
theorem dd_DE_extent_12 : decode bb_DE_extent 12 = .ok (.aload 4, 2) := by decide +kernel
theorem dd_DE_extent_14 : decode bb_DE_extent 14 = .ok (.iload_n 2, 1) := by decide +kernel
theorem dd_DE_extent_15 : decode bb_DE_extent 15 = .ok (.invokevirtual 99, 3) := by decide +kernel
theorem dd_DE_extent_18 : decode bb_DE_extent 18 = .ok (.istore 5, 2) := by decide +kernel
theorem dd_DE_extent_20 : decode bb_DE_extent 20 = .ok (.iload 5, 2) := by decide +kernel
theorem dd_DE_extent_22 : decode bb_DE_extent 22 = .ok (.iconst (-1), 1) := by decide +kernel
theorem dd_DE_extent_23 : decode bb_DE_extent 23 = .ok (.if_icmp .ne 11, 3) := by decide +kernel
theorem dd_DE_extent_26 : decode bb_DE_extent 26 = .ok (.new 102, 3) := by decide +kernel
theorem dd_DE_extent_29 : decode bb_DE_extent 29 = .ok (.dup, 1) := by decide +kernel
theorem dd_DE_extent_30 : decode bb_DE_extent 30 = .ok (.invokespecial 104, 3) := by decide +kernel
theorem dd_DE_extent_33 : decode bb_DE_extent 33 = .ok (.athrow, 1) := by decide +kernel
theorem dd_DE_extent_34 : decode bb_DE_extent 34 = .ok (.iload_n 3, 1) := by decide +kernel
theorem dd_DE_extent_64 : decode bb_DE_extent 64 = .ok (.iload 5, 2) := by decide +kernel
theorem dd_DE_extent_66 : decode bb_DE_extent 66 = .ok (.ireturn, 1) := by decide +kernel
theorem dd_DE_extent_67 : decode bb_DE_extent 67 = .ok (.aload 4, 2) := by decide +kernel
theorem dd_DE_extent_69 : decode bb_DE_extent 69 = .ok (.iload 5, 2) := by decide +kernel
theorem dd_DE_extent_71 : decode bb_DE_extent 71 = .ok (.invokevirtual 105, 3) := by decide +kernel
theorem dd_DE_extent_74 : decode bb_DE_extent 74 = .ok (.ireturn, 1) := by decide +kernel
theorem dd_DE_extent_75 : decode bb_DE_extent 75 = .ok (.aload 4, 2) := by decide +kernel
theorem dd_DE_extent_77 : decode bb_DE_extent 77 = .ok (.iload 5, 2) := by decide +kernel
theorem dd_DE_extent_79 : decode bb_DE_extent 79 = .ok (.invokevirtual 108, 3) := by decide +kernel
theorem dd_DE_extent_82 : decode bb_DE_extent 82 = .ok (.ireturn, 1) := by decide +kernel
theorem dd_DE_extent_83 : decode bb_DE_extent 83 = .ok (.aload 4, 2) := by decide +kernel
theorem dd_DE_extent_85 : decode bb_DE_extent 85 = .ok (.iload 5, 2) := by decide +kernel
theorem dd_DE_extent_87 : decode bb_DE_extent 87 = .ok (.invokevirtual 111, 3) := by decide +kernel
theorem dd_DE_extent_90 : decode bb_DE_extent 90 = .ok (.ifCond .eq 7, 3) := by decide +kernel
theorem dd_DE_extent_93 : decode bb_DE_extent 93 = .ok (.iconst 0, 1) := by decide +kernel
theorem dd_DE_extent_94 : decode bb_DE_extent 94 = .ok (.goto 4, 3) := by decide +kernel
theorem dd_DE_extent_97 : decode bb_DE_extent 97 = .ok (.iconst 1, 1) := by decide +kernel
theorem dd_DE_extent_98 : decode bb_DE_extent 98 = .ok (.ireturn, 1) := by decide +kernel
theorem dd_DE_extent_99 : decode bb_DE_extent 99 = .ok (.new 87, 3) := by decide +kernel
theorem dd_DE_extent_102 : decode bb_DE_extent 102 = .ok (.dup, 1) := by decide +kernel
theorem dd_DE_extent_103 : decode bb_DE_extent 103 = .ok (.invokespecial 89, 3) := by decide +kernel
theorem dd_DE_extent_106 : decode bb_DE_extent 106 = .ok (.athrow, 1) := by decide +kernel
theorem dd_DE_about_0 : decode bb_DE_about 0 = .ok (.iload_n 1, 1) := by decide +kernel
theorem dd_DE_about_1 : decode bb_DE_about 1 = .ok (.invokestatic 84, 3) := by decide +kernel
theorem dd_DE_about_4 : decode bb_DE_about 4 = .ok (.aload_n 0, 1) := by decide +kernel
theorem dd_DE_about_5 : decode bb_DE_about 5 = .ok (.getfield 18, 3) := by decide +kernel
theorem dd_DE_about_8 : decode bb_DE_about 8 = .ok (.iload_n 1, 1) := by decide +kernel
theorem dd_DE_about_9 : decode bb_DE_about 9 = .ok (.aaload, 1) := by decide +kernel
theorem dd_DE_about_10 : decode bb_DE_about 10 = .ok (.astore_n 3, 1) := by decide +kernel
theorem dd_DE_about_11 : decode bb_DE_about 11 = .ok (.iload_n 2, 1) := by decide +kernel
theorem dd_DE_about_52 : decode bb_DE_about 52 = .ok (.aload_n 3, 1) := by decide +kernel
theorem dd_DE_about_53 : decode bb_DE_about 53 = .ok (.invokevirtual 114, 3) := by decide +kernel
theorem dd_DE_about_56 : decode bb_DE_about 56 = .ok (.ireturn, 1) := by decide +kernel
theorem dd_DE_about_57 : decode bb_DE_about 57 = .ok (.aload_n 3, 1) := by decide +kernel
theorem dd_DE_about_58 : decode bb_DE_about 58 = .ok (.invokevirtual 117, 3) := by decide +kernel
theorem dd_DE_about_61 : decode bb_DE_about 61 = .ok (.ireturn, 1) := by decide +kernel
theorem dd_DE_about_62 : decode bb_DE_about 62 = .ok (.aload_n 3, 1) := by decide +kernel
theorem dd_DE_about_63 : decode bb_DE_about 63 = .ok (.invokevirtual 120, 3) := by decide +kernel
theorem dd_DE_about_66 : decode bb_DE_about 66 = .ok (.ireturn, 1) := by decide +kernel
theorem dd_DE_about_67 : decode bb_DE_about 67 = .ok (.aload_n 3, 1) := by decide +kernel
theorem dd_DE_about_68 : decode bb_DE_about 68 = .ok (.invokevirtual 120, 3) := by decide +kernel
theorem dd_DE_about_71 : decode bb_DE_about 71 = .ok (.invokestatic 123, 3) := by decide +kernel
theorem dd_DE_about_74 : decode bb_DE_about 74 = .ok (.ireturn, 1) := by decide +kernel
theorem dd_DE_about_75 : decode bb_DE_about 75 = .ok (.aload_n 3, 1) := by decide +kernel
theorem dd_DE_about_76 : decode bb_DE_about 76 = .ok (.invokevirtual 126, 3) := by decide +kernel
theorem dd_DE_about_79 : decode bb_DE_about 79 = .ok (.ireturn, 1) := by decide +kernel
theorem dd_DE_about_80 : decode bb_DE_about 80 = .ok (.aload_n 3, 1) := by decide +kernel
theorem dd_DE_about_81 : decode bb_DE_about 81 = .ok (.invokevirtual 127, 3) := by decide +kernel
theorem dd_DE_about_84 : decode bb_DE_about 84 = .ok (.ireturn, 1) := by decide +kernel
theorem dd_DE_about_85 : decode bb_DE_about 85 = .ok (.new 87, 3) := by decide +kernel
theorem dd_DE_about_88 : decode bb_DE_about 88 = .ok (.dup, 1) := by decide +kernel
theorem dd_DE_about_89 : decode bb_DE_about 89 = .ok (.invokespecial 89, 3) := by decide +kernel
theorem dd_DE_about_92 : decode bb_DE_about 92 = .ok (.athrow, 1) := by decide +kernel
theorem dd_DE_free_0 : decode bb_DE_free 0 = .ok (.bipush 80, 2) := by decide +kernel
theorem dd_DE_free_2 : decode bb_DE_free 2 = .ok (.istore_n 1, 1) := by decide +kernel
theorem dd_DE_free_3 : decode bb_DE_free 3 = .ok (.iconst 0, 1) := by decide +kernel
theorem dd_DE_free_4 : decode bb_DE_free 4 = .ok (.istore_n 2, 1) := by decide +kernel
theorem dd_DE_free_5 : decode bb_DE_free 5 = .ok (.iload_n 2, 1) := by decide +kernel
theorem dd_DE_free_6 : decode bb_DE_free 6 = .ok (.iconst 4, 1) := by decide +kernel
theorem dd_DE_free_7 : decode bb_DE_free 7 = .ok (.if_icmp .ge 34, 3) := by decide +kernel
theorem dd_DE_free_10 : decode bb_DE_free 10 = .ok (.iload_n 1, 1) := by decide +kernel
theorem dd_DE_free_11 : decode bb_DE_free 11 = .ok (.aload_n 0, 1) := by decide +kernel
theorem dd_DE_free_12 : decode bb_DE_free 12 = .ok (.getfield 18, 3) := by decide +kernel
theorem dd_DE_free_15 : decode bb_DE_free 15 = .ok (.iload_n 2, 1) := by decide +kernel
theorem dd_DE_free_16 : decode bb_DE_free 16 = .ok (.aaload, 1) := by decide +kernel
theorem dd_DE_free_17 : decode bb_DE_free 17 = .ok (.invokevirtual 117, 3) := by decide +kernel
theorem dd_DE_free_20 : decode bb_DE_free 20 = .ok (.aload_n 0, 1) := by decide +kernel
theorem dd_DE_free_21 : decode bb_DE_free 21 = .ok (.getfield 18, 3) := by decide +kernel
theorem dd_DE_free_24 : decode bb_DE_free 24 = .ok (.iload_n 2, 1) := by decide +kernel
theorem dd_DE_free_25 : decode bb_DE_free 25 = .ok (.aaload, 1) := by decide +kernel
theorem dd_DE_free_26 : decode bb_DE_free 26 = .ok (.invokevirtual 120, 3) := by decide +kernel
theorem dd_DE_free_29 : decode bb_DE_free 29 = .ok (.invokestatic 123, 3) := by decide +kernel
theorem dd_DE_free_32 : decode bb_DE_free 32 = .ok (.iadd, 1) := by decide +kernel
theorem dd_DE_free_33 : decode bb_DE_free 33 = .ok (.isub, 1) := by decide +kernel
theorem dd_DE_free_34 : decode bb_DE_free 34 = .ok (.istore_n 1, 1) := by decide +kernel
theorem dd_DE_free_35 : decode bb_DE_free 35 = .ok (.iinc 2 1, 3) := by decide +kernel
theorem dd_DE_free_38 : decode bb_DE_free 38 = .ok (.goto (-33), 3) := by decide +kernel
theorem dd_DE_free_41 : decode bb_DE_free 41 = .ok (.iload_n 1, 1) := by decide +kernel
theorem dd_DE_free_42 : decode bb_DE_free 42 = .ok (.ireturn, 1) := by decide +kernel
theorem dd_DE_reserved_0 : decode bb_DE_reserved 0 = .ok (.iconst 0, 1) := by decide +kernel
theorem dd_DE_reserved_1 : decode bb_DE_reserved 1 = .ok (.istore_n 1, 1) := by decide +kernel
theorem dd_DE_reserved_2 : decode bb_DE_reserved 2 = .ok (.iconst 0, 1) := by decide +kernel
theorem dd_DE_reserved_3 : decode bb_DE_reserved 3 = .ok (.istore_n 2, 1) := by decide +kernel
theorem dd_DE_reserved_4 : decode bb_DE_reserved 4 = .ok (.iload_n 2, 1) := by decide +kernel
theorem dd_DE_reserved_5 : decode bb_DE_reserved 5 = .ok (.iconst 4, 1) := by decide +kernel
theorem dd_DE_reserved_6 : decode bb_DE_reserved 6 = .ok (.if_icmp .ge 21, 3) := by decide +kernel
theorem dd_DE_reserved_9 : decode bb_DE_reserved 9 = .ok (.iload_n 1, 1) := by decide +kernel
theorem dd_DE_reserved_10 : decode bb_DE_reserved 10 = .ok (.aload_n 0, 1) := by decide +kernel
theorem dd_DE_reserved_11 : decode bb_DE_reserved 11 = .ok (.getfield 18, 3) := by decide +kernel
theorem dd_DE_reserved_14 : decode bb_DE_reserved 14 = .ok (.iload_n 2, 1) := by decide +kernel
theorem dd_DE_reserved_15 : decode bb_DE_reserved 15 = .ok (.aaload, 1) := by decide +kernel
theorem dd_DE_reserved_16 : decode bb_DE_reserved 16 = .ok (.invokevirtual 127, 3) := by decide +kernel
theorem dd_DE_reserved_19 : decode bb_DE_reserved 19 = .ok (.iadd, 1) := by decide +kernel
theorem dd_DE_reserved_20 : decode bb_DE_reserved 20 = .ok (.istore_n 1, 1) := by decide +kernel
theorem dd_DE_reserved_21 : decode bb_DE_reserved 21 = .ok (.iinc 2 1, 3) := by decide +kernel
theorem dd_DE_reserved_24 : decode bb_DE_reserved 24 = .ok (.goto (-20), 3) := by decide +kernel
theorem dd_DE_reserved_27 : decode bb_DE_reserved 27 = .ok (.iload_n 1, 1) := by decide +kernel
theorem dd_DE_reserved_28 : decode bb_DE_reserved 28 = .ok (.ireturn, 1) := by decide +kernel
theorem dd_DE_owner_0 : decode bb_DE_owner 0 = .ok (.iload_n 1, 1) := by decide +kernel
theorem dd_DE_owner_1 : decode bb_DE_owner 1 = .ok (.invokestatic 130, 3) := by decide +kernel
theorem dd_DE_owner_4 : decode bb_DE_owner 4 = .ok (.aload_n 0, 1) := by decide +kernel
theorem dd_DE_owner_5 : decode bb_DE_owner 5 = .ok (.getfield 10, 3) := by decide +kernel
theorem dd_DE_owner_8 : decode bb_DE_owner 8 = .ok (.iload_n 1, 1) := by decide +kernel
theorem dd_DE_owner_9 : decode bb_DE_owner 9 = .ok (.invokevirtual 133, 3) := by decide +kernel
theorem dd_DE_owner_12 : decode bb_DE_owner 12 = .ok (.ireturn, 1) := by decide +kernel
theorem dd_DE_value_0 : decode bb_DE_value 0 = .ok (.iload_n 1, 1) := by decide +kernel
theorem dd_DE_value_1 : decode bb_DE_value 1 = .ok (.invokestatic 130, 3) := by decide +kernel
theorem dd_DE_value_4 : decode bb_DE_value 4 = .ok (.aload_n 0, 1) := by decide +kernel
theorem dd_DE_value_5 : decode bb_DE_value 5 = .ok (.getfield 10, 3) := by decide +kernel
theorem dd_DE_value_8 : decode bb_DE_value 8 = .ok (.iload_n 1, 1) := by decide +kernel
theorem dd_DE_value_9 : decode bb_DE_value 9 = .ok (.invokevirtual 136, 3) := by decide +kernel
theorem dd_DE_value_12 : decode bb_DE_value 12 = .ok (.ireturn, 1) := by decide +kernel
theorem dd_DE_requireFile_0 : decode bb_DE_requireFile 0 = .ok (.iload_n 0, 1) := by decide +kernel
theorem dd_DE_requireFile_1 : decode bb_DE_requireFile 1 = .ok (.ifCond .lt 8, 3) := by decide +kernel
theorem dd_DE_requireFile_4 : decode bb_DE_requireFile 4 = .ok (.iload_n 0, 1) := by decide +kernel
theorem dd_DE_requireFile_5 : decode bb_DE_requireFile 5 = .ok (.iconst 4, 1) := by decide +kernel
theorem dd_DE_requireFile_6 : decode bb_DE_requireFile 6 = .ok (.if_icmp .lt 11, 3) := by decide +kernel
theorem dd_DE_requireFile_9 : decode bb_DE_requireFile 9 = .ok (.new 102, 3) := by decide +kernel
theorem dd_DE_requireFile_12 : decode bb_DE_requireFile 12 = .ok (.dup, 1) := by decide +kernel
theorem dd_DE_requireFile_13 : decode bb_DE_requireFile 13 = .ok (.invokespecial 104, 3) := by decide +kernel
theorem dd_DE_requireFile_16 : decode bb_DE_requireFile 16 = .ok (.athrow, 1) := by decide +kernel
theorem dd_DE_requireFile_17 : decode bb_DE_requireFile 17 = .ok (.return_, 1) := by decide +kernel
theorem dd_DE_requireBlock_0 : decode bb_DE_requireBlock 0 = .ok (.iload_n 0, 1) := by decide +kernel
theorem dd_DE_requireBlock_1 : decode bb_DE_requireBlock 1 = .ok (.invokestatic 84, 3) := by decide +kernel
theorem dd_DE_requireBlock_4 : decode bb_DE_requireBlock 4 = .ok (.iload_n 1, 1) := by decide +kernel
theorem dd_DE_requireBlock_5 : decode bb_DE_requireBlock 5 = .ok (.ifCond .lt 9, 3) := by decide +kernel
theorem dd_DE_requireBlock_8 : decode bb_DE_requireBlock 8 = .ok (.iload_n 1, 1) := by decide +kernel
theorem dd_DE_requireBlock_9 : decode bb_DE_requireBlock 9 = .ok (.bipush 60, 2) := by decide +kernel
theorem dd_DE_requireBlock_11 : decode bb_DE_requireBlock 11 = .ok (.if_icmp .lt 11, 3) := by decide +kernel
theorem dd_DE_requireBlock_14 : decode bb_DE_requireBlock 14 = .ok (.new 102, 3) := by decide +kernel
theorem dd_DE_requireBlock_17 : decode bb_DE_requireBlock 17 = .ok (.dup, 1) := by decide +kernel
theorem dd_DE_requireBlock_18 : decode bb_DE_requireBlock 18 = .ok (.invokespecial 104, 3) := by decide +kernel
theorem dd_DE_requireBlock_21 : decode bb_DE_requireBlock 21 = .ok (.athrow, 1) := by decide +kernel
theorem dd_DE_requireBlock_22 : decode bb_DE_requireBlock 22 = .ok (.return_, 1) := by decide +kernel
theorem dd_DE_requireRow_0 : decode bb_DE_requireRow 0 = .ok (.iload_n 1, 1) := by decide +kernel
theorem dd_DE_requireRow_1 : decode bb_DE_requireRow 1 = .ok (.iconst 1, 1) := by decide +kernel
theorem dd_DE_requireRow_2 : decode bb_DE_requireRow 2 = .ok (.if_icmp .lt 11, 3) := by decide +kernel
theorem dd_DE_requireRow_5 : decode bb_DE_requireRow 5 = .ok (.iload_n 1, 1) := by decide +kernel
theorem dd_DE_requireRow_6 : decode bb_DE_requireRow 6 = .ok (.bipush 60, 2) := by decide +kernel
theorem dd_DE_requireRow_8 : decode bb_DE_requireRow 8 = .ok (.iload_n 0, 1) := by decide +kernel
theorem dd_DE_requireRow_9 : decode bb_DE_requireRow 9 = .ok (.isub, 1) := by decide +kernel
theorem dd_DE_requireRow_10 : decode bb_DE_requireRow 10 = .ok (.if_icmp .le 11, 3) := by decide +kernel
theorem dd_DE_requireRow_13 : decode bb_DE_requireRow 13 = .ok (.new 87, 3) := by decide +kernel
theorem dd_DE_requireRow_16 : decode bb_DE_requireRow 16 = .ok (.dup, 1) := by decide +kernel
theorem dd_DE_requireRow_17 : decode bb_DE_requireRow 17 = .ok (.invokespecial 89, 3) := by decide +kernel
theorem dd_DE_requireRow_20 : decode bb_DE_requireRow 20 = .ok (.athrow, 1) := by decide +kernel
theorem dd_DE_requireRow_21 : decode bb_DE_requireRow 21 = .ok (.return_, 1) := by decide +kernel
theorem dd_DE_requirePlace_0 : decode bb_DE_requirePlace 0 = .ok (.iload_n 0, 1) := by decide +kernel
theorem dd_DE_requirePlace_1 : decode bb_DE_requirePlace 1 = .ok (.ifCond .lt 9, 3) := by decide +kernel
theorem dd_DE_requirePlace_4 : decode bb_DE_requirePlace 4 = .ok (.iload_n 0, 1) := by decide +kernel
theorem dd_DE_requirePlace_5 : decode bb_DE_requirePlace 5 = .ok (.bipush 80, 2) := by decide +kernel
theorem dd_DE_requirePlace_7 : decode bb_DE_requirePlace 7 = .ok (.if_icmp .lt 11, 3) := by decide +kernel
theorem dd_DE_requirePlace_10 : decode bb_DE_requirePlace 10 = .ok (.new 102, 3) := by decide +kernel
theorem dd_DE_requirePlace_13 : decode bb_DE_requirePlace 13 = .ok (.dup, 1) := by decide +kernel
theorem dd_DE_requirePlace_14 : decode bb_DE_requirePlace 14 = .ok (.invokespecial 104, 3) := by decide +kernel
theorem dd_DE_requirePlace_17 : decode bb_DE_requirePlace 17 = .ok (.athrow, 1) := by decide +kernel
theorem dd_DE_requirePlace_18 : decode bb_DE_requirePlace 18 = .ok (.return_, 1) := by decide +kernel
theorem dd_DE_countPages_0 : decode bb_DE_countPages 0 = .ok (.iconst 0, 1) := by decide +kernel
theorem dd_DE_countPages_1 : decode bb_DE_countPages 1 = .ok (.istore_n 1, 1) := by decide +kernel
theorem dd_DE_countPages_2 : decode bb_DE_countPages 2 = .ok (.iconst 0, 1) := by decide +kernel
theorem dd_DE_countPages_3 : decode bb_DE_countPages 3 = .ok (.istore_n 2, 1) := by decide +kernel
theorem dd_DE_countPages_4 : decode bb_DE_countPages 4 = .ok (.iload_n 2, 1) := by decide +kernel
theorem dd_DE_countPages_5 : decode bb_DE_countPages 5 = .ok (.iconst 4, 1) := by decide +kernel
theorem dd_DE_countPages_6 : decode bb_DE_countPages 6 = .ok (.if_icmp .ge 21, 3) := by decide +kernel
theorem dd_DE_countPages_9 : decode bb_DE_countPages 9 = .ok (.iload_n 1, 1) := by decide +kernel
theorem dd_DE_countPages_10 : decode bb_DE_countPages 10 = .ok (.aload_n 0, 1) := by decide +kernel
theorem dd_DE_countPages_11 : decode bb_DE_countPages 11 = .ok (.getfield 18, 3) := by decide +kernel
theorem dd_DE_countPages_14 : decode bb_DE_countPages 14 = .ok (.iload_n 2, 1) := by decide +kernel
theorem dd_DE_countPages_15 : decode bb_DE_countPages 15 = .ok (.aaload, 1) := by decide +kernel
theorem dd_DE_countPages_16 : decode bb_DE_countPages 16 = .ok (.invokevirtual 126, 3) := by decide +kernel
theorem dd_DE_countPages_19 : decode bb_DE_countPages 19 = .ok (.iadd, 1) := by decide +kernel
theorem dd_DE_countPages_20 : decode bb_DE_countPages 20 = .ok (.istore_n 1, 1) := by decide +kernel
theorem dd_DE_countPages_21 : decode bb_DE_countPages 21 = .ok (.iinc 2 1, 3) := by decide +kernel
theorem dd_DE_countPages_24 : decode bb_DE_countPages 24 = .ok (.goto (-20), 3) := by decide +kernel
theorem dd_DE_countPages_27 : decode bb_DE_countPages 27 = .ok (.iload_n 1, 1) := by decide +kernel
theorem dd_DE_countPages_28 : decode bb_DE_countPages 28 = .ok (.ireturn, 1) := by decide +kernel
theorem dd_DE_isOverbooked_0 : decode bb_DE_isOverbooked 0 = .ok (.aload_n 0, 1) := by decide +kernel
theorem dd_DE_isOverbooked_1 : decode bb_DE_isOverbooked 1 = .ok (.invokevirtual 139, 3) := by decide +kernel
theorem dd_DE_isOverbooked_4 : decode bb_DE_isOverbooked 4 = .ok (.aload_n 0, 1) := by decide +kernel
theorem dd_DE_isOverbooked_5 : decode bb_DE_isOverbooked 5 = .ok (.invokevirtual 142, 3) := by decide +kernel
theorem dd_DE_isOverbooked_8 : decode bb_DE_isOverbooked 8 = .ok (.if_icmp .ge 7, 3) := by decide +kernel
theorem dd_DE_isOverbooked_11 : decode bb_DE_isOverbooked 11 = .ok (.iconst 1, 1) := by decide +kernel
theorem dd_DE_isOverbooked_12 : decode bb_DE_isOverbooked 12 = .ok (.goto 4, 3) := by decide +kernel
theorem dd_DE_isOverbooked_15 : decode bb_DE_isOverbooked 15 = .ok (.iconst 0, 1) := by decide +kernel
theorem dd_DE_isOverbooked_16 : decode bb_DE_isOverbooked 16 = .ok (.ireturn, 1) := by decide +kernel
theorem dd_LA_write_0 : decode bb_LA_write 0 = .ok (.aload_n 0, 1) := by decide +kernel
theorem dd_LA_write_1 : decode bb_LA_write 1 = .ok (.iload_n 1, 1) := by decide +kernel
theorem dd_LA_write_2 : decode bb_LA_write 2 = .ok (.iload_n 2, 1) := by decide +kernel
theorem dd_LA_write_3 : decode bb_LA_write 3 = .ok (.iload_n 3, 1) := by decide +kernel
theorem dd_LA_write_4 : decode bb_LA_write 4 = .ok (.invokevirtual 7, 3) := by decide +kernel
theorem dd_LA_write_7 : decode bb_LA_write 7 = .ok (.goto 15, 3) := by decide +kernel
theorem dd_LA_write_10 : decode bb_LA_write 10 = .ok (.astore 4, 2) := by decide +kernel
theorem dd_LA_write_12 : decode bb_LA_write 12 = .ok (.iconst 1, 1) := by decide +kernel
theorem dd_LA_write_13 : decode bb_LA_write 13 = .ok (.ireturn, 1) := by decide +kernel
theorem dd_LA_write_14 : decode bb_LA_write 14 = .ok (.astore 4, 2) := by decide +kernel
theorem dd_LA_write_16 : decode bb_LA_write 16 = .ok (.iconst 2, 1) := by decide +kernel
theorem dd_LA_write_17 : decode bb_LA_write 17 = .ok (.ireturn, 1) := by decide +kernel
theorem dd_LA_write_18 : decode bb_LA_write 18 = .ok (.astore 4, 2) := by decide +kernel
theorem dd_LA_write_20 : decode bb_LA_write 20 = .ok (.iconst 3, 1) := by decide +kernel
theorem dd_LA_write_21 : decode bb_LA_write 21 = .ok (.ireturn, 1) := by decide +kernel
theorem dd_LA_write_22 : decode bb_LA_write 22 = .ok (.iconst 0, 1) := by decide +kernel
theorem dd_LA_write_23 : decode bb_LA_write 23 = .ok (.ireturn, 1) := by decide +kernel
theorem dd_LA_read_0 : decode bb_LA_read 0 = .ok (.aload_n 3, 1) := by decide +kernel
theorem dd_LA_read_1 : decode bb_LA_read 1 = .ok (.iconst 0, 1) := by decide +kernel
theorem dd_LA_read_2 : decode bb_LA_read 2 = .ok (.aload_n 0, 1) := by decide +kernel
theorem dd_LA_read_3 : decode bb_LA_read 3 = .ok (.iload_n 1, 1) := by decide +kernel
theorem dd_LA_read_4 : decode bb_LA_read 4 = .ok (.iload_n 2, 1) := by decide +kernel
theorem dd_LA_read_5 : decode bb_LA_read 5 = .ok (.invokevirtual 19, 3) := by decide +kernel
theorem dd_LA_read_8 : decode bb_LA_read 8 = .ok (.i2l, 1) := by decide +kernel
theorem dd_LA_read_9 : decode bb_LA_read 9 = .ok (.lastore, 1) := by decide +kernel
theorem dd_LA_read_10 : decode bb_LA_read 10 = .ok (.goto 7, 3) := by decide +kernel
theorem dd_LA_read_13 : decode bb_LA_read 13 = .ok (.astore 4, 2) := by decide +kernel
theorem dd_LA_read_15 : decode bb_LA_read 15 = .ok (.iconst 1, 1) := by decide +kernel
theorem dd_LA_read_16 : decode bb_LA_read 16 = .ok (.ireturn, 1) := by decide +kernel
theorem dd_LA_read_17 : decode bb_LA_read 17 = .ok (.iconst 0, 1) := by decide +kernel
theorem dd_LA_read_18 : decode bb_LA_read 18 = .ok (.ireturn, 1) := by decide +kernel
theorem dd_LA_preallocate_0 : decode bb_LA_preallocate 0 = .ok (.aload 4, 2) := by decide +kernel
theorem dd_LA_preallocate_2 : decode bb_LA_preallocate 2 = .ok (.iconst 0, 1) := by decide +kernel
theorem dd_LA_preallocate_3 : decode bb_LA_preallocate 3 = .ok (.aload_n 0, 1) := by decide +kernel
theorem dd_LA_preallocate_4 : decode bb_LA_preallocate 4 = .ok (.iload_n 1, 1) := by decide +kernel
theorem dd_LA_preallocate_5 : decode bb_LA_preallocate 5 = .ok (.iload_n 2, 1) := by decide +kernel
theorem dd_LA_preallocate_6 : decode bb_LA_preallocate 6 = .ok (.iload_n 3, 1) := by decide +kernel
theorem dd_LA_preallocate_7 : decode bb_LA_preallocate 7 = .ok (.invokevirtual 23, 3) := by decide +kernel
theorem dd_LA_preallocate_10 : decode bb_LA_preallocate 10 = .ok (.i2l, 1) := by decide +kernel
theorem dd_LA_preallocate_11 : decode bb_LA_preallocate 11 = .ok (.lastore, 1) := by decide +kernel
theorem dd_LA_preallocate_12 : decode bb_LA_preallocate 12 = .ok (.goto 15, 3) := by decide +kernel
theorem dd_LA_preallocate_15 : decode bb_LA_preallocate 15 = .ok (.astore 5, 2) := by decide +kernel
theorem dd_LA_preallocate_17 : decode bb_LA_preallocate 17 = .ok (.iconst 1, 1) := by decide +kernel
theorem dd_LA_preallocate_18 : decode bb_LA_preallocate 18 = .ok (.ireturn, 1) := by decide +kernel
theorem dd_LA_preallocate_19 : decode bb_LA_preallocate 19 = .ok (.astore 5, 2) := by decide +kernel
theorem dd_LA_preallocate_21 : decode bb_LA_preallocate 21 = .ok (.iconst 2, 1) := by decide +kernel
theorem dd_LA_preallocate_22 : decode bb_LA_preallocate 22 = .ok (.ireturn, 1) := by decide +kernel
theorem dd_LA_preallocate_23 : decode bb_LA_preallocate 23 = .ok (.astore 5, 2) := by decide +kernel
theorem dd_LA_preallocate_25 : decode bb_LA_preallocate 25 = .ok (.iconst 3, 1) := by decide +kernel
theorem dd_LA_preallocate_26 : decode bb_LA_preallocate 26 = .ok (.ireturn, 1) := by decide +kernel
theorem dd_LA_preallocate_27 : decode bb_LA_preallocate 27 = .ok (.iconst 0, 1) := by decide +kernel
theorem dd_LA_preallocate_28 : decode bb_LA_preallocate 28 = .ok (.ireturn, 1) := by decide +kernel
theorem dd_LA_punch_0 : decode bb_LA_punch 0 = .ok (.aload 4, 2) := by decide +kernel
theorem dd_LA_punch_2 : decode bb_LA_punch 2 = .ok (.iconst 0, 1) := by decide +kernel
theorem dd_LA_punch_3 : decode bb_LA_punch 3 = .ok (.aload_n 0, 1) := by decide +kernel
theorem dd_LA_punch_4 : decode bb_LA_punch 4 = .ok (.iload_n 1, 1) := by decide +kernel
theorem dd_LA_punch_5 : decode bb_LA_punch 5 = .ok (.iload_n 2, 1) := by decide +kernel
theorem dd_LA_punch_6 : decode bb_LA_punch 6 = .ok (.iload_n 3, 1) := by decide +kernel
theorem dd_LA_punch_7 : decode bb_LA_punch 7 = .ok (.invokevirtual 29, 3) := by decide +kernel
theorem dd_LA_punch_10 : decode bb_LA_punch 10 = .ok (.i2l, 1) := by decide +kernel
theorem dd_LA_punch_11 : decode bb_LA_punch 11 = .ok (.lastore, 1) := by decide +kernel
theorem dd_LA_punch_12 : decode bb_LA_punch 12 = .ok (.goto 11, 3) := by decide +kernel
theorem dd_LA_punch_15 : decode bb_LA_punch 15 = .ok (.astore 5, 2) := by decide +kernel
theorem dd_LA_punch_17 : decode bb_LA_punch 17 = .ok (.iconst 1, 1) := by decide +kernel
theorem dd_LA_punch_18 : decode bb_LA_punch 18 = .ok (.ireturn, 1) := by decide +kernel
theorem dd_LA_punch_19 : decode bb_LA_punch 19 = .ok (.astore 5, 2) := by decide +kernel
theorem dd_LA_punch_21 : decode bb_LA_punch 21 = .ok (.iconst 2, 1) := by decide +kernel
theorem dd_LA_punch_22 : decode bb_LA_punch 22 = .ok (.ireturn, 1) := by decide +kernel
theorem dd_LA_punch_23 : decode bb_LA_punch 23 = .ok (.iconst 0, 1) := by decide +kernel
theorem dd_LA_punch_24 : decode bb_LA_punch 24 = .ok (.ireturn, 1) := by decide +kernel
theorem dd_LA_truncate_0 : decode bb_LA_truncate 0 = .ok (.aload_n 3, 1) := by decide +kernel
theorem dd_LA_truncate_1 : decode bb_LA_truncate 1 = .ok (.iconst 0, 1) := by decide +kernel
theorem dd_LA_truncate_2 : decode bb_LA_truncate 2 = .ok (.aload_n 0, 1) := by decide +kernel
theorem dd_LA_truncate_3 : decode bb_LA_truncate 3 = .ok (.iload_n 1, 1) := by decide +kernel
theorem dd_LA_truncate_4 : decode bb_LA_truncate 4 = .ok (.iload_n 2, 1) := by decide +kernel
theorem dd_LA_truncate_5 : decode bb_LA_truncate 5 = .ok (.invokevirtual 32, 3) := by decide +kernel
theorem dd_LA_truncate_8 : decode bb_LA_truncate 8 = .ok (.i2l, 1) := by decide +kernel
theorem dd_LA_truncate_9 : decode bb_LA_truncate 9 = .ok (.lastore, 1) := by decide +kernel
theorem dd_LA_truncate_10 : decode bb_LA_truncate 10 = .ok (.goto 11, 3) := by decide +kernel
theorem dd_LA_truncate_13 : decode bb_LA_truncate 13 = .ok (.astore 4, 2) := by decide +kernel
theorem dd_LA_truncate_15 : decode bb_LA_truncate 15 = .ok (.iconst 1, 1) := by decide +kernel
theorem dd_LA_truncate_16 : decode bb_LA_truncate 16 = .ok (.ireturn, 1) := by decide +kernel
theorem dd_LA_truncate_17 : decode bb_LA_truncate 17 = .ok (.astore 4, 2) := by decide +kernel
theorem dd_LA_truncate_19 : decode bb_LA_truncate 19 = .ok (.iconst 2, 1) := by decide +kernel
theorem dd_LA_truncate_20 : decode bb_LA_truncate 20 = .ok (.ireturn, 1) := by decide +kernel
theorem dd_LA_truncate_21 : decode bb_LA_truncate 21 = .ok (.iconst 0, 1) := by decide +kernel
theorem dd_LA_truncate_22 : decode bb_LA_truncate 22 = .ok (.ireturn, 1) := by decide +kernel
theorem dd_LA_flush_0 : decode bb_LA_flush 0 = .ok (.aload_n 2, 1) := by decide +kernel
theorem dd_LA_flush_1 : decode bb_LA_flush 1 = .ok (.iconst 0, 1) := by decide +kernel
theorem dd_LA_flush_2 : decode bb_LA_flush 2 = .ok (.aload_n 0, 1) := by decide +kernel
theorem dd_LA_flush_3 : decode bb_LA_flush 3 = .ok (.iload_n 1, 1) := by decide +kernel
theorem dd_LA_flush_4 : decode bb_LA_flush 4 = .ok (.invokevirtual 35, 3) := by decide +kernel
theorem dd_LA_flush_7 : decode bb_LA_flush 7 = .ok (.i2l, 1) := by decide +kernel
theorem dd_LA_flush_8 : decode bb_LA_flush 8 = .ok (.lastore, 1) := by decide +kernel
theorem dd_LA_flush_9 : decode bb_LA_flush 9 = .ok (.goto 6, 3) := by decide +kernel
theorem dd_LA_flush_12 : decode bb_LA_flush 12 = .ok (.astore_n 3, 1) := by decide +kernel
theorem dd_LA_flush_13 : decode bb_LA_flush 13 = .ok (.iconst 1, 1) := by decide +kernel
theorem dd_LA_flush_14 : decode bb_LA_flush 14 = .ok (.ireturn, 1) := by decide +kernel
theorem dd_LA_flush_15 : decode bb_LA_flush 15 = .ok (.iconst 0, 1) := by decide +kernel
theorem dd_LA_flush_16 : decode bb_LA_flush 16 = .ok (.ireturn, 1) := by decide +kernel
theorem dd_LA_extent_0 : decode bb_LA_extent 0 = .ok (.aload 4, 2) := by decide +kernel
theorem dd_LA_extent_2 : decode bb_LA_extent 2 = .ok (.iconst 0, 1) := by decide +kernel
theorem dd_LA_extent_3 : decode bb_LA_extent 3 = .ok (.aload_n 0, 1) := by decide +kernel
theorem dd_LA_extent_4 : decode bb_LA_extent 4 = .ok (.iload_n 1, 1) := by decide +kernel
theorem dd_LA_extent_5 : decode bb_LA_extent 5 = .ok (.iload_n 2, 1) := by decide +kernel
theorem dd_LA_extent_6 : decode bb_LA_extent 6 = .ok (.iload_n 3, 1) := by decide +kernel
theorem dd_LA_extent_7 : decode bb_LA_extent 7 = .ok (.invokevirtual 39, 3) := by decide +kernel
theorem dd_LA_extent_10 : decode bb_LA_extent 10 = .ok (.i2l, 1) := by decide +kernel
theorem dd_LA_extent_11 : decode bb_LA_extent 11 = .ok (.lastore, 1) := by decide +kernel
theorem dd_LA_extent_12 : decode bb_LA_extent 12 = .ok (.goto 11, 3) := by decide +kernel
theorem dd_LA_extent_15 : decode bb_LA_extent 15 = .ok (.astore 5, 2) := by decide +kernel
theorem dd_LA_extent_17 : decode bb_LA_extent 17 = .ok (.iconst 1, 1) := by decide +kernel
theorem dd_LA_extent_18 : decode bb_LA_extent 18 = .ok (.ireturn, 1) := by decide +kernel
theorem dd_LA_extent_19 : decode bb_LA_extent 19 = .ok (.astore 5, 2) := by decide +kernel
theorem dd_LA_extent_21 : decode bb_LA_extent 21 = .ok (.iconst 2, 1) := by decide +kernel
theorem dd_LA_extent_22 : decode bb_LA_extent 22 = .ok (.ireturn, 1) := by decide +kernel
theorem dd_LA_extent_23 : decode bb_LA_extent 23 = .ok (.iconst 0, 1) := by decide +kernel
theorem dd_LA_extent_24 : decode bb_LA_extent 24 = .ok (.ireturn, 1) := by decide +kernel
theorem dd_LA_about_0 : decode bb_LA_about 0 = .ok (.aload_n 3, 1) := by decide +kernel
theorem dd_LA_about_1 : decode bb_LA_about 1 = .ok (.iconst 0, 1) := by decide +kernel
theorem dd_LA_about_2 : decode bb_LA_about 2 = .ok (.aload_n 0, 1) := by decide +kernel
theorem dd_LA_about_3 : decode bb_LA_about 3 = .ok (.iload_n 1, 1) := by decide +kernel
theorem dd_LA_about_4 : decode bb_LA_about 4 = .ok (.iload_n 2, 1) := by decide +kernel
theorem dd_LA_about_5 : decode bb_LA_about 5 = .ok (.invokevirtual 42, 3) := by decide +kernel
theorem dd_LA_about_8 : decode bb_LA_about 8 = .ok (.i2l, 1) := by decide +kernel
theorem dd_LA_about_9 : decode bb_LA_about 9 = .ok (.lastore, 1) := by decide +kernel
theorem dd_LA_about_10 : decode bb_LA_about 10 = .ok (.goto 11, 3) := by decide +kernel
theorem dd_LA_about_13 : decode bb_LA_about 13 = .ok (.astore 4, 2) := by decide +kernel
theorem dd_LA_about_15 : decode bb_LA_about 15 = .ok (.iconst 1, 1) := by decide +kernel
theorem dd_LA_about_16 : decode bb_LA_about 16 = .ok (.ireturn, 1) := by decide +kernel
theorem dd_LA_about_17 : decode bb_LA_about 17 = .ok (.astore 4, 2) := by decide +kernel
theorem dd_LA_about_19 : decode bb_LA_about 19 = .ok (.iconst 2, 1) := by decide +kernel
theorem dd_LA_about_20 : decode bb_LA_about 20 = .ok (.ireturn, 1) := by decide +kernel
theorem dd_LA_about_21 : decode bb_LA_about 21 = .ok (.iconst 0, 1) := by decide +kernel
theorem dd_LA_about_22 : decode bb_LA_about 22 = .ok (.ireturn, 1) := by decide +kernel
theorem dd_LA_owner_0 : decode bb_LA_owner 0 = .ok (.aload_n 2, 1) := by decide +kernel
theorem dd_LA_owner_1 : decode bb_LA_owner 1 = .ok (.iconst 0, 1) := by decide +kernel
theorem dd_LA_owner_2 : decode bb_LA_owner 2 = .ok (.aload_n 0, 1) := by decide +kernel
theorem dd_LA_owner_3 : decode bb_LA_owner 3 = .ok (.iload_n 1, 1) := by decide +kernel
theorem dd_LA_owner_4 : decode bb_LA_owner 4 = .ok (.invokevirtual 45, 3) := by decide +kernel
theorem dd_LA_owner_7 : decode bb_LA_owner 7 = .ok (.i2l, 1) := by decide +kernel
theorem dd_LA_owner_8 : decode bb_LA_owner 8 = .ok (.lastore, 1) := by decide +kernel
theorem dd_LA_owner_9 : decode bb_LA_owner 9 = .ok (.goto 6, 3) := by decide +kernel
theorem dd_LA_owner_12 : decode bb_LA_owner 12 = .ok (.astore_n 3, 1) := by decide +kernel
theorem dd_LA_owner_13 : decode bb_LA_owner 13 = .ok (.iconst 1, 1) := by decide +kernel
theorem dd_LA_owner_14 : decode bb_LA_owner 14 = .ok (.ireturn, 1) := by decide +kernel
theorem dd_LA_owner_15 : decode bb_LA_owner 15 = .ok (.iconst 0, 1) := by decide +kernel
theorem dd_LA_owner_16 : decode bb_LA_owner 16 = .ok (.ireturn, 1) := by decide +kernel
theorem dd_LA_value_0 : decode bb_LA_value 0 = .ok (.aload_n 2, 1) := by decide +kernel
theorem dd_LA_value_1 : decode bb_LA_value 1 = .ok (.iconst 0, 1) := by decide +kernel
theorem dd_LA_value_2 : decode bb_LA_value 2 = .ok (.aload_n 0, 1) := by decide +kernel
theorem dd_LA_value_3 : decode bb_LA_value 3 = .ok (.iload_n 1, 1) := by decide +kernel
theorem dd_LA_value_4 : decode bb_LA_value 4 = .ok (.invokevirtual 48, 3) := by decide +kernel
theorem dd_LA_value_7 : decode bb_LA_value 7 = .ok (.i2l, 1) := by decide +kernel
theorem dd_LA_value_8 : decode bb_LA_value 8 = .ok (.lastore, 1) := by decide +kernel
theorem dd_LA_value_9 : decode bb_LA_value 9 = .ok (.goto 6, 3) := by decide +kernel
theorem dd_LA_value_12 : decode bb_LA_value 12 = .ok (.astore_n 3, 1) := by decide +kernel
theorem dd_LA_value_13 : decode bb_LA_value 13 = .ok (.iconst 1, 1) := by decide +kernel
theorem dd_LA_value_14 : decode bb_LA_value 14 = .ok (.ireturn, 1) := by decide +kernel
theorem dd_LA_value_15 : decode bb_LA_value 15 = .ok (.iconst 0, 1) := by decide +kernel
theorem dd_LA_value_16 : decode bb_LA_value 16 = .ok (.ireturn, 1) := by decide +kernel
end
section
/-! Numbers, extents and places as mathematics: no machine here. -/
/-- how many of the n from a on -/
def px_cnt (P : Nat → Bool) (a : Nat) : Nat → Nat
  | 0 => 0
  | n + 1 => px_cnt P a n + (if P (a + n) then 1 else 0)
theorem px_cnt_le (P : Nat → Bool) (a n : Nat) : px_cnt P a n ≤ n := by
  induction n with
  | zero => exact Nat.le_refl 0
  | succ n ih =>
    unfold px_cnt
    split <;> omega
theorem px_cnt_congr {P Q : Nat → Bool} {a b : Nat} : ∀ {n : Nat}, (∀ k, k < n → P (a + k) = Q (b + k)) → px_cnt P a n = px_cnt Q b n := by
  intro n
  induction n with
  | zero => intro _; rfl
  | succ n ih =>
    intro h
    unfold px_cnt
    rw [ih (fun k hk => h k (by omega)), h n (by omega)]
theorem px_cnt_add (P : Nat → Bool) (a m n : Nat) : px_cnt P a (m + n) = px_cnt P a m + px_cnt P (a + m) n := by
  induction n with
  | zero => rfl
  | succ n ih =>
    show px_cnt P a (m + n) + _ = _ + (px_cnt P (a + m) n + _)
    rw [ih, Nat.add_assoc, Nat.add_assoc a m n]
    rfl
/-- one of them turns -/
theorem px_cnt_on {P Q : Nat → Bool} {a i : Nat} : ∀ {n : Nat}, a ≤ i → i < a + n → P i = false → Q i = true → (∀ j, j ≠ i → Q j = P j) → px_cnt Q a n = px_cnt P a n + 1 := by
  intro n
  induction n with
  | zero => intro h1 h2; omega
  | succ n ih =>
    intro h1 h2 h3 h4 h5
    unfold px_cnt
    by_cases hi : i = a + n
    · subst hi
      rw [h3, h4, px_cnt_congr (P := Q) (Q := P) (b := a) (fun k hk => h5 _ (by omega))]
      rfl
    · rw [ih h1 (by omega) h3 h4 h5, h5 (a + n) (fun z => hi z.symm)]
      omega
theorem px_cnt_pos {P : Nat → Bool} {a : Nat} : ∀ {n : Nat}, 0 < px_cnt P a n → ∃ k, k < n ∧ P (a + k) = true := by
  intro n
  induction n with
  | zero => intro h; exact absurd h (Nat.lt_irrefl 0)
  | succ n ih =>
    intro h
    unfold px_cnt at h
    by_cases hp : P (a + n) = true
    · exact ⟨n, by omega, hp⟩
    · rw [if_neg hp] at h
      obtain ⟨k, h1, h2⟩ := ih h
      exact ⟨k, by omega, h2⟩
theorem px_cnt_mono {P Q : Nat → Bool} {a : Nat} : ∀ {n : Nat}, (∀ k, k < n → P (a + k) = true → Q (a + k) = true) → px_cnt P a n ≤ px_cnt Q a n := by
  intro n
  induction n with
  | zero => intro _; exact Nat.le_refl 0
  | succ n ih =>
    intro h
    have h1 := ih (fun k hk => h k (by omega))
    have h2 := h n (by omega)
    unfold px_cnt
    cases hp : P (a + n) <;> cases hq : Q (a + n) <;> simp_all <;> omega
theorem px_cnt_0 {P : Nat → Bool} {a : Nat} : ∀ {n : Nat}, (∀ k, k < n → P (a + k) = false) → px_cnt P a n = 0 := by
  intro n
  induction n with
  | zero => intro _; rfl
  | succ n ih =>
    intro h
    unfold px_cnt
    rw [ih (fun k hk => h k (by omega)), h n (by omega)]
    rfl
/-- the cells from a on, n of them, hold v -/
def px_fill (f : Nat → Int32) (a n : Nat) (v : Int32) : Nat → Int32 := fun j => if a ≤ j ∧ j < a + n then v else f j
theorem px_fill_0 (f : Nat → Int32) (a : Nat) (v : Int32) : px_fill f a 0 v = f := by
  funext j
  unfold px_fill
  rw [if_neg (by omega)]
theorem px_fill_s (f : Nat → Int32) (a n : Nat) (v : Int32) : upd (px_fill f a n v) (a + n) v = px_fill f a (n + 1) v := by
  funext j
  unfold upd px_fill
  by_cases h : j = a + n
  · rw [if_pos h, if_pos (by omega)]
  · rw [if_neg h]
    by_cases h2 : a ≤ j ∧ j < a + n
    · rw [if_pos h2, if_pos (by omega)]
    · rw [if_neg h2, if_neg (by omega)]
/-! extents -/
def px_tree (e : Nat) : Nat := if e ≤ 3 then 0 else (e + 3) / 4
theorem px_tree_s (e : Nat) : px_tree (e + 1) ≤ px_tree e + 1 := by
  unfold px_tree
  split <;> split <;> omega
theorem px_tree_mono {a b : Nat} (h : a ≤ b) : px_tree a ≤ px_tree b := by
  unfold px_tree
  split <;> split <;> omega
theorem px_tree_add (e k : Nat) : px_tree (e + k) ≤ px_tree e + k := by
  induction k with
  | zero => exact Nat.le_refl _
  | succ k ih =>
    have := px_tree_s (e + k)
    show px_tree (e + k + 1) ≤ _
    omega
/-- a block: a hole, or its place and whether it is written -/
def px_hole (pl : Nat → Int32) (b : Nat) : Bool := pl b == -1
def px_on (pg : Nat → Int32) (b : Nat) : Bool := !(pg b == 0)
/-- block b goes on the row of the mapped block ahead of it -/
def px_go (pl wr : Nat → Int32) (b : Nat) : Bool := pl b == pl (b - 1) + 1 && wr b == wr (b - 1)
/-- how many extents begin among the k blocks from b on, where the extent that ends right ahead of b has c blocks (0: there is none) -/
def px_ex (pl wr : Nat → Int32) : Nat → Nat → Nat → Nat
  | 0, _, _ => 0
  | k + 1, b, c => if px_hole pl b then px_ex pl wr k (b + 1) 0 else if 0 < c ∧ c < 8 ∧ px_go pl wr b = true then px_ex pl wr k (b + 1) (c + 1) else 1 + px_ex pl wr k (b + 1) 1
/-- how many blocks go on an extent of c blocks, of the k from b on -/
def px_rl (pl wr : Nat → Int32) : Nat → Nat → Nat → Nat
  | 0, _, _ => 0
  | k + 1, b, c => if c < 8 ∧ px_go pl wr b = true then 1 + px_rl pl wr k (b + 1) (c + 1) else 0
/-- the first block of extent number i -/
def px_nth (pl wr : Nat → Int32) : Nat → Nat → Nat → Nat → Option Nat
  | 0, _, _, _ => none
  | k + 1, b, c, i => if px_hole pl b then px_nth pl wr k (b + 1) 0 i else if 0 < c ∧ c < 8 ∧ px_go pl wr b = true then px_nth pl wr k (b + 1) (c + 1) i else if i = 0 then some b else px_nth pl wr k (b + 1) 1 (i - 1)
theorem px_ex_le (pl wr : Nat → Int32) : ∀ (k b c : Nat), px_ex pl wr k b c ≤ k
  | 0, _, _ => Nat.le_refl 0
  | k + 1, b, c => by
    unfold px_ex
    have h1 := px_ex_le pl wr k (b + 1) 0
    have h2 := px_ex_le pl wr k (b + 1) (c + 1)
    have h3 := px_ex_le pl wr k (b + 1) 1
    split
    · omega
    · split <;> omega
theorem px_rl_le (pl wr : Nat → Int32) : ∀ (k b c : Nat), px_rl pl wr k b c ≤ k
  | 0, _, _ => Nat.le_refl 0
  | k + 1, b, c => by
    unfold px_rl
    have h2 := px_rl_le pl wr k (b + 1) (c + 1)
    split <;> omega
/-- a hole or the first of a new extent at b: what was ahead doesn't count -/
theorem px_ex_new {pl wr : Nat → Int32} {k b c : Nat} (h : ¬ (c < 8 ∧ px_go pl wr b = true)) : px_ex pl wr k b c = px_ex pl wr k b 0 := by
  cases k with
  | zero => rfl
  | succ k =>
    unfold px_ex
    split
    · rfl
    · rw [if_neg (fun z => h z.2), if_neg (c := 0 < 0 ∧ 0 < 8 ∧ px_go pl wr b = true) (fun z => absurd z.1 (Nat.lt_irrefl 0))]
theorem px_nth_new {pl wr : Nat → Int32} {k b c i : Nat} (h : ¬ (c < 8 ∧ px_go pl wr b = true)) : px_nth pl wr k b c i = px_nth pl wr k b 0 i := by
  cases k with
  | zero => rfl
  | succ k =>
    unfold px_nth
    split
    · rfl
    · rw [if_neg (fun z => h z.2), if_neg (c := 0 < 0 ∧ 0 < 8 ∧ px_go pl wr b = true) (fun z => absurd z.1 (Nat.lt_irrefl 0))]
/-- a mapped block's successor that goes on is mapped itself: places are at least -1 -/
def px_rng (pl : Nat → Int32) (a n : Nat) : Prop := ∀ b, a ≤ b → b < a + n → pl b = -1 ∨ ∃ p, p < 80 ∧ pl b = nI p
theorem px_m1 {p : Nat} (h : p < 2 ^ 31) : nI p ≠ -1 := by
  intro z
  have h1 := nI_toInt h
  rw [z] at h1
  have h2 : (-1 : Int32).toInt = -1 := by decide
  omega
theorem px_go_mapped {pl wr : Nat → Int32} {b : Nat} (h1 : ∃ p, p < 80 ∧ pl (b - 1) = nI p) (h2 : px_go pl wr b = true) : px_hole pl b = false := by
  obtain ⟨p, hp, hq⟩ := h1
  unfold px_go at h2
  simp only [Bool.and_eq_true, beq_iff_eq] at h2
  unfold px_hole
  rw [h2.1, hq, nI_1]
  simp only [beq_eq_false_iff_ne]
  exact px_m1 (by omega)
/-- jumping over the rest of an extent -/
theorem px_ex_jump {pl wr : Nat → Int32} {a n : Nat} (hr : px_rng pl a n) : ∀ (k b c : Nat), 0 < c → a < b → b + k ≤ a + n → px_hole pl (b - 1) = false → px_ex pl wr k b c = px_ex pl wr (k - px_rl pl wr k b c) (b + px_rl pl wr k b c) 0
  | 0, _, _, _, _, _, _ => rfl
  | k + 1, b, c, hc, hb, hk, hm => by
    by_cases h : c < 8 ∧ px_go pl wr b = true
    · have hmm : ∃ p, p < 80 ∧ pl (b - 1) = nI p := by
        rcases hr (b - 1) (by omega) (by omega) with h1 | h1
        · simp [px_hole, h1] at hm
        · exact h1
      have hb2 := px_go_mapped hmm h.2
      have e1 : px_ex pl wr (k + 1) b c = px_ex pl wr k (b + 1) (c + 1) := by
        rw [px_ex, hb2, if_neg (by decide), if_pos ⟨hc, h⟩]
      have e2 : px_rl pl wr (k + 1) b c = 1 + px_rl pl wr k (b + 1) (c + 1) := by
        rw [px_rl, if_pos h]
      rw [e1, e2, px_ex_jump hr k (b + 1) (c + 1) (by omega) (by omega) (by omega) (by simpa using hb2)]
      congr 1 <;> omega
    · have e2 : px_rl pl wr (k + 1) b c = 0 := by rw [px_rl, if_neg h]
      rw [e2, px_ex_new h]
      rfl
theorem px_nth_jump {pl wr : Nat → Int32} {a n : Nat} (hr : px_rng pl a n) (i : Nat) : ∀ (k b c : Nat), 0 < c → a < b → b + k ≤ a + n → px_hole pl (b - 1) = false → px_nth pl wr k b c i = px_nth pl wr (k - px_rl pl wr k b c) (b + px_rl pl wr k b c) 0 i
  | 0, _, _, _, _, _, _ => rfl
  | k + 1, b, c, hc, hb, hk, hm => by
    by_cases h : c < 8 ∧ px_go pl wr b = true
    · have hmm : ∃ p, p < 80 ∧ pl (b - 1) = nI p := by
        rcases hr (b - 1) (by omega) (by omega) with h1 | h1
        · simp [px_hole, h1] at hm
        · exact h1
      have hb2 := px_go_mapped hmm h.2
      have e1 : px_nth pl wr (k + 1) b c i = px_nth pl wr k (b + 1) (c + 1) i := by
        rw [px_nth, hb2, if_neg (by decide), if_pos ⟨hc, h⟩]
      have e2 : px_rl pl wr (k + 1) b c = 1 + px_rl pl wr k (b + 1) (c + 1) := by
        rw [px_rl, if_pos h]
      rw [e1, e2, px_nth_jump hr i k (b + 1) (c + 1) (by omega) (by omega) (by omega) (by simpa using hb2)]
      congr 1 <;> omega
    · have e2 : px_rl pl wr (k + 1) b c = 0 := by rw [px_rl, if_neg h]
      rw [e2, px_nth_new h]
      rfl
end
section
/-! how far the number of extents can turn -/
def px_fx (pl wr : Nat → Int32) : Nat → Nat → Nat → Int32 → Int32 → Nat
  | 0, _, _, _, _ => 0
  | k + 1, b, c, pp, pw => if px_hole pl b then px_fx pl wr k (b + 1) 0 (pl b) (wr b) else if 0 < c ∧ c < 8 ∧ (pl b = pp + 1 ∧ wr b = pw) then px_fx pl wr k (b + 1) (c + 1) (pl b) (wr b) else 1 + px_fx pl wr k (b + 1) 1 (pl b) (wr b)
theorem px_fx_0 {pl wr : Nat → Int32} {k b c c' : Nat} {pp pw pp' pw' : Int32} (h : c = 0 ∨ 8 ≤ c) (h' : c' = 0 ∨ 8 ≤ c') : px_fx pl wr k b c pp pw = px_fx pl wr k b c' pp' pw' := by
  cases k with
  | zero => rfl
  | succ k =>
    unfold px_fx
    split
    · rfl
    · rw [if_neg (by omega), if_neg (by omega)]
theorem px_fx_ex {pl wr : Nat → Int32} : ∀ (k b c : Nat), px_ex pl wr k b c = px_fx pl wr k b c (pl (b - 1)) (wr (b - 1))
  | 0, _, _ => rfl
  | k + 1, b, c => by
    unfold px_ex px_fx
    have hg : (px_go pl wr b = true) = (pl b = pl (b - 1) + 1 ∧ wr b = wr (b - 1)) := by
      unfold px_go
      simp
    rw [px_fx_ex k (b + 1) 0, px_fx_ex k (b + 1) (c + 1), px_fx_ex k (b + 1) 1]
    simp only [hg, Nat.add_sub_cancel]
theorem px_fx_mono {pl wr : Nat → Int32} : ∀ (k b c c' : Nat) (pp pw : Int32), 0 < c → c ≤ c' → px_fx pl wr k b c pp pw ≤ px_fx pl wr k b c' pp pw ∧ px_fx pl wr k b c' pp pw ≤ px_fx pl wr k b c pp pw + 1
  | 0, _, _, _, _, _, _, _ => ⟨Nat.le_refl _, Nat.zero_le _⟩
  | k + 1, b, c, c', pp, pw, h0, h => by
    unfold px_fx
    by_cases hh : px_hole pl b = true
    · rw [if_pos hh, if_pos hh]
      omega
    · rw [if_neg hh, if_neg hh]
      by_cases hg : pl b = pp + 1 ∧ wr b = pw
      · by_cases h8 : c' < 8
        · rw [if_pos ⟨h0, by omega, hg⟩, if_pos ⟨by omega, h8, hg⟩]
          exact px_fx_mono k (b + 1) (c + 1) (c' + 1) _ _ (by omega) (by omega)
        · rw [if_neg (c := 0 < c' ∧ c' < 8 ∧ (pl b = pp + 1 ∧ wr b = pw)) (by omega)]
          by_cases h9 : c < 8
          · rw [if_pos ⟨h0, h9, hg⟩]
            have := px_fx_mono (pl := pl) (wr := wr) k (b + 1) 1 (c + 1) (pl b) (wr b) (by omega) (by omega)
            omega
          · rw [if_neg (by omega)]
            omega
      · rw [if_neg (fun z => hg z.2.2), if_neg (fun z => hg z.2.2)]
        omega
theorem px_fx_any {pl wr : Nat → Int32} (k b c : Nat) (pp pw pp' pw' : Int32) : px_fx pl wr k b c pp pw ≤ px_fx pl wr k b 0 pp' pw' ∧ px_fx pl wr k b 0 pp' pw' ≤ px_fx pl wr k b c pp pw + 1 := by
  by_cases h : 0 < c ∧ c < 8
  · have h1 := px_fx_mono (pl := pl) (wr := wr) k b c 8 pp pw h.1 (by omega)
    rw [px_fx_0 (c := 8) (c' := 0) (pp' := pp') (pw' := pw') (Or.inr (by omega)) (Or.inl rfl)] at h1
    exact h1
  · rw [px_fx_0 (c := c) (c' := 0) (pp' := pp') (pw' := pw') (by omega) (Or.inl rfl)]
    omega
/-- what the turn of one block can cost -/
def px_co (pl wr pl' wr' : Nat → Int32) (b : Nat) : Nat :=
  if px_hole pl b then (if px_hole pl' b then 0 else 1) else if px_hole pl' b then 1 else if pl b = pl' b ∧ wr b = wr' b then 0 else 2
def px_cs (pl wr pl' wr' : Nat → Int32) : Nat → Nat → Nat
  | 0, _ => 0
  | k + 1, b => px_co pl wr pl' wr' b + px_cs pl wr pl' wr' k (b + 1)
theorem px_fx_cmp {pl wr pl' wr' : Nat → Int32} : ∀ (k b c : Nat) (pp pw : Int32), px_fx pl' wr' k b c pp pw ≤ px_fx pl wr k b c pp pw + px_cs pl wr pl' wr' k b
  | 0, _, _, _, _ => Nat.zero_le _
  | k + 1, b, c, pp, pw => by
    have ih := fun c pp pw => px_fx_cmp (pl := pl) (wr := wr) (pl' := pl') (wr' := wr') k (b + 1) c pp pw
    unfold px_cs px_co
    have hA := fun c' pp' pw' => px_fx_any (pl := pl) (wr := wr) k (b + 1) c' pp' pw' (pl b) (wr b)
    have hB : px_fx pl' wr' (k + 1) b c pp pw ≤ 1 + px_fx pl wr k (b + 1) 0 (pl b) (wr b) + px_cs pl wr pl' wr' k (b + 1) := by
      rw [px_fx]
      split
      · have := ih 0 (pl' b) (wr' b)
        have := hA 0 (pl' b) (wr' b)
        omega
      · split
        · have := ih (c + 1) (pl' b) (wr' b)
          have := hA (c + 1) (pl' b) (wr' b)
          omega
        · have := ih 1 (pl' b) (wr' b)
          have := hA 1 (pl' b) (wr' b)
          omega
    by_cases h1 : px_hole pl b = true
    · rw [if_pos h1]
      have e1 : px_fx pl wr (k + 1) b c pp pw = px_fx pl wr k (b + 1) 0 (pl b) (wr b) := by rw [px_fx, if_pos h1]
      rw [e1]
      by_cases h2 : px_hole pl' b = true
      · rw [if_pos h2]
        have e2 : px_fx pl' wr' (k + 1) b c pp pw = px_fx pl' wr' k (b + 1) 0 (pl b) (wr b) := by rw [px_fx, if_pos h2]; exact px_fx_0 (Or.inl rfl) (Or.inl rfl)
        rw [e2]
        have := ih 0 (pl b) (wr b)
        omega
      · rw [if_neg h2]
        omega
    · rw [if_neg h1]
      have hA1 : px_fx pl wr k (b + 1) 0 (pl b) (wr b) ≤ px_fx pl wr (k + 1) b c pp pw + 1 := by
        rw [px_fx, if_neg h1]
        split
        · exact (hA (c + 1) (pl b) (wr b)).2
        · have := (hA 1 (pl b) (wr b)).2
          omega
      by_cases h2 : px_hole pl' b = true
      · rw [if_pos h2]
        have e2 : px_fx pl' wr' (k + 1) b c pp pw = px_fx pl' wr' k (b + 1) 0 (pl b) (wr b) := by rw [px_fx, if_pos h2]; exact px_fx_0 (Or.inl rfl) (Or.inl rfl)
        rw [e2]
        have := ih 0 (pl b) (wr b)
        omega
      · rw [if_neg h2]
        by_cases h3 : pl b = pl' b ∧ wr b = wr' b
        · rw [if_pos h3]
          rw [px_fx, px_fx, if_neg h1, if_neg h2, ← h3.1, ← h3.2]
          have := ih (c + 1) (pl b) (wr b)
          have := ih 1 (pl b) (wr b)
          split <;> omega
        · rw [if_neg h3]
          omega
theorem px_ex_cmp (pl wr pl' wr' : Nat → Int32) (k b : Nat) : px_ex pl' wr' k b 0 ≤ px_ex pl wr k b 0 + px_cs pl wr pl' wr' k b := by
  rw [px_fx_ex, px_fx_ex, px_fx_0 (pl := pl') (c := 0) (c' := 0) (pp' := pl (b - 1)) (pw' := wr (b - 1)) (Or.inl rfl) (Or.inl rfl)]
  exact px_fx_cmp k b 0 _ _
end
section
/-! places: which are had, the best row, mapping rows of holes -/
def px_un (ow : Nat → Int32) (p : Int32) : Bool := decide (0 ≤ p) && decide (p < 80) && ow p.toNatClampNeg == -1
theorem px_un_nI (ow : Nat → Int32) {p : Nat} (h : p < 2 ^ 31) : px_un ow (nI p) = (decide (p < 80) && ow p == -1) := by
  unfold px_un
  rw [nI_clamp h]
  have h1 : (0 : Int32) ≤ nI p := nI_pos' h
  have h2 : (nI p < (80 : Int32)) ↔ p < 80 := nI_ltI (b := 80) h (by omega)
  simp [h1, h2]
theorem px_un_m1 (ow : Nat → Int32) : px_un ow (-1) = false := by
  unfold px_un
  simp
/-- how many places from p on are not had, of k -/
def px_room (ow : Nat → Int32) : Nat → Nat → Nat
  | 0, _ => 0
  | k + 1, p => if ow p = -1 then 1 + px_room ow k (p + 1) else 0
theorem px_room_le (ow : Nat → Int32) : ∀ (k p : Nat), px_room ow k p ≤ k
  | 0, _ => Nat.le_refl 0
  | k + 1, p => by
    unfold px_room
    have := px_room_le ow k (p + 1)
    split <;> omega
theorem px_room_in {ow : Nat → Int32} : ∀ {k p i : Nat}, i < px_room ow k p → ow (p + i) = -1
  | 0, _, _, h => absurd h (Nat.not_lt_zero _)
  | k + 1, p, i, h => by
    unfold px_room at h
    split at h
    · rename_i h1
      cases i with
      | zero => exact h1
      | succ i =>
        have := px_room_in (ow := ow) (k := k) (p := p + 1) (i := i) (by omega)
        rw [show p + (i + 1) = p + 1 + i by omega]
        exact this
    · exact absurd h (Nat.not_lt_zero _)
theorem px_room_end {ow : Nat → Int32} : ∀ {k p : Nat}, px_room ow k p < k → ow (p + px_room ow k p) ≠ -1
  | 0, _, h => absurd h (Nat.not_lt_zero _)
  | k + 1, p, h => by
    unfold px_room at h ⊢
    split at h
    · rename_i h1
      rw [if_pos h1]
      have := px_room_end (ow := ow) (k := k) (p := p + 1) (by omega)
      rw [show p + (1 + px_room ow k (p + 1)) = p + 1 + px_room ow k (p + 1) by omega]
      exact this
    · rename_i h1
      rw [if_neg h1]
      exact h1
/-- a row of r suits n better than one of s -/
def px_bet (n s r : Nat) : Bool := if s < n then decide (s < r) else decide (n ≤ r) && decide (r < s)
def px_bf (ow : Nat → Int32) (n : Nat) : Nat → Nat → Int32 → Nat → Int32
  | 0, _, b, _ => b
  | k + 1, p, b, s => if 0 < px_room ow (k + 1) p ∧ (p = 0 ∨ ow (p - 1) ≠ -1) ∧ px_bet n s (px_room ow (k + 1) p) = true then px_bf ow n k (p + 1) (nI p) (px_room ow (k + 1) p) else px_bf ow n k (p + 1) b s
def px_best (ow : Nat → Int32) (n : Nat) : Int32 := px_bf ow n 80 0 (-1) 0
theorem px_bf_un {ow : Nat → Int32} {n : Nat} : ∀ (k p : Nat) (b : Int32) (s : Nat), p + k = 80 → px_un ow b = true → px_un ow (px_bf ow n k p b s) = true
  | 0, _, _, _, _, h => h
  | k + 1, p, b, s, hk, h => by
    unfold px_bf
    split
    · rename_i h1
      refine px_bf_un k (p + 1) _ _ (by omega) ?_
      rw [px_un_nI ow (by omega)]
      have h2 := px_room_in (ow := ow) (k := k + 1) (p := p) (i := 0) h1.1
      simp only [Nat.add_zero] at h2
      simp [h2]
      omega
    · exact px_bf_un k (p + 1) b s (by omega) h
/-- where a place is left one is found -/
theorem px_bf_some {ow : Nat → Int32} {n : Nat} (hn : 0 < n) : ∀ (k p : Nat), p + k = 80 → (p = 0 ∨ ow (p - 1) ≠ -1) → (∃ q, p ≤ q ∧ q < 80 ∧ ow q = -1) → px_un ow (px_bf ow n k p (-1) 0) = true
  | 0, p, hk, _, ⟨q, h1, h2, _⟩ => by omega
  | k + 1, p, hk, hp, ⟨q, h1, h2, h3⟩ => by
    unfold px_bf
    by_cases hw : ow p = -1
    · have hr : 0 < px_room ow (k + 1) p := by
        unfold px_room
        rw [if_pos hw]
        omega
      rw [if_pos ⟨hr, hp, by unfold px_bet; rw [if_pos hn]; simpa using hr⟩]
      refine px_bf_un k (p + 1) _ _ (by omega) ?_
      rw [px_un_nI ow (by omega)]
      simp [hw]
      omega
    · have hr : px_room ow (k + 1) p = 0 := by
        unfold px_room
        rw [if_neg hw]
      rw [if_neg (by rw [hr]; omega)]
      refine px_bf_some hn k (p + 1) (by omega) (Or.inr (by simpa using hw)) ⟨q, ?_, h2, h3⟩
      rcases Nat.lt_or_ge p q with h | h
      · exact h
      · exact absurd (by rw [show p = q by omega]; exact h3) hw
theorem px_best_un {ow : Nat → Int32} {n : Nat} (hn : 0 < n) (h : ∃ q, q < 80 ∧ ow q = -1) : px_un ow (px_best ow n) = true := by
  obtain ⟨q, h1, h2⟩ := h
  exact px_bf_some hn 80 0 rfl (Or.inl rfl) ⟨q, Nat.zero_le _, h1, h2⟩
/-- the places among which a jump lands don't count: inside a row nothing begins -/
theorem px_bf_skip {ow : Nat → Int32} {n : Nat} : ∀ (j k p : Nat) (b : Int32) (s : Nat), j ≤ px_room ow k p → j ≤ k → 0 < p → ow (p - 1) = -1 → px_bf ow n k p b s = px_bf ow n (k - j) (p + j) b s
  | 0, _, _, _, _, _, _, _, _ => rfl
  | j + 1, 0, _, _, _, _, h, _, _ => absurd h (by omega)
  | j + 1, k + 1, p, b, s, hr, hk, hp, hm => by
    have e1 : px_bf ow n (k + 1) p b s = px_bf ow n k (p + 1) b s := by
      rw [px_bf, if_neg (fun z => by rcases z.2.1 with h | h; omega; exact h hm)]
    have h0 : ow p = -1 := by
      have := px_room_in (ow := ow) (k := k + 1) (p := p) (i := 0) (by omega)
      simpa using this
    have hr2 : j ≤ px_room ow k (p + 1) := by
      unfold px_room at hr
      rw [if_pos h0] at hr
      omega
    rw [e1, px_bf_skip j k (p + 1) b s hr2 (by omega) (by omega) (by simpa using h0)]
    congr 1 <;> omega
/-- how many places are not had -/
def px_nu (ow : Nat → Int32) : Nat := px_cnt (fun p => ow p == -1) 0 80
theorem px_nu_ex {ow : Nat → Int32} (h : 0 < px_nu ow) : ∃ q, q < 80 ∧ ow q = -1 := by
  obtain ⟨k, h1, h2⟩ := px_cnt_pos h
  simp only [Nat.zero_add, beq_iff_eq] at h2
  exact ⟨k, h1, h2⟩
theorem px_nu_take {ow : Nat → Int32} {p : Nat} {v : Int32} (hp : p < 80) (h : ow p = -1) (hv : v ≠ -1) : px_nu (upd ow p v) + 1 = px_nu ow := by
  unfold px_nu
  rw [px_cnt_on (P := fun q => upd ow p v q == -1) (Q := fun q => ow q == -1) (i := p) (Nat.zero_le _) (by omega) (by simp [upd, hv]) (by simp [h]) (fun j hj => by simp [upd, hj])]
theorem px_nu_give {ow : Nat → Int32} {p : Nat} (hp : p < 80) (h : ow p ≠ -1) : px_nu (upd ow p (-1)) = px_nu ow + 1 := by
  unfold px_nu
  exact px_cnt_on (P := fun q => ow q == -1) (Q := fun q => upd ow p (-1) q == -1) (i := p) (Nat.zero_le _) (by omega) (by simp [h]) (by simp [upd]) (fun j hj => by simp [upd, hj])
/-- a row of k blocks from b on is mapped; c is the place that would go on the row ahead; own + b is block b's name on the volume -/
def px_mr (own : Nat) : Nat → Nat → Int32 → (Nat → Int32) → (Nat → Int32) → (Nat → Int32) × (Nat → Int32)
  | 0, _, _, pl, ow => (pl, ow)
  | k + 1, b, c, pl, ow => if px_un ow (if px_un ow c then c else px_best ow (k + 1)) then px_mr own k (b + 1) ((if px_un ow c then c else px_best ow (k + 1)) + 1) (upd pl b (if px_un ow c then c else px_best ow (k + 1))) (upd ow (if px_un ow c then c else px_best ow (k + 1)).toNatClampNeg (nI (own + b))) else px_mr own k (b + 1) ((if px_un ow c then c else px_best ow (k + 1)) + 1) pl ow
def px_er (P : Nat → Bool) : Nat → Nat → Nat
  | 0, b => b
  | k + 1, b => if P b then px_er P k (b + 1) else b
/-- the place that goes on the row ahead of block b; f: b is a file's first -/
def px_cand (f : Bool) (pl : Nat → Int32) (b : Nat) : Int32 := if f || px_hole pl (b - 1) then -1 else pl (b - 1) + 1
def px_mh (own lo : Nat) (sel : Nat → Bool) : Nat → Nat → Nat → (Nat → Int32) → (Nat → Int32) → (Nat → Int32) × (Nat → Int32)
  | 0, _, _, pl, ow => (pl, ow)
  | k + 1, b, e, pl, ow => if b < e then px_mh own lo sel k (px_er (fun j => px_hole pl j && sel j) (e - b) b + 1) e (px_mr own (px_er (fun j => px_hole pl j && sel j) (e - b) b - b) b (px_cand (b == lo) pl b) pl ow).1 (px_mr own (px_er (fun j => px_hole pl j && sel j) (e - b) b - b) b (px_cand (b == lo) pl b) pl ow).2 else (pl, ow)
end
section
/-! the volume and the blocks fit: every mapped block's place is had by it -/
def px_I1 (pl ow : Nat → Int32) : Prop := (∀ q, q < 240 → pl q = -1 ∨ ∃ p, p < 80 ∧ pl q = nI p ∧ ow p = nI q) ∧ (∀ p, p < 80 → ow p = -1 ∨ ∃ q, q < 240 ∧ ow p = nI q)
def px_mp (pl : Nat → Int32) : Nat := px_cnt (fun q => !px_hole pl q) 0 240
theorem px_I1.rng {pl ow : Nat → Int32} (h : px_I1 pl ow) : px_rng pl 0 240 := fun b _ hb => by
  rcases h.1 b (by omega) with h1 | ⟨p, h1, h2, _⟩
  · exact Or.inl h1
  · exact Or.inr ⟨p, h1, h2⟩
theorem px_un_spec {ow : Nat → Int32} {c : Int32} (h : px_un ow c = true) : ∃ p, p < 80 ∧ c = nI p ∧ ow p = -1 := by
  unfold px_un at h
  simp only [Bool.and_eq_true, decide_eq_true_eq, beq_iff_eq] at h
  obtain ⟨⟨h1, h2⟩, h3⟩ := h
  have h4 : ¬ c < 0 := Int32.not_lt.mpr h1
  obtain ⟨j, hj, rfl⟩ := nI_of h4
  rw [nI_clamp hj] at h3
  have h5 : (nI j < (80 : Int32)) ↔ j < 80 := nI_ltI (b := 80) hj (by omega)
  exact ⟨j, h5.mp h2, rfl, h3⟩
theorem px_I1.take {pl ow : Nat → Int32} {b p : Nat} (h : px_I1 pl ow) (hb : b < 240) (hp : p < 80) (ho : ow p = -1) : px_I1 (upd pl b (nI p)) (upd ow p (nI b)) := by
  refine ⟨fun q hq => ?_, fun r hr => ?_⟩
  · by_cases e : q = b
    · subst e
      exact Or.inr ⟨p, hp, by simp [upd], by simp [upd]⟩
    · rcases h.1 q hq with h1 | ⟨r, h1, h2, h3⟩
      · exact Or.inl (by simp [upd, e, h1])
      · refine Or.inr ⟨r, h1, by simp [upd, e, h2], ?_⟩
        have : r ≠ p := fun z => by
          subst z
          rw [ho] at h3
          exact px_m1 (by omega) h3.symm
        simp [upd, this, h3]
  · by_cases e : r = p
    · subst e
      exact Or.inr ⟨b, hb, by simp [upd]⟩
    · rcases h.2 r hr with h1 | ⟨q, h1, h2⟩
      · exact Or.inl (by simp [upd, e, h1])
      · exact Or.inr ⟨q, h1, by simp [upd, e, h2]⟩
theorem px_I1.give {pl ow : Nat → Int32} {b p : Nat} (h : px_I1 pl ow) (hb : b < 240) (hp : p < 80) (ho : pl b = nI p) : px_I1 (upd pl b (-1)) (upd ow p (-1)) := by
  have hob : ow p = nI b := by
    rcases h.1 b hb with h1 | ⟨r, h1, h2, h3⟩
    · rw [ho] at h1
      exact absurd h1 (px_m1 (by omega))
    · rw [ho] at h2
      have : p = r := (nI_eq (by omega) (by omega)).mp h2
      rw [this]; exact h3
  refine ⟨fun q hq => ?_, fun r hr => ?_⟩
  · by_cases e : q = b
    · subst e
      exact Or.inl (by simp [upd])
    · rcases h.1 q hq with h1 | ⟨r, h1, h2, h3⟩
      · exact Or.inl (by simp [upd, e, h1])
      · refine Or.inr ⟨r, h1, by simp [upd, e, h2], ?_⟩
        have : r ≠ p := fun z => by
          subst z
          rw [hob] at h3
          exact e ((nI_eq (by omega) (by omega)).mp h3).symm
        simp [upd, this, h3]
  · by_cases e : r = p
    · subst e
      exact Or.inl (by simp [upd])
    · rcases h.2 r hr with h1 | ⟨q, h1, h2⟩
      · exact Or.inl (by simp [upd, e, h1])
      · exact Or.inr ⟨q, h1, by simp [upd, e, h2]⟩
theorem px_mp_take {pl : Nat → Int32} {b p : Nat} (hb : b < 240) (hp : p < 80) (h : pl b = -1) : px_mp (upd pl b (nI p)) = px_mp pl + 1 := by
  unfold px_mp
  refine px_cnt_on (i := b) (Nat.zero_le _) (by omega) (by simp [px_hole, h]) ?_ (fun j hj => by simp [px_hole, upd, hj])
  have := px_m1 (p := p) (by omega)
  simp [px_hole, upd, this]
theorem px_mp_give {pl : Nat → Int32} {b : Nat} (hb : b < 240) (h : pl b ≠ -1) : px_mp (upd pl b (-1)) + 1 = px_mp pl := by
  unfold px_mp
  exact (px_cnt_on (P := fun q => !px_hole (upd pl b (-1)) q) (Q := fun q => !px_hole pl q) (i := b) (Nat.zero_le _) (by omega) (by simp [px_hole, upd]) (by simp [px_hole, h]) (fun j hj => by simp [px_hole, upd, hj])).symm
/-- what mapping a row does -/
def px_mrP (pl ow pl' ow' : Nat → Int32) (b k : Nat) : Prop :=
  (∀ j, (j < b ∨ b + k ≤ j) → pl' j = pl j) ∧ (∀ j, b ≤ j → j < b + k → ∃ p, p < 80 ∧ pl' j = nI p) ∧ px_I1 pl' ow' ∧ px_nu ow' + k = px_nu ow ∧ px_mp pl' = px_mp pl + k
theorem px_mr_spec : ∀ (k b : Nat) (c : Int32) (pl ow : Nat → Int32), px_I1 pl ow → b + k ≤ 240 → (∀ j, b ≤ j → j < b + k → pl j = -1) → k ≤ px_nu ow → px_mrP pl ow (px_mr 0 k b c pl ow).1 (px_mr 0 k b c pl ow).2 b k
  | 0, b, c, pl, ow, h, _, _, _ => ⟨fun _ _ => rfl, fun j h1 h2 => by omega, h, Nat.add_zero _, (Nat.add_zero _).symm⟩
  | k + 1, b, c, pl, ow, h, hb, hh, hn => by
    have hu : px_un ow (if px_un ow c then c else px_best ow (k + 1)) = true := by
      by_cases hc : px_un ow c = true
      · rw [if_pos hc]; exact hc
      · rw [if_neg hc]
        exact px_best_un (by omega) (px_nu_ex (by omega))
    rw [px_mr, if_pos hu]
    obtain ⟨p, hp, he, ho⟩ := px_un_spec hu
    rw [he, nI_clamp (show p < 2 ^ 31 by omega), Nat.zero_add]
    have hpl : pl b = -1 := hh b (by omega) (by omega)
    have hnu := px_nu_take (v := nI b) hp ho (px_m1 (by omega))
    obtain ⟨a1, a2, a3, a4, a5⟩ := px_mr_spec k (b + 1) (nI p + 1) (upd pl b (nI p)) (upd ow p (nI b)) (h.take (by omega) hp ho) (by omega)
      (fun j h1 h2 => by rw [← hh j (by omega) (by omega)]; simp [upd]; omega) (by omega)
    have hm := px_mp_take (p := p) (show b < 240 by omega) hp hpl
    refine ⟨fun j hj => ?_, fun j h1 h2 => ?_, a3, by omega, by omega⟩
    · rw [a1 j (by omega)]
      simp [upd]
      omega
    · by_cases e : j = b
      · subst e
        refine ⟨p, hp, ?_⟩
        rw [a1 j (by omega)]
        simp [upd]
      · exact a2 j (by omega) (by omega)
theorem px_er_le (P : Nat → Bool) : ∀ (k b : Nat), b ≤ px_er P k b ∧ px_er P k b ≤ b + k
  | 0, b => ⟨Nat.le_refl _, Nat.le_refl _⟩
  | k + 1, b => by
    unfold px_er
    have := px_er_le P k (b + 1)
    split <;> omega
theorem px_er_in {P : Nat → Bool} : ∀ (k b j : Nat), b ≤ j → j < px_er P k b → P j = true
  | 0, b, j, h1, h2 => by unfold px_er at h2; omega
  | k + 1, b, j, h1, h2 => by
    unfold px_er at h2
    split at h2
    · rename_i hp
      by_cases e : j = b
      · rw [e]; exact hp
      · exact px_er_in k (b + 1) j (by omega) h2
    · omega
theorem px_er_out {P : Nat → Bool} : ∀ (k b : Nat), px_er P k b < b + k → P (px_er P k b) = false
  | 0, b, h => by unfold px_er at h; omega
  | k + 1, b, h => by
    unfold px_er at h ⊢
    split at h
    · rename_i hp
      rw [if_pos hp]
      exact px_er_out k (b + 1) (by omega)
    · rename_i hp
      rw [if_neg hp]
      simpa using hp
def px_mhP (sel : Nat → Bool) (pl ow pl' ow' : Nat → Int32) (b e : Nat) : Prop :=
  (∀ j, ¬ (b ≤ j ∧ j < e ∧ px_hole pl j = true ∧ sel j = true) → pl' j = pl j) ∧ (∀ j, b ≤ j → j < e → px_hole pl j = true → sel j = true → ∃ p, p < 80 ∧ pl' j = nI p) ∧ px_I1 pl' ow' ∧ px_nu ow' + px_mp pl' = px_nu ow + px_mp pl
theorem px_mh_spec (lo : Nat) (sel : Nat → Bool) : ∀ (k b e : Nat) (pl ow : Nat → Int32), e - b ≤ k → px_I1 pl ow → e ≤ 240 → px_cnt (fun j => px_hole pl j && sel j) b (e - b) ≤ px_nu ow → px_mhP sel pl ow (px_mh 0 lo sel k b e pl ow).1 (px_mh 0 lo sel k b e pl ow).2 b e
  | 0, b, e, pl, ow, hk, h, _, _ => ⟨fun _ _ => rfl, fun j h1 h2 => by omega, h, rfl⟩
  | k + 1, b, e, pl, ow, hk, h, he, hn => by
    rw [px_mh]
    by_cases hb : b < e
    · rw [if_pos hb]
      have hE : ∀ r, r = px_er (fun j => px_hole pl j && sel j) (e - b) b → b ≤ r ∧ r ≤ e ∧ (∀ j, b ≤ j → j < r → px_hole pl j = true ∧ sel j = true) ∧ (r < e → (px_hole pl r && sel r) = false) := by
        intro r hr
        have h1 := px_er_le (fun j => px_hole pl j && sel j) (e - b) b
        refine ⟨by omega, by omega, fun j h2 h3 => ?_, fun h2 => ?_⟩
        · have := px_er_in (P := fun j => px_hole pl j && sel j) (e - b) b j h2 (by omega)
          simpa using this
        · have := px_er_out (P := fun j => px_hole pl j && sel j) (e - b) b (by omega)
          rw [hr]
          exact this
      generalize hr : px_er (fun j => px_hole pl j && sel j) (e - b) b = r
      obtain ⟨r1, r2, r3, r4⟩ := hE r hr.symm
      generalize px_cand (b == lo) pl b = c
      have hcs : px_cnt (fun j => px_hole pl j && sel j) b (e - b) = (r - b) + px_cnt (fun j => px_hole pl j && sel j) r (e - r) := by
        rw [show e - b = (r - b) + (e - r) by omega, px_cnt_add, show b + (r - b) = r by omega]
        congr 1
        have h1 : ∀ n, n ≤ r - b → px_cnt (fun j => px_hole pl j && sel j) b n = n := by
          intro n
          induction n with
          | zero => intro _; rfl
          | succ n ih =>
            intro hn'
            have := r3 (b + n) (by omega) (by omega)
            rw [px_cnt, ih (by omega), this.1, this.2]
            rfl
        exact h1 _ (Nat.le_refl _)
      obtain ⟨a1, a2, a3, a4, a5⟩ := px_mr_spec (r - b) b c pl ow h (by omega) (fun j h1 h2 => by have := (r3 j h1 (by omega)).1; simpa [px_hole] using this) (by omega)
      generalize (px_mr 0 (r - b) b c pl ow).1 = pl1 at a1 a2 a3 a4 a5 ⊢
      generalize (px_mr 0 (r - b) b c pl ow).2 = ow1 at a3 a4 ⊢
      have hcr : px_cnt (fun j => px_hole pl1 j && sel j) (r + 1) (e - (r + 1)) ≤ px_cnt (fun j => px_hole pl j && sel j) r (e - r) := by
        by_cases hre : r < e
        · rw [show e - r = 1 + (e - (r + 1)) by omega, px_cnt_add]
          refine Nat.le_trans (Nat.le_of_eq (px_cnt_congr (b := r + 1) (fun n hn' => ?_))) (Nat.le_add_left _ _)
          simp only [px_hole]
          rw [a1 _ (by omega)]
        · rw [show e - (r + 1) = 0 by omega]
          exact Nat.zero_le _
      obtain ⟨b1, b2, b3, b4⟩ := px_mh_spec lo sel k (r + 1) e pl1 ow1 (by omega) a3 he (by omega)
      refine ⟨fun j hj => ?_, fun j h1 h2 h3 h4 => ?_, b3, by omega⟩
      · by_cases hin : b ≤ j ∧ j < r
        · exact absurd ⟨hin.1, by omega, r3 j hin.1 hin.2⟩ hj
        · have e1 : pl1 j = pl j := a1 j (by omega)
          rw [b1 j, e1]
          rintro ⟨c1, c2, c3, c4⟩
          refine hj ⟨by omega, c2, ?_, c4⟩
          simpa [px_hole, e1] using c3
      · by_cases hin : j < r
        · obtain ⟨p, hp, hq⟩ := a2 j h1 (by omega)
          refine ⟨p, hp, ?_⟩
          rw [b1 j, hq]
          rintro ⟨c1, -⟩
          omega
        · have hjr : j ≠ r := fun z => by
            subst z
            have := r4 h2
            rw [h3, h4] at this
            cases this
          have e1 : pl1 j = pl j := a1 j (by omega)
          exact b2 j (by omega) h2 (by simpa [px_hole, e1] using h3) h4
    · rw [if_neg hb]
      exact ⟨fun _ _ => rfl, fun j h1 h2 => by omega, h, rfl⟩
end
section
/-! a file's own arrays beside the arrays of all files -/
def px_vw (f G : Nat → Int32) (o : Nat) : Prop := ∀ j, j < 60 → f j = G (o + j)
theorem px_vw.hole {f G : Nat → Int32} {o : Nat} (h : px_vw f G o) {j : Nat} (hj : j < 60) : px_hole f j = px_hole G (o + j) := by
  unfold px_hole
  rw [h j hj]
theorem px_vw.on {f G : Nat → Int32} {o : Nat} (h : px_vw f G o) {j : Nat} (hj : j < 60) : px_on f j = px_on G (o + j) := by
  unfold px_on
  rw [h j hj]
theorem px_vw.upd {f G : Nat → Int32} {o : Nat} (h : px_vw f G o) (i : Nat) (x : Int32) : px_vw (upd f i x) (upd G (o + i) x) o := by
  intro j hj
  show (if j = i then x else f j) = (if o + j = o + i then x else G (o + j))
  by_cases e : j = i
  · rw [if_pos e, if_pos (by omega)]
  · rw [if_neg e, if_neg (by omega)]
    exact h j hj
theorem px_vw.fill {f G : Nat → Int32} {o : Nat} (h : px_vw f G o) (a n : Nat) (x : Int32) : px_vw (px_fill f a n x) (px_fill G (o + a) n x) o := by
  intro j hj
  unfold px_fill
  by_cases e : a ≤ j ∧ j < a + n
  · rw [if_pos e, if_pos (by omega)]
  · rw [if_neg e, if_neg (by omega)]
    exact h j hj
theorem px_fx_sh {pl wr P W : Nat → Int32} {o : Nat} (hp : px_vw pl P o) (hw : px_vw wr W o) : ∀ (k b c : Nat) (pp pw : Int32), b + k ≤ 60 → px_fx pl wr k b c pp pw = px_fx P W k (o + b) c pp pw
  | 0, _, _, _, _, _ => rfl
  | k + 1, b, c, pp, pw, h => by
    unfold px_fx
    rw [hp.hole (by omega), hp b (by omega), hw b (by omega)]
    have ih := fun c pp pw => px_fx_sh hp hw k (b + 1) c pp pw (by omega)
    rw [ih, ih, ih]
    rfl
theorem px_ex_sh {pl wr P W : Nat → Int32} {o : Nat} (hp : px_vw pl P o) (hw : px_vw wr W o) : px_ex pl wr 60 0 0 = px_ex P W 60 o 0 := by
  rw [px_fx_ex, px_fx_ex, px_fx_sh hp hw 60 0 0 _ _ (Nat.le_refl _)]
  exact px_fx_0 (Or.inl rfl) (Or.inl rfl)
theorem px_go_sh {pl wr P W : Nat → Int32} {o b : Nat} (hp : px_vw pl P o) (hw : px_vw wr W o) (h0 : 0 < b) (h : b < 60) : px_go pl wr b = px_go P W (o + b) := by
  unfold px_go
  rw [hp b h, hw b h, hp (b - 1) (by omega), hw (b - 1) (by omega), show o + (b - 1) = o + b - 1 by omega]
theorem px_rl_sh {pl wr P W : Nat → Int32} {o : Nat} (hp : px_vw pl P o) (hw : px_vw wr W o) : ∀ (k b c : Nat), 0 < b → b + k ≤ 60 → px_rl pl wr k b c = px_rl P W k (o + b) c
  | 0, _, _, _, _ => rfl
  | k + 1, b, c, h0, h => by
    unfold px_rl
    rw [px_go_sh hp hw h0 (by omega), px_rl_sh hp hw k (b + 1) (c + 1) (by omega) (by omega)]
    rfl
theorem px_nth_sh {pl wr P W : Nat → Int32} {o : Nat} (hp : px_vw pl P o) (hw : px_vw wr W o) : ∀ (k b c i : Nat), (0 < b ∨ c = 0) → b + k ≤ 60 → (px_nth pl wr k b c i).map (fun j => o + j) = px_nth P W k (o + b) c i
  | 0, _, _, _, _, _ => rfl
  | k + 1, b, c, i, h0, h => by
    unfold px_nth
    have hg : (0 < c ∧ c < 8 ∧ px_go pl wr b = true) = (0 < c ∧ c < 8 ∧ px_go P W (o + b) = true) := by
      rcases h0 with h1 | h1
      · rw [px_go_sh hp hw h1 (by omega)]
      · subst h1
        simp
    have ih := fun c i => px_nth_sh hp hw k (b + 1) c i (Or.inl (by omega)) (by omega)
    rw [px_vw.hole hp (show b < 60 by omega)]
    simp only [hg]
    split
    · exact ih _ _
    · split
      · exact ih _ _
      · split
        · rfl
        · exact ih _ _
theorem px_mr_sh {o : Nat} : ∀ (k b : Nat) (c : Int32) (pl G ow : Nat → Int32), px_vw pl G o → px_vw (px_mr o k b c pl ow).1 (px_mr 0 k (o + b) c G ow).1 o ∧ (px_mr o k b c pl ow).2 = (px_mr 0 k (o + b) c G ow).2
  | 0, _, _, _, _, _, h => ⟨h, rfl⟩
  | k + 1, b, c, pl, G, ow, h => by
    rw [px_mr, px_mr]
    generalize (if px_un ow c = true then c else px_best ow (k + 1)) = p
    by_cases hu : px_un ow p = true
    · rw [if_pos hu, if_pos hu, Nat.zero_add]
      exact px_mr_sh k (b + 1) _ _ _ _ (h.upd b _)
    · rw [if_neg hu, if_neg hu]
      exact px_mr_sh k (b + 1) _ _ _ _ h
theorem px_er_sh {P Q : Nat → Bool} {o : Nat} : ∀ (k b : Nat), (∀ j, b ≤ j → j < b + k → P j = Q (o + j)) → o + px_er P k b = px_er Q k (o + b)
  | 0, _, _ => rfl
  | k + 1, b, h => by
    unfold px_er
    rw [h b (by omega) (by omega)]
    split
    · exact px_er_sh k (b + 1) (fun j h1 h2 => h j (by omega) (by omega))
    · rfl
theorem px_mh_sh {o : Nat} {sel sel' : Nat → Bool} (hs : ∀ j, j < 60 → sel j = sel' (o + j)) : ∀ (k b e : Nat) (pl G ow : Nat → Int32), e ≤ 60 → px_vw pl G o → px_vw (px_mh o 0 sel k b e pl ow).1 (px_mh 0 o sel' k (o + b) (o + e) G ow).1 o ∧ (px_mh o 0 sel k b e pl ow).2 = (px_mh 0 o sel' k (o + b) (o + e) G ow).2
  | 0, _, _, _, _, _, _, h => ⟨h, rfl⟩
  | k + 1, b, e, pl, G, ow, he, h => by
    rw [px_mh, px_mh]
    by_cases hb : b < e
    · rw [if_pos hb, if_pos (by omega)]
      have hE : o + px_er (fun j => px_hole pl j && sel j) (e - b) b = px_er (fun j => px_hole G j && sel' j) (o + e - (o + b)) (o + b) := by
        rw [show o + e - (o + b) = e - b by omega]
        exact px_er_sh (e - b) b (fun j h1 h2 => by rw [h.hole (by omega), hs j (by omega)])
      have hC : px_cand (b == 0) pl b = px_cand (o + b == o) G (o + b) := by
        unfold px_cand
        by_cases h0 : b = 0
        · subst h0
          simp
        · have e1 : (b == 0) = false := by simp [h0]
          have e2 : (o + b == o) = false := by simp; omega
          rw [e1, e2, h.hole (by omega), h (b - 1) (by omega), show o + (b - 1) = o + b - 1 by omega]
      rw [← hE, ← hC]
      generalize px_er (fun j => px_hole pl j && sel j) (e - b) b = r
      rw [show o + r - (o + b) = r - b by omega]
      obtain ⟨a1, a2⟩ := px_mr_sh (r - b) b (px_cand (b == 0) pl b) pl G ow h
      rw [a2]
      exact px_mh_sh hs k (r + 1) e _ _ _ he a1
    · rw [if_neg hb, if_neg (by omega)]
      exact ⟨h, rfl⟩
/-! giving places back -/
def px_rel (sel : Nat → Bool) (pl : Nat → Int32) : Nat → Nat → (Nat → Int32) → (Nat → Int32)
  | 0, _, ow => ow
  | k + 1, b, ow => px_rel sel pl k (b + 1) (if sel b && !px_hole pl b then upd ow (pl b).toNatClampNeg (-1) else ow)
theorem px_rel_sh {sel sel' : Nat → Bool} {pl G : Nat → Int32} {o : Nat} (hs : ∀ j, j < 60 → sel j = sel' (o + j)) (h : px_vw pl G o) : ∀ (k b : Nat) (ow : Nat → Int32), b + k ≤ 60 → px_rel sel pl k b ow = px_rel sel' G k (o + b) ow
  | 0, _, _, _ => rfl
  | k + 1, b, ow, hb => by
    rw [px_rel, px_rel, hs b (by omega), h.hole (by omega), h b (by omega)]
    exact px_rel_sh hs h k (b + 1) _ (by omega)
/-- those of the n blocks from a on that sel names are made holes -/
def px_cut (sel : Nat → Bool) (f : Nat → Int32) (a n : Nat) (v : Int32) : Nat → Int32 := fun j => if a ≤ j ∧ j < a + n ∧ sel j = true then v else f j
theorem px_cut_s {sel : Nat → Bool} {f : Nat → Int32} {a n : Nat} {v : Int32} : px_cut sel f a (n + 1) v = if sel (a + n) then upd (px_cut sel f a n v) (a + n) v else px_cut sel f a n v := by
  funext j
  by_cases h : sel (a + n) = true
  · rw [if_pos h]
    unfold upd px_cut
    by_cases e : j = a + n
    · rw [if_pos e, if_pos ⟨by omega, by omega, by rw [e]; exact h⟩]
    · rw [if_neg e]
      by_cases h2 : a ≤ j ∧ j < a + n ∧ sel j = true
      · rw [if_pos h2, if_pos ⟨h2.1, by omega, h2.2.2⟩]
      · rw [if_neg h2, if_neg (fun z => h2 ⟨z.1, by omega, z.2.2⟩)]
  · rw [if_neg h]
    unfold px_cut
    by_cases h2 : a ≤ j ∧ j < a + n ∧ sel j = true
    · rw [if_pos h2, if_pos ⟨h2.1, by omega, h2.2.2⟩]
    · rw [if_neg h2, if_neg]
      rintro ⟨z1, z2, z3⟩
      by_cases e : j = a + n
      · rw [e] at z3; exact h z3
      · exact h2 ⟨z1, by omega, z3⟩
theorem px_cut_0 (sel : Nat → Bool) (f : Nat → Int32) (a : Nat) (v : Int32) : px_cut sel f a 0 v = f := by
  funext j
  unfold px_cut
  rw [if_neg (by omega)]
theorem px_cut_all (f : Nat → Int32) (a n : Nat) (v : Int32) : px_cut (fun _ => true) f a n v = px_fill f a n v := by
  funext j
  unfold px_cut px_fill
  simp
theorem px_rel_cg {sel : Nat → Bool} {pl pl' : Nat → Int32} : ∀ {k b : Nat} {ow : Nat → Int32}, (∀ j, b ≤ j → j < b + k → pl' j = pl j) → px_rel sel pl k b ow = px_rel sel pl' k b ow
  | 0, _, _, _ => rfl
  | k + 1, b, ow, h => by
    have e : pl' b = pl b := h b (by omega) (by omega)
    have e2 : px_hole pl' b = px_hole pl b := by unfold px_hole; rw [e]
    rw [px_rel, px_rel, e2, e]
    exact px_rel_cg (fun j h1 h2 => h j (by omega) (by omega))
/-- the invariant behind giving back -/
theorem px_rel_spec (sel : Nat → Bool) : ∀ (k b : Nat) (pl ow : Nat → Int32), px_I1 pl ow → b + k ≤ 240 → px_I1 (px_cut sel pl b k (-1)) (px_rel sel pl k b ow) ∧ px_nu (px_rel sel pl k b ow) + px_mp (px_cut sel pl b k (-1)) = px_nu ow + px_mp pl
  | 0, b, pl, ow, h, _ => by
    rw [px_cut_0]
    exact ⟨h, rfl⟩
  | k + 1, b, pl, ow, h, hb => by
    have hs : px_cut sel pl b (k + 1) (-1) = px_cut sel (if sel b then upd pl b (-1) else pl) (b + 1) k (-1) := by
      funext j
      unfold px_cut
      by_cases e : j = b
      · subst e
        by_cases hs : sel j = true
        · rw [if_pos ⟨by omega, by omega, hs⟩, if_neg (by omega), if_pos hs]
          simp [upd]
        · rw [if_neg (fun z => hs z.2.2), if_neg (by omega), if_neg hs]
      · have e2 : (if sel b = true then upd pl b (-1) else pl) j = pl j := by
          split
          · simp [upd, e]
          · rfl
        rw [e2]
        by_cases h2 : b ≤ j ∧ j < b + (k + 1) ∧ sel j = true
        · rw [if_pos h2, if_pos ⟨by omega, by omega, h2.2.2⟩]
        · rw [if_neg h2, if_neg (fun z => h2 ⟨by omega, by omega, z.2.2⟩)]
    rw [px_rel, hs]
    by_cases hsel : sel b = true
    · rw [if_pos hsel, hsel, Bool.true_and]
      by_cases hh : px_hole pl b = true
      · have e1 : upd pl b (-1) = pl := by
          funext j
          unfold upd
          split
          · rename_i e
            have h9 := hh
            simp only [px_hole, beq_iff_eq] at h9
            rw [e, h9]
          · rfl
        rw [hh, e1]
        exact px_rel_spec sel k (b + 1) pl ow h (by omega)
      · rcases h.1 b (by omega) with h1 | ⟨p, h1, h2, h3⟩
        · exact absurd (by simp [px_hole, h1]) hh
        · have hh' : px_hole pl b = false := by simpa using hh
          rw [hh', h2, nI_clamp (show p < 2 ^ 31 by omega)]
          have hrel : px_rel sel pl k (b + 1) (upd ow p (-1)) = px_rel sel (upd pl b (-1)) k (b + 1) (upd ow p (-1)) := px_rel_cg (fun j h4 h5 => by simp [upd]; omega)
          have hg := h.give (by omega) h1 h2
          obtain ⟨a1, a2⟩ := px_rel_spec sel k (b + 1) (upd pl b (-1)) (upd ow p (-1)) hg (by omega)
          have hm := px_mp_give (pl := pl) (show b < 240 by omega) (by rw [h2]; exact px_m1 (by omega))
          have hnu := px_nu_give (ow := ow) h1 (by rw [h3]; exact px_m1 (by omega))
          simp only [Bool.not_false, if_true]
          rw [hrel]
          exact ⟨a1, by omega⟩
    · rw [if_neg hsel]
      have : (sel b && !px_hole pl b) = false := by simp [hsel]
      rw [this]
      exact px_rel_spec sel k (b + 1) pl ow h (by omega)
end
section
theorem px_b_t : px_b true = nI 1 := rfl
theorem px_b_f : px_b false = nI 0 := rfl
theorem px_ix3 {x : Int32} {n : Nat} (hn : n < 2 ^ 31) (h1 : ¬ x < 0) (h2 : ¬ nI n ≤ x) : ∃ j, j < n ∧ x = nI j := by
  rcases pk_ix x hn with h | h | h
  · exact absurd h h1
  · exact absurd h h2
  · exact h
theorem px_c0t {P : Nat → Bool} {b c : Nat} (h : c = px_cnt P 0 b) (hp : P b = true) : c + 1 = px_cnt P 0 (b + 1) := by
  rw [px_cnt, Nat.zero_add, hp, h]
  rfl
theorem px_c0f {P : Nat → Bool} {b c : Nat} (h : c = px_cnt P 0 b) (hp : P b = false) : c = px_cnt P 0 (b + 1) := by
  rw [px_cnt, Nat.zero_add, hp, h]
  rfl
theorem px_cat {P : Nat → Bool} {a b c : Nat} (hab : a ≤ b) (h : c = px_cnt P a (b - a)) (hp : P b = true) : c + 1 = px_cnt P a (b + 1 - a) := by
  rw [show b + 1 - a = (b - a) + 1 by omega, px_cnt, show a + (b - a) = b by omega, hp, h]
  rfl
theorem px_caf {P : Nat → Bool} {a b c : Nat} (hab : a ≤ b) (h : c = px_cnt P a (b - a)) (hp : P b = false) : c = px_cnt P a (b + 1 - a) := by
  rw [show b + 1 - a = (b - a) + 1 by omega, px_cnt, show a + (b - a) = b by omega, hp, h]
  rfl
theorem px_un_neg {ow : Nat → Int32} {x : Int32} (h : x < 0) : px_un ow x = false := by
  unfold px_un
  have : ¬ 0 ≤ x := Int32.not_le.mpr h
  simp [this]
theorem px_un_big {ow : Nat → Int32} {x : Int32} (h : nI 80 ≤ x) : px_un ow x = false := by
  unfold px_un
  have : ¬ x < 80 := Int32.not_lt.mpr h
  simp [this]
theorem px_un_in {ow : Nat → Int32} {j : Nat} (h : j < 80) : px_un ow (nI j) = (ow j == -1) := by
  rw [px_un_nI ow (by omega)]
  simp [h]
theorem px_room_s {ow : Nat → Int32} {k p : Nat} : px_room ow k p = if 0 < k ∧ ow p = -1 then 1 + px_room ow (k - 1) (p + 1) else 0 := by
  cases k with
  | zero => rfl
  | succ k =>
    rw [px_room]
    by_cases h : ow p = -1
    · rw [if_pos h, if_pos ⟨by omega, h⟩]; rfl
    · rw [if_neg h, if_neg (fun z => h z.2)]
theorem px_max {a b : Nat} (ha : a < 2 ^ 31) (hb : b < 2 ^ 31) : (if nI a < nI b then nI b else nI a) = nI (max a b) := by
  by_cases h : a < b
  · rw [if_pos ((nI_ltI ha hb).mpr h), Nat.max_eq_right (by omega)]
  · rw [if_neg (fun z => h ((nI_ltI ha hb).mp z)), Nat.max_eq_left (by omega)]
theorem px_min {a b : Nat} (ha : a < 2 ^ 31) (hb : b < 2 ^ 31) : (if nI b < nI a then nI b else nI a) = nI (min a b) := by
  by_cases h : b < a
  · rw [if_pos ((nI_ltI hb ha).mpr h), Nat.min_eq_right (by omega)]
  · rw [if_neg (fun z => h ((nI_ltI hb ha).mp z)), Nat.min_eq_left (by omega)]
/-- the jump over a row of places and the place behind it -/
theorem px_bf_row {ow : Nat → Int32} {n : Nat} (hn : 0 < n) {p : Nat} {b : Int32} {s : Nat} (hp : p < 80) (h0 : p = 0 ∨ ow (p - 1) ≠ -1) :
    px_bf ow n (80 - p) p b s = px_bf ow n (80 - (p + px_room ow (80 - p) p + 1)) (p + px_room ow (80 - p) p + 1) (if px_bet n s (px_room ow (80 - p) p) = true then nI p else b) (if px_bet n s (px_room ow (80 - p) p) = true then px_room ow (80 - p) p else s) := by
  obtain ⟨k, hk⟩ : ∃ k, 80 - p = k + 1 := ⟨79 - p, by omega⟩
  rw [hk]
  generalize hr : px_room ow (k + 1) p = r
  have hle : r ≤ k + 1 := by rw [← hr]; exact px_room_le ow (k + 1) p
  have e1 : px_bf ow n (k + 1) p b s = px_bf ow n k (p + 1) (if px_bet n s r = true then nI p else b) (if px_bet n s r = true then r else s) := by
    rw [px_bf, hr]
    by_cases hb : px_bet n s r = true
    · have hr0 : 0 < r := by
        unfold px_bet at hb
        split at hb
        · have := of_decide_eq_true hb; omega
        · simp only [Bool.and_eq_true, decide_eq_true_eq] at hb; omega
      rw [if_pos ⟨hr0, h0, hb⟩, if_pos hb, if_pos hb]
    · rw [if_neg (fun z => hb z.2.2), if_neg hb, if_neg hb]
  rw [e1]
  generalize (if px_bet n s r = true then nI p else b) = b'
  generalize (if px_bet n s r = true then r else s) = s'
  by_cases hr0 : r = 0
  · subst hr0
    congr 1; omega
  · have hw : ow p = -1 := by
      have := px_room_in (ow := ow) (k := k + 1) (p := p) (i := 0) (by omega)
      simpa using this
    have hr2 : px_room ow k (p + 1) = r - 1 := by
      rw [px_room, if_pos hw] at hr
      omega
    rw [px_bf_skip (r - 1) k (p + 1) b' s' (by omega) (by omega) (by omega) (by simpa using hw)]
    by_cases hk2 : r = k + 1
    · have z1 : k - (r - 1) = 0 := by omega
      have z2 : 80 - (p + r + 1) = 0 := by omega
      rw [z1, z2]
      rfl
    · obtain ⟨j, hj⟩ : ∃ j, k - (r - 1) = j + 1 := ⟨k - r, by omega⟩
      rw [hj]
      have hend : ow (p + r) ≠ -1 := by
        have := px_room_end (ow := ow) (k := k + 1) (p := p) (by omega)
        rw [hr] at this
        exact this
      have hz : px_room ow (j + 1) (p + 1 + (r - 1)) = 0 := by
        rw [px_room, if_neg (by rw [show p + 1 + (r - 1) = p + r by omega]; exact hend)]
      rw [px_bf, hz, if_neg (by omega)]
      congr 1 <;> omega
end
section
theorem px_fill_s0 (f : Nat → Int32) (n : Nat) (v : Int32) : upd (px_fill f 0 n v) n v = px_fill f 0 (n + 1) v := by
  have h := px_fill_s f 0 n v
  rw [Nat.zero_add] at h
  exact h
def px_read (pl wr pg pv vl : Nat → Int32) (b : Nat) : Int32 := if pg b = 0 then (if px_hole pl b = true ∨ wr b = 0 then 0 else vl (pl b).toNatClampNeg) else pv b
def px_hh (pl pg : Nat → Int32) (o : Nat) : Nat := px_cnt (fun b => px_on pg b && px_hole pl b) o 60
def px_uu (pl wr pg : Nat → Int32) (o : Nat) : Nat := px_cnt (fun b => px_on pg b && (!px_hole pl b && wr b == 0)) o 60
def px_ee (pl wr : Nat → Int32) (o : Nat) : Nat := px_ex pl wr 60 o 0
def px_mm (pl : Nat → Int32) (o : Nat) : Nat := px_cnt (fun b => !px_hole pl b) o 60
def px_pp (pg : Nat → Int32) (o : Nat) : Nat := px_cnt (px_on pg) o 60
def px_res (pl wr pg : Nat → Int32) (o : Nat) : Nat := px_hh pl pg o + px_tree (px_ee pl wr o + px_hh pl pg o + 2 * px_uu pl wr pg o) - px_tree (px_ee pl wr o)
theorem px_cnt_not (P : Nat → Bool) (a n : Nat) : px_cnt (fun b => !P b) a n + px_cnt P a n = n := by
  induction n with
  | zero => rfl
  | succ n ih =>
    rw [px_cnt, px_cnt]
    cases P (a + n) <;> simp <;> omega
theorem px_mm_eq (pl : Nat → Int32) (o : Nat) : 60 - px_cnt (px_hole pl) o 60 = px_mm pl o := by
  have := px_cnt_not (px_hole pl) o 60
  unfold px_mm
  omega
def px_len (pl wr : Nat → Int32) (b : Nat) : Nat := if px_hole pl b then 0 else 1 + px_rl pl wr (59 - b) (b + 1) 1
theorem px_len_le {pl wr : Nat → Int32} {b : Nat} (hb : b < 60) : px_len pl wr b ≤ 60 - b := by
  unfold px_len
  have := px_rl_le pl wr (59 - b) (b + 1) 1
  split <;> omega
theorem px_rl_s {pl wr : Nat → Int32} {k b c : Nat} : px_rl pl wr k b c = if 0 < k ∧ c < 8 ∧ px_go pl wr b = true then 1 + px_rl pl wr (k - 1) (b + 1) (c + 1) else 0 := by
  cases k with
  | zero => rfl
  | succ k =>
    rw [px_rl]
    by_cases h : c < 8 ∧ px_go pl wr b = true
    · rw [if_pos h, if_pos ⟨by omega, h⟩]; rfl
    · rw [if_neg h, if_neg (fun z => h z.2)]
theorem px_go_iff {pl wr : Nat → Int32} {b : Nat} : px_go pl wr b = true ↔ pl b = pl (b - 1) + nI 1 ∧ wr b = wr (b - 1) := by
  unfold px_go
  simp only [Bool.and_eq_true, beq_iff_eq]
  exact Iff.rfl
theorem px_go_f1 {pl wr : Nat → Int32} {b : Nat} (h : ¬ pl b = pl (b - 1) + nI 1) : px_go pl wr b = false := by
  cases hg : px_go pl wr b with
  | false => rfl
  | true => exact absurd (px_go_iff.mp hg).1 h
theorem px_go_f2 {pl wr : Nat → Int32} {b : Nat} (h : ¬ wr b = wr (b - 1)) : px_go pl wr b = false := by
  cases hg : px_go pl wr b with
  | false => rfl
  | true => exact absurd (px_go_iff.mp hg).2 h
theorem px_ex_len {pl wr : Nat → Int32} (hr : px_rng pl 0 60) {b : Nat} (hb : b < 60) : px_ex pl wr (60 - b) b 0 = (if 0 < px_len pl wr b then 1 else 0) + px_ex pl wr (60 - (b + max (px_len pl wr b) 1)) (b + max (px_len pl wr b) 1) 0 := by
  obtain ⟨k, hk⟩ : ∃ k, 60 - b = k + 1 := ⟨59 - b, by omega⟩
  rw [hk, px_ex]
  by_cases hh : px_hole pl b = true
  · have hl : px_len pl wr b = 0 := by unfold px_len; rw [if_pos hh]
    rw [if_pos hh, hl, show 60 - (b + max 0 1) = k by omega, show b + max 0 1 = b + 1 by omega]
    simp
  · have hh2 : px_hole pl b = false := by simpa using hh
    have hl : px_len pl wr b = 1 + px_rl pl wr k (b + 1) 1 := by unfold px_len; rw [if_neg hh, show 59 - b = k by omega]
    rw [if_neg hh, if_neg (fun z => absurd z.1 (Nat.lt_irrefl 0)), hl, px_ex_jump hr k (b + 1) 1 (by omega) (by omega) (by omega) (by simpa using hh2)]
    have h1 := px_rl_le pl wr k (b + 1) 1
    generalize px_rl pl wr k (b + 1) 1 = r at h1
    rw [if_pos (c := 0 < 1 + r) (by omega), show max (1 + r) 1 = 1 + r by omega, show 60 - (b + (1 + r)) = k - r by omega, show b + (1 + r) = b + 1 + r by omega]
theorem px_nth_len {pl wr : Nat → Int32} (hr : px_rng pl 0 60) {b : Nat} (hb : b < 60) (i : Nat) : px_nth pl wr (60 - b) b 0 i = if 0 < px_len pl wr b then (if i = 0 then some b else px_nth pl wr (60 - (b + max (px_len pl wr b) 1)) (b + max (px_len pl wr b) 1) 0 (i - 1)) else px_nth pl wr (60 - (b + max (px_len pl wr b) 1)) (b + max (px_len pl wr b) 1) 0 i := by
  obtain ⟨k, hk⟩ : ∃ k, 60 - b = k + 1 := ⟨59 - b, by omega⟩
  rw [hk, px_nth]
  by_cases hh : px_hole pl b = true
  · have hl : px_len pl wr b = 0 := by unfold px_len; rw [if_pos hh]
    rw [if_pos hh, hl, show 60 - (b + max 0 1) = k by omega, show b + max 0 1 = b + 1 by omega]
    simp
  · have hh2 : px_hole pl b = false := by simpa using hh
    have hl : px_len pl wr b = 1 + px_rl pl wr k (b + 1) 1 := by unfold px_len; rw [if_neg hh, show 59 - b = k by omega]
    rw [if_neg hh, if_neg (fun z => absurd z.1 (Nat.lt_irrefl 0)), hl, px_nth_jump hr (i - 1) k (b + 1) 1 (by omega) (by omega) (by omega) (by simpa using hh2)]
    have h1 := px_rl_le pl wr k (b + 1) 1
    generalize px_rl pl wr k (b + 1) 1 = r at h1
    rw [if_pos (c := 0 < 1 + r) (by omega), show max (1 + r) 1 = 1 + r by omega, show 60 - (b + (1 + r)) = k - r by omega, show b + (1 + r) = b + 1 + r by omega]
def px_on1 (o : Option Nat) : Int32 := match o with
  | some b => nI b
  | none => -1
section WWN
variable {X : ww_X} {cc : ByteArray} {own : String} {cs ss pc : Nat} {L L' : List (Nat × Value)} {st : List Value} {ws : va_W}
theorem ww_callSN (O : ww_ok X cc own) {index na n : Nat} {y : MethodName} {b : ByteArray} {ret : Option FieldType} {rm : Room} {As : List Value} {w0 w1 ws' : va_W} {r : Option Value} {host : String} (hM : ww_ct (ww_l X) (ww_D X) (ww_g X) y b n ret rm As w0 r w1) (hs : Cond.code y b n ret ∈ lw_good ∧ Cond.methodLinkNest own index y host ∈ cx_nw ∧ Cond.initialized y.cls ∈ lw_good ∧ (y.cls ≠ "java/lang/invoke/MethodHandle" ∧ y.cls ≠ "java/lang/invoke/VarHandle" ∧ (parseMethodDescriptor y.desc).map (fun d => d.parameters.length) = some na)) (hst : Cond.static y ∈ lw_good)
    (hRm : rm.frames + 1 ≤ (ww_R X).frames ∧ 8 + (n + 11) + rm.locals ≤ (ww_R X).locals) (hcs : cs + rm.cells ≤ (ww_R X).cells) (hss : ss + rm.slots ≤ (ww_R X).slots) (hna : As.length = na) (hst8 : (st.map fun v => v.category).sum ≤ 8) (d : decode cc pc = .ok (.invokestatic index, 3)) {st0 : List Value} (hstk : st0 = As.reverse ++ st)
    (isC isR pm : List Nat) (hC : isC.map (fun i => ws[i]?) = w0.map some) (hcn : va_nd isC = true) (hR : isR.map (fun i => ws[i]?) = (isR.filterMap (fun i => ws[i]?)).map some) (hn : va_nd isR = true) (hdis : ∀ i ∈ isR, i ∉ isC)
    (hp1 : pm.filterMap (fun i => (isR.filterMap (fun i => ws[i]?) ++ w1)[i]?) = ws') (hp2 : pm.map (fun i => (isR.filterMap (fun i => ws[i]?) ++ w1)[i]?) = ws'.map some) (hpn : va_nd pm = true)
    (k : ww_at X (cs + rm.cells) (ss + rm.slots) (pc + 3) L (r.toList ++ st) ws') : ww_at X cs ss pc L st0 ws := by
  intro H ls locs hl hP hD hS
  subst hstk
  have hwc : va_P (ww_D X) cx_cl w0 H := hP.sub isC (ww_fm hC)
  refine ww_back O (w0 := w0) (w1 := w1) ?_ hl hP hD hS hM.1 isC isR pm hC hcn hR hn hdis hp1 hp2 hpn k
  exact va_runSN (As := As) (rest := st) ⟨O.x, O.b, O.n, O.o, O.t⟩ (hM.2 H.size) ⟨va_cnB na O.t (ww_gi hs.1) rfl rfl rfl (O.2.2.2.2.2.1.2.1 _ hs.2.1) (O.t _ hs.2.2.1) hs.2.2.2 hRm, O.t _ hst, trivial⟩ ⟨ww_blind, fun U hU hW => ⟨rfl, by rw [hU], by rw [hU]; exact hwc, O.go hS hU hW, (hD.sub isC hcn hC).weaken (fun _ _ _ _ => trivial)⟩⟩ rfl hna hl.1 rfl (lv_room hst8) d ⟨hcs, hss⟩
end WWN
end
section
theorem px_er_s {P : Nat → Bool} {k b : Nat} : px_er P k b = if 0 < k ∧ P b = true then px_er P (k - 1) (b + 1) else b := by
  cases k with
  | zero => rfl
  | succ k =>
    rw [px_er]
    by_cases h : P b = true
    · rw [if_pos h, if_pos ⟨by omega, h⟩]; rfl
    · rw [if_neg h, if_neg (fun z => h z.2)]
theorem px_cand_0 (pl : Nat → Int32) : px_cand (0 == 0) pl 0 = -1 := rfl
theorem px_cand_p {a : Nat} (h : 0 < a) (pl : Nat → Int32) : px_cand (a == 0) pl a = px_cand false pl a := by
  rw [show (a == 0) = false by simp; omega]
theorem px_mr_s {o e b : Nat} {c : Int32} {pl ow : Nat → Int32} (h : b < e) {P : Int32} (hP : (if px_un ow c = true then c else px_best ow (e - b)) = P) : px_mr o (e - b) b c pl ow = px_mr o (e - (b + 1)) (b + 1) (P + 1) (if px_un ow P = true then upd pl b P else pl) (if px_un ow P = true then upd ow P.toNatClampNeg (nI (o + b)) else ow) := by
  obtain ⟨k, hk⟩ : ∃ k, e - b = k + 1 := ⟨e - b - 1, by omega⟩
  rw [hk] at hP ⊢
  rw [px_mr, hP, show e - (b + 1) = k by omega]
  by_cases hu : px_un ow P = true
  · rw [if_pos hu, if_pos hu, if_pos hu]
  · rw [if_neg hu, if_neg hu, if_neg hu]
theorem px_mh_e {o lo : Nat} {sel : Nat → Bool} {k b e : Nat} {pl ow : Nat → Int32} (h : e ≤ b) : px_mh o lo sel k b e pl ow = (pl, ow) := by
  cases k with
  | zero => rfl
  | succ k => rw [px_mh, if_neg (by omega)]
theorem px_fill_o {f : Nat → Int32} {a n j : Nat} {v : Int32} (h : ¬ (a ≤ j ∧ j < a + n)) : px_fill f a n v j = f j := by
  unfold px_fill
  rw [if_neg h]
theorem px_fill_sa {f : Nat → Int32} {a b : Nat} {v : Int32} (h : a ≤ b) : upd (px_fill f a (b - a) v) b v = px_fill f a (b + 1 - a) v := by
  have h1 := px_fill_s f a (b - a) v
  rw [show a + (b - a) = b by omega, show b - a + 1 = b + 1 - a by omega] at h1
  exact h1
theorem px_fill_same {f : Nat → Int32} {a b : Nat} {v : Int32} (h : a ≤ b) (hv : f b = v) : px_fill f a (b - a) v = px_fill f a (b + 1 - a) v := by
  rw [← px_fill_sa h]
  funext j
  unfold upd
  split
  · rename_i e
    rw [e, px_fill_o (by omega), hv]
  · rfl
theorem px_hole_fl {f : Nat → Int32} {a n j : Nat} {v : Int32} (h : ¬ (a ≤ j ∧ j < a + n)) : px_hole (px_fill f a n v) j = px_hole f j := by
  unfold px_hole
  rw [px_fill_o h]
theorem px_cut_o {sel : Nat → Bool} {f : Nat → Int32} {a n j : Nat} {v : Int32} (h : ¬ (a ≤ j ∧ j < a + n)) : px_cut sel f a n v j = f j := by
  unfold px_cut
  rw [if_neg (fun z => h ⟨z.1, z.2.1⟩)]
theorem px_hole_ct {sel : Nat → Bool} {f : Nat → Int32} {a n j : Nat} {v : Int32} (h : ¬ (a ≤ j ∧ j < a + n)) : px_hole (px_cut sel f a n v) j = px_hole f j := by
  unfold px_hole
  rw [px_cut_o h]
theorem px_cut_t {sel : Nat → Bool} {f : Nat → Int32} {a b : Nat} {v : Int32} (h : a ≤ b) (hs : sel b = true) : upd (px_cut sel f a (b - a) v) b v = px_cut sel f a (b + 1 - a) v := by
  rw [show b + 1 - a = b - a + 1 by omega, px_cut_s, show a + (b - a) = b by omega, if_pos hs]
theorem px_cut_f {sel : Nat → Bool} {f : Nat → Int32} {a b : Nat} {v : Int32} (h : a ≤ b) (hs : sel b = false) : px_cut sel f a (b - a) v = px_cut sel f a (b + 1 - a) v := by
  rw [show b + 1 - a = b - a + 1 by omega, px_cut_s, show a + (b - a) = b by omega, if_neg (by rw [hs]; decide)]
theorem px_cut_same {sel : Nat → Bool} {f : Nat → Int32} {a b : Nat} {v : Int32} (h : a ≤ b) (hv : f b = v) : px_cut sel f a (b - a) v = px_cut sel f a (b + 1 - a) v := by
  rw [show b + 1 - a = b - a + 1 by omega, px_cut_s, show a + (b - a) = b by omega]
  by_cases hs : sel b = true
  · rw [if_pos hs]
    funext j
    unfold upd
    split
    · rename_i e
      rw [e, px_cut_o (by omega), hv]
    · rfl
  · rw [if_neg hs]
theorem px_rel_s {sel : Nat → Bool} {pl ow : Nat → Int32} {e b : Nat} (h : b < e) : px_rel sel pl (e - b) b ow = px_rel sel pl (e - (b + 1)) (b + 1) (if (sel b && !px_hole pl b) = true then upd ow (pl b).toNatClampNeg (-1) else ow) := by
  obtain ⟨k, hk⟩ : ∃ k, e - b = k + 1 := ⟨e - b - 1, by omega⟩
  rw [hk, px_rel, show e - (b + 1) = k by omega]
def px_wv (pl pg pv : Nat → Int32) : Nat → Nat → (Nat → Int32) → (Nat → Int32)
  | 0, _, vl => vl
  | k + 1, b, vl => px_wv pl pg pv k (b + 1) (if (px_on pg b && !px_hole pl b) = true then upd vl (pl b).toNatClampNeg (pv b) else vl)
theorem px_wv_s {pl pg pv vl : Nat → Int32} {e b : Nat} (h : b < e) : px_wv pl pg pv (e - b) b vl = px_wv pl pg pv (e - (b + 1)) (b + 1) (if (px_on pg b && !px_hole pl b) = true then upd vl (pl b).toNatClampNeg (pv b) else vl) := by
  obtain ⟨k, hk⟩ : ∃ k, e - b = k + 1 := ⟨e - b - 1, by omega⟩
  rw [hk, px_wv, show e - (b + 1) = k by omega]
def px_note (pl nt : Nat → Int32) (n : Nat) : Nat → Int32 := fun j => if j < n then px_b (px_hole pl j) else nt j
theorem px_note_0 (pl nt : Nat → Int32) : px_note pl nt 0 = nt := by
  funext j
  unfold px_note
  rw [if_neg (by omega)]
theorem px_note_s (pl nt : Nat → Int32) (n : Nat) : upd (px_note pl nt n) n (px_b (px_hole pl n)) = px_note pl nt (n + 1) := by
  funext j
  unfold upd px_note
  by_cases e : j = n
  · rw [if_pos e, if_pos (by omega), e]
  · rw [if_neg e]
    by_cases h : j < n
    · rw [if_pos h, if_pos (by omega)]
    · rw [if_neg h, if_neg (by omega)]
end
section
/-! words for the reference -/
def px_nf (x : Int32) (k : Nat) : Bool := decide (x < 0) || !decide (x ≤ nI k)
theorem px_nf_t {x : Int32} {k : Nat} (h : x < 0 ∨ ¬ x ≤ nI k) : px_nf x k = true := by
  unfold px_nf
  rcases h with h | h <;> simp [h]
theorem px_nf_f {x : Int32} {k : Nat} (h1 : ¬ x < 0) (h2 : x ≤ nI k) : px_nf x k = false := by
  unfold px_nf
  simp [h1, h2]
def px_rg (x : Int32) : Prop := x = -1 ∨ ∃ p, p < 80 ∧ x = nI p
def px_rq (x : Int32) : Prop := x = -1 ∨ ∃ q, q < 240 ∧ x = nI q
theorem px_rg.lt {pl : Nat → Int32} {b : Nat} (h : px_rg (pl b)) (hn : pl b < 0) : px_hole pl b = true := by
  rcases h with h | ⟨p, hp, h⟩
  · simp [px_hole, h]
  · rw [h] at hn
    exact absurd hn (nI_pos (by omega))
theorem px_rg.ge {pl : Nat → Int32} {b : Nat} (h : px_rg (pl b)) (hn : ¬ pl b < 0) : px_hole pl b = false := by
  rcases h with h | ⟨p, hp, h⟩
  · rw [h] at hn
    exact absurd (by decide) hn
  · have := px_m1 (p := p) (by omega)
    simp [px_hole, h, this]
theorem px_rg.ge0 {pl : Nat → Int32} {b : Nat} (h : px_rg (pl b)) (hn : 0 ≤ pl b) : px_hole pl b = false := h.ge (Int32.not_lt.mpr hn)
theorem px_rg.lt0 {pl : Nat → Int32} {b : Nat} (h : px_rg (pl b)) (hn : ¬ 0 ≤ pl b) : px_hole pl b = true := h.lt (Int32.not_le.mp hn)
theorem px_rq.ge {ow : Nat → Int32} {p : Nat} (h : px_rq (ow p)) (hn : 0 ≤ ow p) : ow p ≠ -1 := by
  intro z
  rw [z] at hn
  exact absurd hn (by decide)
theorem px_rq.lt {ow : Nat → Int32} {p : Nat} (h : px_rq (ow p)) (hn : ¬ 0 ≤ ow p) : ow p = -1 := by
  rcases h with h | ⟨q, hq, h⟩
  · exact h
  · rw [h] at hn
    exact absurd (nI_pos' (by omega)) hn
def px_gon (pl wr : Nat → Int32) (b : Nat) : Bool := decide (0 < b % 60) && (!px_hole pl b && (!px_hole pl (b - 1) && px_go pl wr b))
def px_rx (pl wr : Nat → Int32) (s : Nat) : Nat → Nat → Nat → Nat → Int32 → Nat × Nat × Int32
  | 0, _, n, le, fi => (n, le, fi)
  | k + 1, b, n, le, fi => if px_hole pl b = true then (if 0 < le ∧ n = s + 1 then (n, le, fi) else px_rx pl wr s k (b + 1) n le fi) else if 0 < le ∧ le < 8 ∧ px_gon pl wr b = true then px_rx pl wr s k (b + 1) n (le + 1) fi else if n = s + 1 then (n, le, fi) else px_rx pl wr s k (b + 1) (n + 1) 1 (nI b)
theorem px_rx_s {pl wr : Nat → Int32} {s e b n le : Nat} {fi : Int32} (h : b < e) : px_rx pl wr s (e - b) b n le fi = if px_hole pl b = true then (if 0 < le ∧ n = s + 1 then (n, le, fi) else px_rx pl wr s (e - (b + 1)) (b + 1) n le fi) else if 0 < le ∧ le < 8 ∧ px_gon pl wr b = true then px_rx pl wr s (e - (b + 1)) (b + 1) n (le + 1) fi else if n = s + 1 then (n, le, fi) else px_rx pl wr s (e - (b + 1)) (b + 1) (n + 1) 1 (nI b) := by
  obtain ⟨k, hk⟩ : ∃ k, e - b = k + 1 := ⟨e - b - 1, by omega⟩
  rw [hk, px_rx, show e - (b + 1) = k by omega]
/-- the scan to the end of a file counts its extents -/
theorem px_rx_ee {pl wr : Nat → Int32} {o : Nat} (ho : o % 60 = 0) : ∀ (k b n le : Nat) (fi : Int32), b + k = o + 60 → o ≤ b → n ≤ b - o → ∀ c, (c = le ∨ (c = 0 ∧ px_gon pl wr b = false) ∨ (c = 0 ∧ b = o)) → (c = 0 ∨ (o < b ∧ px_hole pl (b - 1) = false)) → (px_rx pl wr 60 k b n le fi).1 = n + px_ex pl wr k b c
  | 0, _, _, _, _, _, _, _, _, _, _ => rfl
  | k + 1, b, n, le, fi, hk, hb, hn, c, hc, hm => by
    rw [px_rx, px_ex]
    by_cases hh : px_hole pl b = true
    · rw [if_pos hh, if_pos hh, if_neg (by omega)]
      refine px_rx_ee ho k (b + 1) n le fi (by omega) (by omega) (by omega) 0 (Or.inr (Or.inl ⟨rfl, ?_⟩)) (Or.inl rfl)
      unfold px_gon
      simp [hh]
    · rw [if_neg hh, if_neg hh]
      have hh2 : px_hole pl b = false := by simpa using hh
      have key : (0 < le ∧ le < 8 ∧ px_gon pl wr b = true) → c = le := by
        rintro ⟨_, _, z⟩
        rcases hc with h | h | h
        · exact h
        · rw [h.2] at z; cases z
        · unfold px_gon at z
          rw [h.2] at z
          simp [ho] at z
      have hg : 0 < c → c = le → (px_gon pl wr b = px_go pl wr b) := by
        intro h0 h1
        rcases hm with h | h
        · omega
        · unfold px_gon
          have : 0 < b % 60 := by omega
          simp [this, hh2, h.2]
      by_cases h1 : 0 < c ∧ c < 8 ∧ px_go pl wr b = true
      · have hcl : c = le := by
          rcases hc with h | h | h
          · exact h
          · omega
          · omega
        rw [if_pos h1, if_pos ⟨by omega, by omega, by rw [hg h1.1 hcl]; exact h1.2.2⟩]
        exact px_rx_ee ho k (b + 1) n (le + 1) fi (by omega) (by omega) (by omega) (c + 1) (Or.inl (by omega)) (Or.inr ⟨by omega, by simpa using hh2⟩)
      · have h2 : ¬ (0 < le ∧ le < 8 ∧ px_gon pl wr b = true) := fun z => by
          have e1 := key z
          exact h1 ⟨by omega, by omega, by rw [← hg (by omega) e1]; exact z.2.2⟩
        rw [if_neg h1, if_neg h2, if_neg (by omega), px_rx_ee ho k (b + 1) (n + 1) 1 (nI b) (by omega) (by omega) (by omega) 1 (Or.inl rfl) (Or.inr ⟨by omega, by simpa using hh2⟩)]
        omega
theorem px_rx_60 {pl wr : Nat → Int32} {f : Nat} {fi : Int32} : (px_rx pl wr 60 60 (60 * f) 0 0 fi).1 = px_ee pl wr (60 * f) := by
  rw [px_rx_ee (o := 60 * f) (by omega) 60 (60 * f) 0 0 fi rfl (Nat.le_refl _) (by omega) 0 (Or.inl rfl) (Or.inl rfl)]
  exact Nat.zero_add _
theorem px_rx_le {pl wr : Nat → Int32} {s : Nat} : ∀ (k b n le : Nat) (fi : Int32), le ≤ 8 → (px_rx pl wr s k b n le fi).2.1 ≤ 8
  | 0, _, _, _, _, h => h
  | k + 1, b, n, le, fi, h => by
    rw [px_rx]
    split
    · split
      · exact h
      · exact px_rx_le k (b + 1) n le fi h
    · split
      · exact px_rx_le k (b + 1) n (le + 1) fi (by omega)
      · split
        · exact h
        · exact px_rx_le k (b + 1) (n + 1) 1 _ (by omega)
/-- the two fields behind the counts of k files -/
def px_xs (pl wr : Nat → Int32) (le fi : Int32) : Nat → Int32 × Int32
  | 0 => (le, fi)
  | k + 1 => (nI (px_rx pl wr 60 60 (60 * k) 0 0 (px_xs pl wr le fi k).2).2.1, (px_rx pl wr 60 60 (60 * k) 0 0 (px_xs pl wr le fi k).2).2.2)
def px_sum (f : Nat → Nat) : Nat → Nat
  | 0 => 0
  | k + 1 => px_sum f k + f k
theorem px_sum_le {f : Nat → Nat} {m : Nat} (h : ∀ k, f k ≤ m) : ∀ k, px_sum f k ≤ m * k
  | 0 => Nat.le_refl _
  | k + 1 => by
    have := px_sum_le h k
    have := h k
    rw [px_sum, Nat.mul_succ]
    omega
theorem px_tree_le {e : Nat} (h : e ≤ 240) : px_tree e ≤ 60 := by
  unfold px_tree
  split <;> omega
theorem px_res_le (pl wr pg : Nat → Int32) (o : Nat) : px_res pl wr pg o ≤ 200 := by
  have h1 := px_cnt_le (fun b => px_on pg b && px_hole pl b) o 60
  have h2 := px_cnt_le (fun b => px_on pg b && (!px_hole pl b && wr b == 0)) o 60
  have h3 := px_ex_le pl wr 60 o 0
  have h4 : px_hh pl pg o ≤ 60 := h1
  have h5 : px_uu pl wr pg o ≤ 60 := h2
  have h6 : px_ee pl wr o ≤ 60 := h3
  have h7 := px_tree_le (show px_ee pl wr o + px_hh pl pg o + 2 * px_uu pl wr pg o ≤ 240 by omega)
  unfold px_res
  omega
/-- places and trees of a file -/
def px_mt (pl wr : Nat → Int32) (o : Nat) : Nat := px_mm pl o + px_tree (px_ee pl wr o)
theorem px_mt_le (pl wr : Nat → Int32) (o : Nat) : px_mt pl wr o ≤ 200 := by
  have h1 := px_cnt_le (fun b => !px_hole pl b) o 60
  have h3 := px_ex_le pl wr 60 o 0
  have h4 : px_mm pl o ≤ 60 := h1
  have h6 : px_ee pl wr o ≤ 60 := h3
  have h7 := px_tree_le (show px_ee pl wr o ≤ 240 by omega)
  unfold px_mt
  omega
end
section
theorem lf_VO_9 : Cond.fieldLink "DelayedExtents$Volume" 9 "DelayedExtents$Volume" "owners" "[I" ∈ lw_good := List.mem_filter.mpr ⟨List.mem_of_getElem? (i := 56) (by decide +kernel), by decide +kernel⟩
theorem lf_VO_15 : Cond.fieldLink "DelayedExtents$Volume" 15 "DelayedExtents$Volume" "values" "[I" ∈ lw_good := List.mem_filter.mpr ⟨List.mem_of_getElem? (i := 57) (by decide +kernel), by decide +kernel⟩
set_option maxRecDepth 4000 in
theorem cc_VO_ownerOf (l : Launch) (D : va_G) (g : Nat → ClassId) (v : Nat) (vo : Nat) (vv : Nat) (ow : Nat → Int32) (vl : Nat → Int32) (p : Nat) (hp : p < 80) : ww_ct l D g yy_VO_ownerOf bb_VO_ownerOf 2 (some .int) (ww_rm 1) [.ref v, .int (nI p)] [(v, .inr (1, [.ref vo, .ref vv])), (vo, .inl (g 0, 80, .inl ow)), (vv, .inl (g 0, 80, .inl vl))] (some (.int (ow p))) [(v, .inr (1, [.ref vo, .ref vv])), (vo, .inl (g 0, 80, .inl ow)), (vv, .inl (g 0, 80, .inl vl))] := by
  refine ww_start (by decide +kernel) rfl rfl (Nat.le_of_ble_eq_true rfl) (L0 := [(0, .ref v), (1, .int (nI p))]) rfl ?_
  intro X O hl hD hg hR hn F
  subst hl hD hg
  refine ww_aload_n O dd_VO_ownerOf_0 0 rfl ?_
  refine ww_get O ci_VO rfl 0 (by decide) lf_VO_9 rfl dd_VO_ownerOf_1 0 rfl rfl ?_
  refine ww_iload_n O dd_VO_ownerOf_4 1 rfl ?_
  refine ww_iald O dd_VO_ownerOf_5 1 rfl (by omega) (by decide) rfl ?_
  exact F.i dd_VO_ownerOf_6
set_option maxRecDepth 4000 in
theorem cc_VO_valueAt (l : Launch) (D : va_G) (g : Nat → ClassId) (v : Nat) (vo : Nat) (vv : Nat) (ow : Nat → Int32) (vl : Nat → Int32) (p : Nat) (hp : p < 80) : ww_ct l D g yy_VO_valueAt bb_VO_valueAt 2 (some .int) (ww_rm 1) [.ref v, .int (nI p)] [(v, .inr (1, [.ref vo, .ref vv])), (vo, .inl (g 0, 80, .inl ow)), (vv, .inl (g 0, 80, .inl vl))] (some (.int (vl p))) [(v, .inr (1, [.ref vo, .ref vv])), (vo, .inl (g 0, 80, .inl ow)), (vv, .inl (g 0, 80, .inl vl))] := by
  refine ww_start (by decide +kernel) rfl rfl (Nat.le_of_ble_eq_true rfl) (L0 := [(0, .ref v), (1, .int (nI p))]) rfl ?_
  intro X O hl hD hg hR hn F
  subst hl hD hg
  refine ww_aload_n O dd_VO_valueAt_0 0 rfl ?_
  refine ww_get O ci_VO rfl 1 (by decide) lf_VO_15 rfl dd_VO_valueAt_1 0 rfl rfl ?_
  refine ww_iload_n O dd_VO_valueAt_4 1 rfl ?_
  refine ww_iald O dd_VO_valueAt_5 2 rfl (by omega) (by decide) rfl ?_
  exact F.i dd_VO_valueAt_6
set_option maxRecDepth 4000 in
theorem cc_VO_setValue (l : Launch) (D : va_G) (g : Nat → ClassId) (v : Nat) (vo : Nat) (vv : Nat) (ow : Nat → Int32) (vl : Nat → Int32) (p : Nat) (x : Int32) (hp : p < 80) : ww_ct l D g yy_VO_setValue bb_VO_setValue 3 none (ww_rm 1) [.ref v, .int (nI p), .int x] [(v, .inr (1, [.ref vo, .ref vv])), (vo, .inl (g 0, 80, .inl ow)), (vv, .inl (g 0, 80, .inl vl))] none [(v, .inr (1, [.ref vo, .ref vv])), (vo, .inl (g 0, 80, .inl ow)), (vv, .inl (g 0, 80, .inl (upd vl p x)))] := by
  refine ww_start (by decide +kernel) rfl trivial (Nat.le_of_ble_eq_true rfl) (L0 := [(0, .ref v), (1, .int (nI p)), (2, .int x)]) rfl ?_
  intro X O hl hD hg hR hn F
  subst hl hD hg
  refine ww_aload_n O dd_VO_setValue_0 0 rfl ?_
  refine ww_get O ci_VO rfl 1 (by decide) lf_VO_15 rfl dd_VO_setValue_1 0 rfl rfl ?_
  refine ww_iload_n O dd_VO_setValue_4 1 rfl ?_
  refine ww_iload_n O dd_VO_setValue_5 2 rfl ?_
  refine ww_iast O dd_VO_setValue_6 2 rfl (by omega) (by decide) (ws' := [(v, .inr (1, [.ref vo, .ref vv])), (vo, .inl (ww_g X 0, 80, .inl ow)), (vv, .inl (ww_g X 0, 80, .inl (upd vl p x)))]) rfl ?_
  exact F.v dd_VO_setValue_7
set_option maxRecDepth 4000 in
theorem cc_VO_take (l : Launch) (D : va_G) (g : Nat → ClassId) (v : Nat) (vo : Nat) (vv : Nat) (ow : Nat → Int32) (vl : Nat → Int32) (p : Nat) (x : Int32) (hp : p < 80) : ww_ct l D g yy_VO_take bb_VO_take 3 none (ww_rm 1) [.ref v, .int (nI p), .int x] [(v, .inr (1, [.ref vo, .ref vv])), (vo, .inl (g 0, 80, .inl ow)), (vv, .inl (g 0, 80, .inl vl))] none [(v, .inr (1, [.ref vo, .ref vv])), (vo, .inl (g 0, 80, .inl (upd ow p x))), (vv, .inl (g 0, 80, .inl vl))] := by
  refine ww_start (by decide +kernel) rfl trivial (Nat.le_of_ble_eq_true rfl) (L0 := [(0, .ref v), (1, .int (nI p)), (2, .int x)]) rfl ?_
  intro X O hl hD hg hR hn F
  subst hl hD hg
  refine ww_aload_n O dd_VO_take_0 0 rfl ?_
  refine ww_get O ci_VO rfl 0 (by decide) lf_VO_9 rfl dd_VO_take_1 0 rfl rfl ?_
  refine ww_iload_n O dd_VO_take_4 1 rfl ?_
  refine ww_iload_n O dd_VO_take_5 2 rfl ?_
  refine ww_iast O dd_VO_take_6 1 rfl (by omega) (by decide) (ws' := [(v, .inr (1, [.ref vo, .ref vv])), (vo, .inl (ww_g X 0, 80, .inl (upd ow p x))), (vv, .inl (ww_g X 0, 80, .inl vl))]) rfl ?_
  exact F.v dd_VO_take_7
set_option maxRecDepth 4000 in
theorem cc_VO_release (l : Launch) (D : va_G) (g : Nat → ClassId) (v : Nat) (vo : Nat) (vv : Nat) (ow : Nat → Int32) (vl : Nat → Int32) (p : Nat) (hp : p < 80) : ww_ct l D g yy_VO_release bb_VO_release 2 none (ww_rm 1) [.ref v, .int (nI p)] [(v, .inr (1, [.ref vo, .ref vv])), (vo, .inl (g 0, 80, .inl ow)), (vv, .inl (g 0, 80, .inl vl))] none [(v, .inr (1, [.ref vo, .ref vv])), (vo, .inl (g 0, 80, .inl (upd ow p (-1)))), (vv, .inl (g 0, 80, .inl vl))] := by
  refine ww_start (by decide +kernel) rfl trivial (Nat.le_of_ble_eq_true rfl) (L0 := [(0, .ref v), (1, .int (nI p))]) rfl ?_
  intro X O hl hD hg hR hn F
  subst hl hD hg
  refine ww_aload_n O dd_VO_release_0 0 rfl ?_
  refine ww_get O ci_VO rfl 0 (by decide) lf_VO_9 rfl dd_VO_release_1 0 rfl rfl ?_
  refine ww_iload_n O dd_VO_release_4 1 rfl ?_
  refine ww_iconst O dd_VO_release_5 (v := (-1)) rfl ?_
  refine ww_iast O dd_VO_release_6 1 rfl (by omega) (by decide) (ws' := [(v, .inr (1, [.ref vo, .ref vv])), (vo, .inl (ww_g X 0, 80, .inl (upd ow p (-1)))), (vv, .inl (ww_g X 0, 80, .inl vl))]) rfl ?_
  exact F.v dd_VO_release_7
end
section
theorem lc_VO_24 : ww_site "DelayedExtents$Volume" 24 yy_VO_untakenFrom bb_VO_untakenFrom 3 (some .int) 1 := ⟨List.mem_filter.mpr ⟨List.mem_of_getElem? (i := 378) (by decide +kernel), by decide +kernel⟩, List.mem_filter.mpr ⟨List.mem_of_getElem? (i := 375) (by decide +kernel), by decide +kernel⟩, List.mem_filter.mpr ⟨List.mem_of_getElem? (i := 27) (by decide +kernel), by decide +kernel⟩, by decide, by decide, by decide +kernel⟩
theorem lx_VO_untakenFrom_I_I : ww_virt yy_VO_untakenFrom := ⟨List.mem_filter.mpr ⟨List.mem_of_getElem? (i := 377) (by decide +kernel), by decide +kernel⟩, List.mem_filter.mpr ⟨List.mem_of_getElem? (i := 7) (by decide +kernel), by decide +kernel⟩⟩
theorem lc_VO_28 : ww_site "DelayedExtents$Volume" 28 yy_VO_suitsBetter bb_VO_suitsBetter 3 (some .boolean) 3 := ⟨List.mem_filter.mpr ⟨List.mem_of_getElem? (i := 381) (by decide +kernel), by decide +kernel⟩, List.mem_filter.mpr ⟨List.mem_of_getElem? (i := 379) (by decide +kernel), by decide +kernel⟩, List.mem_filter.mpr ⟨List.mem_of_getElem? (i := 27) (by decide +kernel), by decide +kernel⟩, by decide, by decide, by decide +kernel⟩
theorem ls_VO_suitsBetter_III_Z : Cond.static yy_VO_suitsBetter ∈ lw_good := List.mem_filter.mpr ⟨List.mem_of_getElem? (i := 380) (by decide +kernel), by decide +kernel⟩
set_option maxRecDepth 4000 in
theorem cc_VO_isUntaken (l : Launch) (D : va_G) (g : Nat → ClassId) (v : Nat) (vo : Nat) (vv : Nat) (ow : Nat → Int32) (vl : Nat → Int32) (x : Int32)  : ww_ct l D g yy_VO_isUntaken bb_VO_isUntaken 2 (some .boolean) (ww_rm 1) [.ref v, .int x] [(v, .inr (1, [.ref vo, .ref vv])), (vo, .inl (g 0, 80, .inl ow)), (vv, .inl (g 0, 80, .inl vl))] (some (.int (px_b (px_un ow x)))) [(v, .inr (1, [.ref vo, .ref vv])), (vo, .inl (g 0, 80, .inl ow)), (vv, .inl (g 0, 80, .inl vl))] := by
  refine ww_start (by decide +kernel) rfl (px_b_nar _) (Nat.le_of_ble_eq_true rfl) (L0 := [(0, .ref v), (1, .int x)]) rfl ?_
  intro X O hl hD hg hR hn F
  subst hl hD hg
  refine ww_iload_n O dd_VO_isUntaken_0 1 rfl ?_
  refine ww_if_lt O dd_VO_isUntaken_1 (tgt := 24) rfl (fun h1 => ?_) (fun h1 => ?_)
  · refine ww_iconst O dd_VO_isUntaken_24 (v := nI 0) rfl ?_
    rw [show px_un ow x = false from px_un_neg h1, px_b_f] at F
    exact F.i dd_VO_isUntaken_25
  · refine ww_iload_n O dd_VO_isUntaken_4 1 rfl ?_
    refine ww_bipush O dd_VO_isUntaken_5 (v := nI 80) rfl ?_
    refine ww_icmp_ge O dd_VO_isUntaken_7 (tgt := 24) rfl (fun h7 => ?_) (fun h7 => ?_)
    · refine ww_iconst O dd_VO_isUntaken_24 (v := nI 0) rfl ?_
      rw [show px_un ow x = false from px_un_big h7, px_b_f] at F
      exact F.i dd_VO_isUntaken_25
    · obtain ⟨j, hj, rfl⟩ := px_ix3 (by decide) h1 h7
      refine ww_aload_n O dd_VO_isUntaken_10 0 rfl ?_
      refine ww_get O ci_VO rfl 0 (by decide) lf_VO_9 rfl dd_VO_isUntaken_11 0 rfl rfl ?_
      refine ww_iload_n O dd_VO_isUntaken_14 1 rfl ?_
      refine ww_iald O dd_VO_isUntaken_15 1 rfl (by omega) (by decide) rfl ?_
      refine ww_iconst O dd_VO_isUntaken_16 (v := (-1)) rfl ?_
      refine ww_icmp_ne O dd_VO_isUntaken_17 (tgt := 24) rfl (fun h17 => ?_) (fun h17 => ?_)
      · refine ww_iconst O dd_VO_isUntaken_24 (v := nI 0) rfl ?_
        rw [show px_un ow (nI j) = false from by rw [px_un_in hj]; simp [h17], px_b_f] at F
        exact F.i dd_VO_isUntaken_25
      · refine ww_iconst O dd_VO_isUntaken_20 (v := nI 1) rfl ?_
        refine ww_goto O dd_VO_isUntaken_21 (tgt := 25) rfl ?_
        rw [show px_un ow (nI j) = true from by rw [px_un_in hj]; simp [h17], px_b_t] at F
        exact F.i dd_VO_isUntaken_25
set_option maxRecDepth 4000 in
theorem cc_VO_suitsBetter (l : Launch) (D : va_G) (g : Nat → ClassId) (a : Nat) (b : Nat) (w : Nat) (ha : a < 100) (hb : b < 100) (hw : w < 100) : ww_ct l D g yy_VO_suitsBetter bb_VO_suitsBetter 3 (some .boolean) (ww_rm 1) [.int (nI a), .int (nI b), .int (nI w)] [] (some (.int (px_b (px_bet w b a)))) [] := by
  refine ww_start (by decide +kernel) rfl (px_b_nar _) (Nat.le_of_ble_eq_true rfl) (L0 := [(0, .int (nI a)), (1, .int (nI b)), (2, .int (nI w))]) rfl ?_
  intro X O hl hD hg hR hn F
  subst hl hD hg
  refine ww_iload_n O dd_VO_suitsBetter_0 1 rfl ?_
  refine ww_iload_n O dd_VO_suitsBetter_1 2 rfl ?_
  refine ww_icmp_geN O dd_VO_suitsBetter_2 (tgt := 16) rfl (by omega) (by omega) (fun h2 => ?_) (fun h2 => ?_)
  · refine ww_iload_n O dd_VO_suitsBetter_16 0 rfl ?_
    refine ww_iload_n O dd_VO_suitsBetter_17 2 rfl ?_
    refine ww_icmp_ltN O dd_VO_suitsBetter_18 (tgt := 30) rfl (by omega) (by omega) (fun h18 => ?_) (fun h18 => ?_)
    · refine ww_iconst O dd_VO_suitsBetter_30 (v := nI 0) rfl ?_
      rw [show px_bet w b a = false from by unfold px_bet; split <;> simp <;> omega, px_b_f] at F
      exact F.i dd_VO_suitsBetter_31
    · refine ww_iload_n O dd_VO_suitsBetter_21 0 rfl ?_
      refine ww_iload_n O dd_VO_suitsBetter_22 1 rfl ?_
      refine ww_icmp_geN O dd_VO_suitsBetter_23 (tgt := 30) rfl (by omega) (by omega) (fun h23 => ?_) (fun h23 => ?_)
      · refine ww_iconst O dd_VO_suitsBetter_30 (v := nI 0) rfl ?_
        rw [show px_bet w b a = false from by unfold px_bet; split <;> simp <;> omega, px_b_f] at F
        exact F.i dd_VO_suitsBetter_31
      · refine ww_iconst O dd_VO_suitsBetter_26 (v := nI 1) rfl ?_
        refine ww_goto O dd_VO_suitsBetter_27 (tgt := 31) rfl ?_
        rw [show px_bet w b a = true from by unfold px_bet; split <;> simp <;> omega, px_b_t] at F
        exact F.i dd_VO_suitsBetter_31
  · refine ww_iload_n O dd_VO_suitsBetter_5 0 rfl ?_
    refine ww_iload_n O dd_VO_suitsBetter_6 1 rfl ?_
    refine ww_icmp_leN O dd_VO_suitsBetter_7 (tgt := 14) rfl (by omega) (by omega) (fun h7 => ?_) (fun h7 => ?_)
    · refine ww_iconst O dd_VO_suitsBetter_14 (v := nI 0) rfl ?_
      rw [show px_bet w b a = false from by unfold px_bet; split <;> simp <;> omega, px_b_f] at F
      exact F.i dd_VO_suitsBetter_15
    · refine ww_iconst O dd_VO_suitsBetter_10 (v := nI 1) rfl ?_
      refine ww_goto O dd_VO_suitsBetter_11 (tgt := 15) rfl ?_
      rw [show px_bet w b a = true from by unfold px_bet; split <;> simp <;> omega, px_b_t] at F
      exact F.i dd_VO_suitsBetter_15
set_option maxRecDepth 4000 in
theorem cc_VO_untakenFrom (l : Launch) (D : va_G) (g : Nat → ClassId) (v : Nat) (vo : Nat) (vv : Nat) (ow : Nat → Int32) (vl : Nat → Int32) (a : Nat) (ha : a < 81) : ww_ct l D g yy_VO_untakenFrom bb_VO_untakenFrom 3 (some .int) (ww_rm 1) [.ref v, .int (nI a)] [(v, .inr (1, [.ref vo, .ref vv])), (vo, .inl (g 0, 80, .inl ow)), (vv, .inl (g 0, 80, .inl vl))] (some (.int (nI (px_room ow (80 - a) a)))) [(v, .inr (1, [.ref vo, .ref vv])), (vo, .inl (g 0, 80, .inl ow)), (vv, .inl (g 0, 80, .inl vl))] := by
  refine ww_start (by decide +kernel) rfl rfl (Nat.le_of_ble_eq_true rfl) (L0 := [(0, .ref v), (1, .int (nI a))]) rfl ?_
  intro X O hl hD hg hR hn F
  subst hl hD hg
  have loop : ∀ (k b : Nat), 80 ≤ b + k → a ≤ b → b ≤ 80 → b - a + px_room ow (80 - b) b = px_room ow (80 - a) a → ww_at X 0 0 2 [(0, .ref v), (1, .int (nI a)), (2, .int (nI b))] [] [(v, .inr (1, [.ref vo, .ref vv])), (vo, .inl (ww_g X 0, 80, .inl ow)), (vv, .inl (ww_g X 0, 80, .inl vl))] := by
    intro k
    induction k with
    | zero =>
      intro b h1 h2 h3 h4
      refine ww_iload_n O dd_VO_untakenFrom_2 2 rfl ?_
      refine ww_bipush O dd_VO_untakenFrom_3 (v := nI 80) rfl ?_
      refine ww_icmp_geN O dd_VO_untakenFrom_5 (tgt := 24) rfl (by omega) (by omega) (fun h5 => ?_) (fun h5 => ?_)
      · refine ww_iload_n O dd_VO_untakenFrom_24 2 rfl ?_
        refine ww_iload_n O dd_VO_untakenFrom_25 1 rfl ?_
        refine ww_isub O dd_VO_untakenFrom_26 (v := nI (b - a)) (pk_sub (by omega)) ?_
        rw [show px_room ow (80 - a) a = (b - a) from by rw [← h4, px_room_s, if_neg (by omega)]; omega] at F
        exact F.i dd_VO_untakenFrom_27
      · exfalso; omega
    | succ k ih =>
      intro b h1 h2 h3 h4
      refine ww_iload_n O dd_VO_untakenFrom_2 2 rfl ?_
      refine ww_bipush O dd_VO_untakenFrom_3 (v := nI 80) rfl ?_
      refine ww_icmp_geN O dd_VO_untakenFrom_5 (tgt := 24) rfl (by omega) (by omega) (fun h5 => ?_) (fun h5 => ?_)
      · refine ww_iload_n O dd_VO_untakenFrom_24 2 rfl ?_
        refine ww_iload_n O dd_VO_untakenFrom_25 1 rfl ?_
        refine ww_isub O dd_VO_untakenFrom_26 (v := nI (b - a)) (pk_sub (by omega)) ?_
        rw [show px_room ow (80 - a) a = (b - a) from by rw [← h4, px_room_s, if_neg (by omega)]; omega] at F
        exact F.i dd_VO_untakenFrom_27
      · refine ww_aload_n O dd_VO_untakenFrom_8 0 rfl ?_
        refine ww_get O ci_VO rfl 0 (by decide) lf_VO_9 rfl dd_VO_untakenFrom_9 0 rfl rfl ?_
        refine ww_iload_n O dd_VO_untakenFrom_12 2 rfl ?_
        refine ww_iald O dd_VO_untakenFrom_13 1 rfl (by omega) (by decide) rfl ?_
        refine ww_iconst O dd_VO_untakenFrom_14 (v := (-1)) rfl ?_
        refine ww_icmp_ne O dd_VO_untakenFrom_15 (tgt := 24) rfl (fun h15 => ?_) (fun h15 => ?_)
        · refine ww_iload_n O dd_VO_untakenFrom_24 2 rfl ?_
          refine ww_iload_n O dd_VO_untakenFrom_25 1 rfl ?_
          refine ww_isub O dd_VO_untakenFrom_26 (v := nI (b - a)) (pk_sub (by omega)) ?_
          rw [show px_room ow (80 - a) a = (b - a) from by rw [← h4, px_room_s, if_neg (fun z => h15 z.2)]; omega] at F
          exact F.i dd_VO_untakenFrom_27
        · refine ww_iinc O dd_VO_untakenFrom_18 2 rfl (v := nI (b + 1)) (nI_add _ 1) (by rw [hn]; decide) rfl (L' := [(0, .ref v), (1, .int (nI a)), (2, .int (nI (b + 1)))]) rfl ?_
          refine ww_goto O dd_VO_untakenFrom_21 (tgt := 2) rfl ?_
          exact ih (b + 1) (by omega) (by omega) (by omega) (by rw [← h4, px_room_s (p := b), if_pos ⟨by omega, h15⟩, show 80 - b - 1 = 80 - (b + 1) by omega]; omega)
  refine ww_iload_n O dd_VO_untakenFrom_0 1 rfl ?_
  refine ww_istore_n O dd_VO_untakenFrom_1 (by rw [hn]; decide) rfl (L' := [(0, .ref v), (1, .int (nI a)), (2, .int (nI a))]) rfl ?_
  exact loop 80 a (by omega) (by omega) (by omega) (by omega)
set_option maxRecDepth 4000 in
theorem cc_VO_countUntaken (l : Launch) (D : va_G) (g : Nat → ClassId) (v : Nat) (vo : Nat) (vv : Nat) (ow : Nat → Int32) (vl : Nat → Int32)  : ww_ct l D g yy_VO_countUntaken bb_VO_countUntaken 3 (some .int) (ww_rm 1) [.ref v] [(v, .inr (1, [.ref vo, .ref vv])), (vo, .inl (g 0, 80, .inl ow)), (vv, .inl (g 0, 80, .inl vl))] (some (.int (nI (px_nu ow)))) [(v, .inr (1, [.ref vo, .ref vv])), (vo, .inl (g 0, 80, .inl ow)), (vv, .inl (g 0, 80, .inl vl))] := by
  refine ww_start (by decide +kernel) rfl rfl (Nat.le_of_ble_eq_true rfl) (L0 := [(0, .ref v)]) rfl ?_
  intro X O hl hD hg hR hn F
  subst hl hD hg
  have loop : ∀ (k b c : Nat), 80 ≤ b + k → b ≤ 80 → c = px_cnt (fun p => ow p == -1) 0 b → ww_at X 0 0 4 [(0, .ref v), (1, .int (nI c)), (2, .int (nI b))] [] [(v, .inr (1, [.ref vo, .ref vv])), (vo, .inl (ww_g X 0, 80, .inl ow)), (vv, .inl (ww_g X 0, 80, .inl vl))] := by
    intro k
    induction k with
    | zero =>
      intro b c h1 h2 h3
      refine ww_iload_n O dd_VO_countUntaken_4 2 rfl ?_
      refine ww_bipush O dd_VO_countUntaken_5 (v := nI 80) rfl ?_
      refine ww_icmp_geN O dd_VO_countUntaken_7 (tgt := 29) rfl (by omega) (by omega) (fun h7 => ?_) (fun h7 => ?_)
      · refine ww_iload_n O dd_VO_countUntaken_29 1 rfl ?_
        rw [show px_nu ow = c from by rw [h3, show b = 80 by omega]; rfl] at F
        exact F.i dd_VO_countUntaken_30
      · exfalso; omega
    | succ k ih =>
      intro b c h1 h2 h3
      refine ww_iload_n O dd_VO_countUntaken_4 2 rfl ?_
      refine ww_bipush O dd_VO_countUntaken_5 (v := nI 80) rfl ?_
      refine ww_icmp_geN O dd_VO_countUntaken_7 (tgt := 29) rfl (by omega) (by omega) (fun h7 => ?_) (fun h7 => ?_)
      · refine ww_iload_n O dd_VO_countUntaken_29 1 rfl ?_
        rw [show px_nu ow = c from by rw [h3, show b = 80 by omega]; rfl] at F
        exact F.i dd_VO_countUntaken_30
      · refine ww_aload_n O dd_VO_countUntaken_10 0 rfl ?_
        refine ww_get O ci_VO rfl 0 (by decide) lf_VO_9 rfl dd_VO_countUntaken_11 0 rfl rfl ?_
        refine ww_iload_n O dd_VO_countUntaken_14 2 rfl ?_
        refine ww_iald O dd_VO_countUntaken_15 1 rfl (by omega) (by decide) rfl ?_
        refine ww_iconst O dd_VO_countUntaken_16 (v := (-1)) rfl ?_
        refine ww_icmp_ne O dd_VO_countUntaken_17 (tgt := 23) rfl (fun h17 => ?_) (fun h17 => ?_)
        · refine ww_iinc O dd_VO_countUntaken_23 2 rfl (v := nI (b + 1)) (nI_add _ 1) (by rw [hn]; decide) rfl (L' := [(0, .ref v), (1, .int (nI c)), (2, .int (nI (b + 1)))]) rfl ?_
          refine ww_goto O dd_VO_countUntaken_26 (tgt := 4) rfl ?_
          exact ih (b + 1) c (by omega) (by omega) (px_c0f h3 (by simp [h17]))
        · refine ww_iinc O dd_VO_countUntaken_20 1 rfl (v := nI (c + 1)) (nI_add _ 1) (by rw [hn]; decide) rfl (L' := [(0, .ref v), (1, .int (nI (c + 1))), (2, .int (nI b))]) rfl ?_
          refine ww_iinc O dd_VO_countUntaken_23 2 rfl (v := nI (b + 1)) (nI_add _ 1) (by rw [hn]; decide) rfl (L' := [(0, .ref v), (1, .int (nI (c + 1))), (2, .int (nI (b + 1)))]) rfl ?_
          refine ww_goto O dd_VO_countUntaken_26 (tgt := 4) rfl ?_
          exact ih (b + 1) (c + 1) (by omega) (by omega) (px_c0t h3 (by simp [h17]))
  refine ww_iconst O dd_VO_countUntaken_0 (v := nI 0) rfl ?_
  refine ww_istore_n O dd_VO_countUntaken_1 (by rw [hn]; decide) rfl (L' := [(0, .ref v), (1, .int (nI 0))]) rfl ?_
  refine ww_iconst O dd_VO_countUntaken_2 (v := nI 0) rfl ?_
  refine ww_istore_n O dd_VO_countUntaken_3 (by rw [hn]; decide) rfl (L' := [(0, .ref v), (1, .int (nI 0)), (2, .int (nI 0))]) rfl ?_
  exact loop 80 0 0 (by omega) (by omega) rfl
set_option maxRecDepth 4000 in
theorem cc_VO_bestRow (l : Launch) (D : va_G) (g : Nat → ClassId) (v : Nat) (vo : Nat) (vv : Nat) (ow : Nat → Int32) (vl : Nat → Int32) (w : Nat) (hw0 : 0 < w) (hw : w < 100) : ww_ct l D g yy_VO_bestRow bb_VO_bestRow 6 (some .int) (ww_rm 2) [.ref v, .int (nI w)] [(v, .inr (1, [.ref vo, .ref vv])), (vo, .inl (g 0, 80, .inl ow)), (vv, .inl (g 0, 80, .inl vl))] (some (.int (px_best ow w))) [(v, .inr (1, [.ref vo, .ref vv])), (vo, .inl (g 0, 80, .inl ow)), (vv, .inl (g 0, 80, .inl vl))] := by
  refine ww_start (by decide +kernel) rfl rfl (Nat.le_of_ble_eq_true rfl) (L0 := [(0, .ref v), (1, .int (nI w))]) rfl ?_
  intro X O hl hD hg hR hn F
  subst hl hD hg
  have loop : ∀ (k p s : Nat) (b : Int32), 80 ≤ p + k → p ≤ 81 → s ≤ 80 → (p = 0 ∨ ow (p - 1) ≠ -1 ∨ 80 ≤ p) → px_bf ow w (80 - p) p b s = px_best ow w → ww_at X 0 0 7 [(0, .ref v), (1, .int (nI w)), (2, .int b), (3, .int (nI s)), (4, .int (nI p))] [] [(v, .inr (1, [.ref vo, .ref vv])), (vo, .inl (ww_g X 0, 80, .inl ow)), (vv, .inl (ww_g X 0, 80, .inl vl))] := by
    intro k
    induction k with
    | zero =>
      intro p s b h1 h2 hs h3 h4
      refine ww_iload O dd_VO_bestRow_7 4 rfl ?_
      refine ww_bipush O dd_VO_bestRow_9 (v := nI 80) rfl ?_
      refine ww_icmp_geN O dd_VO_bestRow_11 (tgt := 50) rfl (by omega) (by omega) (fun h11 => ?_) (fun h11 => ?_)
      · refine ww_iload_n O dd_VO_bestRow_50 2 rfl ?_
        rw [show px_best ow w = b from by rw [← h4, show 80 - p = 0 by omega]; rfl] at F
        exact F.i dd_VO_bestRow_51
      · exfalso; omega
    | succ k ih =>
      intro p s b h1 h2 hs h3 h4
      refine ww_iload O dd_VO_bestRow_7 4 rfl ?_
      refine ww_bipush O dd_VO_bestRow_9 (v := nI 80) rfl ?_
      refine ww_icmp_geN O dd_VO_bestRow_11 (tgt := 50) rfl (by omega) (by omega) (fun h11 => ?_) (fun h11 => ?_)
      · refine ww_iload_n O dd_VO_bestRow_50 2 rfl ?_
        rw [show px_best ow w = b from by rw [← h4, show 80 - p = 0 by omega]; rfl] at F
        exact F.i dd_VO_bestRow_51
      · refine ww_aload_n O dd_VO_bestRow_14 0 rfl ?_
        refine ww_iload O dd_VO_bestRow_15 4 rfl ?_
        refine ww_callV (q0 := 0) (ci := 1) O (cc_VO_untakenFrom _ _ _ v vo vv ow vl p (by omega)) lc_VO_24 lx_VO_untakenFrom_I_I rfl rfl rfl (by rw [hR]; decide) (by rw [hR]; decide) (by rw [hR]; decide) rfl (Nat.le_of_ble_eq_true rfl) dd_VO_bestRow_17 rfl [0, 1, 2] [] [0, 1, 2] rfl (by decide) rfl (by decide) (by decide) (ws' := [(v, .inr (1, [.ref vo, .ref vv])), (vo, .inl (ww_g X 0, 80, .inl ow)), (vv, .inl (ww_g X 0, 80, .inl vl))]) rfl rfl (by decide) ?_
        have hr := px_room_le ow (80 - p) p
        generalize hre : px_room ow (80 - p) p = r at hr ⊢
        refine ww_istore O dd_VO_bestRow_20 (by rw [hn]; decide) rfl (L' := [(0, .ref v), (1, .int (nI w)), (2, .int b), (3, .int (nI s)), (4, .int (nI p)), (5, .int (nI r))]) rfl ?_
        refine ww_iload O dd_VO_bestRow_22 5 rfl ?_
        refine ww_iload_n O dd_VO_bestRow_24 3 rfl ?_
        refine ww_iload_n O dd_VO_bestRow_25 1 rfl ?_
        refine ww_callS O (cc_VO_suitsBetter _ _ _ r s w (by omega) (by omega) (by omega)) lc_VO_28 ls_VO_suitsBetter_III_Z (by rw [hR]; decide) (by rw [hR]; decide) (by rw [hR]; decide) rfl (Nat.le_of_ble_eq_true rfl) dd_VO_bestRow_26 rfl [] [0, 1, 2] [0, 1, 2] rfl (by decide) rfl (by decide) (by decide) (ws' := [(v, .inr (1, [.ref vo, .ref vv])), (vo, .inl (ww_g X 0, 80, .inl ow)), (vv, .inl (ww_g X 0, 80, .inl vl))]) rfl rfl (by decide) ?_
        refine ww_if_eqB O dd_VO_bestRow_29 (tgt := 38) rfl (fun h29 => ?_) (fun h29 => ?_)
        · refine ww_iload O dd_VO_bestRow_38 4 rfl ?_
          refine ww_iload O dd_VO_bestRow_40 5 rfl ?_
          refine ww_iconst O dd_VO_bestRow_42 (v := nI 1) rfl ?_
          refine ww_iadd O dd_VO_bestRow_43 (v := nI (r + 1)) (nI_add _ _) ?_
          refine ww_iadd O dd_VO_bestRow_44 (v := nI (p + (r + 1))) (nI_add _ _) ?_
          refine ww_istore O dd_VO_bestRow_45 (by rw [hn]; decide) rfl (L' := [(0, .ref v), (1, .int (nI w)), (2, .int b), (3, .int (nI s)), (4, .int (nI (p + (r + 1)))), (5, .int (nI r))]) rfl ?_
          refine ww_goto O dd_VO_bestRow_47 (tgt := 7) rfl ?_
          refine ww_sub [0, 1, 2, 3, 4] rfl ?_
          refine ih _ _ _ (by omega) (by omega) (by omega) ?_ ?_
          · rcases Nat.lt_or_ge (p + r) 80 with h9 | h9
            · refine Or.inr (Or.inl ?_)
              have := px_room_end (ow := ow) (k := 80 - p) (p := p) (by omega)
              rw [hre] at this
              simpa [Nat.add_assoc] using this
            · exact Or.inr (Or.inr (by omega))
          · rw [← h4, px_bf_row hw0 (show p < 80 by omega) (by rcases h3 with h | h | h; exact Or.inl h; exact Or.inr h; omega), hre, if_neg (by rw [h29]; decide), if_neg (by rw [h29]; decide)]
            simp only [Nat.add_assoc]
        · refine ww_iload O dd_VO_bestRow_32 4 rfl ?_
          refine ww_istore_n O dd_VO_bestRow_34 (by rw [hn]; decide) rfl (L' := [(0, .ref v), (1, .int (nI w)), (2, .int (nI p)), (3, .int (nI s)), (4, .int (nI p)), (5, .int (nI r))]) rfl ?_
          refine ww_iload O dd_VO_bestRow_35 5 rfl ?_
          refine ww_istore_n O dd_VO_bestRow_37 (by rw [hn]; decide) rfl (L' := [(0, .ref v), (1, .int (nI w)), (2, .int (nI p)), (3, .int (nI r)), (4, .int (nI p)), (5, .int (nI r))]) rfl ?_
          refine ww_iload O dd_VO_bestRow_38 4 rfl ?_
          refine ww_iload O dd_VO_bestRow_40 5 rfl ?_
          refine ww_iconst O dd_VO_bestRow_42 (v := nI 1) rfl ?_
          refine ww_iadd O dd_VO_bestRow_43 (v := nI (r + 1)) (nI_add _ _) ?_
          refine ww_iadd O dd_VO_bestRow_44 (v := nI (p + (r + 1))) (nI_add _ _) ?_
          refine ww_istore O dd_VO_bestRow_45 (by rw [hn]; decide) rfl (L' := [(0, .ref v), (1, .int (nI w)), (2, .int (nI p)), (3, .int (nI r)), (4, .int (nI (p + (r + 1)))), (5, .int (nI r))]) rfl ?_
          refine ww_goto O dd_VO_bestRow_47 (tgt := 7) rfl ?_
          refine ww_sub [0, 1, 2, 3, 4] rfl ?_
          refine ih _ _ _ (by omega) (by omega) (by omega) ?_ ?_
          · rcases Nat.lt_or_ge (p + r) 80 with h9 | h9
            · refine Or.inr (Or.inl ?_)
              have := px_room_end (ow := ow) (k := 80 - p) (p := p) (by omega)
              rw [hre] at this
              simpa [Nat.add_assoc] using this
            · exact Or.inr (Or.inr (by omega))
          · rw [← h4, px_bf_row hw0 (show p < 80 by omega) (by rcases h3 with h | h | h; exact Or.inl h; exact Or.inr h; omega), hre, if_pos h29, if_pos h29]
            simp only [Nat.add_assoc]
  refine ww_iconst O dd_VO_bestRow_0 (v := (-1)) rfl ?_
  refine ww_istore_n O dd_VO_bestRow_1 (by rw [hn]; decide) rfl (L' := [(0, .ref v), (1, .int (nI w)), (2, .int (-1))]) rfl ?_
  refine ww_iconst O dd_VO_bestRow_2 (v := nI 0) rfl ?_
  refine ww_istore_n O dd_VO_bestRow_3 (by rw [hn]; decide) rfl (L' := [(0, .ref v), (1, .int (nI w)), (2, .int (-1)), (3, .int (nI 0))]) rfl ?_
  refine ww_iconst O dd_VO_bestRow_4 (v := nI 0) rfl ?_
  refine ww_istore O dd_VO_bestRow_5 (by rw [hn]; decide) rfl (L' := [(0, .ref v), (1, .int (nI w)), (2, .int (-1)), (3, .int (nI 0)), (4, .int (nI 0))]) rfl ?_
  exact loop 80 0 0 (-1) (by omega) (by omega) (by omega) (Or.inl rfl) rfl
end
section
theorem lf_BF_28 : Cond.fieldLink "DelayedExtents$BlockFile" 28 "DelayedExtents$BlockFile" "size" "I" ∈ lw_good := List.mem_filter.mpr ⟨List.mem_of_getElem? (i := 79) (by decide +kernel), by decide +kernel⟩
theorem lm_BF_45 : Cond.methodLink "DelayedExtents$BlockFile" 45 ⟨"java/lang/Math", "max", "(II)I"⟩ ∈ lw_good := List.mem_filter.mpr ⟨List.mem_of_getElem? (i := 156) (by decide +kernel), by decide +kernel⟩
theorem lf_BF_9 : Cond.fieldLink "DelayedExtents$BlockFile" 9 "DelayedExtents$BlockFile" "places" "[I" ∈ lw_good := List.mem_filter.mpr ⟨List.mem_of_getElem? (i := 74) (by decide +kernel), by decide +kernel⟩
theorem lf_BF_15 : Cond.fieldLink "DelayedExtents$BlockFile" 15 "DelayedExtents$BlockFile" "written" "[Z" ∈ lw_good := List.mem_filter.mpr ⟨List.mem_of_getElem? (i := 75) (by decide +kernel), by decide +kernel⟩
theorem lf_BF_19 : Cond.fieldLink "DelayedExtents$BlockFile" 19 "DelayedExtents$BlockFile" "paged" "[Z" ∈ lw_good := List.mem_filter.mpr ⟨List.mem_of_getElem? (i := 76) (by decide +kernel), by decide +kernel⟩
theorem lf_BF_22 : Cond.fieldLink "DelayedExtents$BlockFile" 22 "DelayedExtents$BlockFile" "pageValues" "[I" ∈ lw_good := List.mem_filter.mpr ⟨List.mem_of_getElem? (i := 77) (by decide +kernel), by decide +kernel⟩
theorem lc_BF_51 : ww_site "DelayedExtents$BlockFile" 51 yy_BF_dropPage bb_BF_dropPage 2 none 1 := ⟨List.mem_filter.mpr ⟨List.mem_of_getElem? (i := 124) (by decide +kernel), by decide +kernel⟩, List.mem_filter.mpr ⟨List.mem_of_getElem? (i := 121) (by decide +kernel), by decide +kernel⟩, List.mem_filter.mpr ⟨List.mem_of_getElem? (i := 29) (by decide +kernel), by decide +kernel⟩, by decide, by decide, by decide +kernel⟩
theorem lx_BF_dropPage_I_V : ww_virt yy_BF_dropPage := ⟨List.mem_filter.mpr ⟨List.mem_of_getElem? (i := 122) (by decide +kernel), by decide +kernel⟩, List.mem_filter.mpr ⟨List.mem_of_getElem? (i := 123) (by decide +kernel), by decide +kernel⟩⟩
theorem lc_BF_55 : ww_site "DelayedExtents$BlockFile" 55 yy_BF_isHole bb_BF_isHole 2 (some .boolean) 1 := ⟨List.mem_filter.mpr ⟨List.mem_of_getElem? (i := 140) (by decide +kernel), by decide +kernel⟩, List.mem_filter.mpr ⟨List.mem_of_getElem? (i := 137) (by decide +kernel), by decide +kernel⟩, List.mem_filter.mpr ⟨List.mem_of_getElem? (i := 29) (by decide +kernel), by decide +kernel⟩, by decide, by decide, by decide +kernel⟩
theorem lx_BF_isHole_I_Z : ww_virt yy_BF_isHole := ⟨List.mem_filter.mpr ⟨List.mem_of_getElem? (i := 138) (by decide +kernel), by decide +kernel⟩, List.mem_filter.mpr ⟨List.mem_of_getElem? (i := 139) (by decide +kernel), by decide +kernel⟩⟩
theorem lf_BF_32 : Cond.fieldLink "DelayedExtents$BlockFile" 32 "DelayedExtents$BlockFile" "volume" "LDelayedExtents$Volume;" ∈ lw_good := List.mem_filter.mpr ⟨List.mem_of_getElem? (i := 72) (by decide +kernel), by decide +kernel⟩
theorem lc_BF_59 : ww_site "DelayedExtents$BlockFile" 59 yy_VO_valueAt bb_VO_valueAt 2 (some .int) 1 := ⟨List.mem_filter.mpr ⟨List.mem_of_getElem? (i := 315) (by decide +kernel), by decide +kernel⟩, List.mem_filter.mpr ⟨List.mem_of_getElem? (i := 312) (by decide +kernel), by decide +kernel⟩, List.mem_filter.mpr ⟨List.mem_of_getElem? (i := 27) (by decide +kernel), by decide +kernel⟩, by decide, by decide, by decide +kernel⟩
theorem lx_VO_valueAt_I_I : ww_virt yy_VO_valueAt := ⟨List.mem_filter.mpr ⟨List.mem_of_getElem? (i := 313) (by decide +kernel), by decide +kernel⟩, List.mem_filter.mpr ⟨List.mem_of_getElem? (i := 314) (by decide +kernel), by decide +kernel⟩⟩
theorem lc_BF_65 : ww_site "DelayedExtents$BlockFile" 65 yy_BF_countHoles bb_BF_countHoles 5 (some .int) 2 := ⟨List.mem_filter.mpr ⟨List.mem_of_getElem? (i := 136) (by decide +kernel), by decide +kernel⟩, List.mem_filter.mpr ⟨List.mem_of_getElem? (i := 133) (by decide +kernel), by decide +kernel⟩, List.mem_filter.mpr ⟨List.mem_of_getElem? (i := 29) (by decide +kernel), by decide +kernel⟩, by decide, by decide, by decide +kernel⟩
theorem lx_BF_countHoles_II_I : ww_virt yy_BF_countHoles := ⟨List.mem_filter.mpr ⟨List.mem_of_getElem? (i := 134) (by decide +kernel), by decide +kernel⟩, List.mem_filter.mpr ⟨List.mem_of_getElem? (i := 135) (by decide +kernel), by decide +kernel⟩⟩
theorem lc_BF_81 : ww_site "DelayedExtents$BlockFile" 81 yy_BF_continuesRow bb_BF_continuesRow 2 (some .boolean) 1 := ⟨List.mem_filter.mpr ⟨List.mem_of_getElem? (i := 155) (by decide +kernel), by decide +kernel⟩, List.mem_filter.mpr ⟨List.mem_of_getElem? (i := 152) (by decide +kernel), by decide +kernel⟩, List.mem_filter.mpr ⟨List.mem_of_getElem? (i := 29) (by decide +kernel), by decide +kernel⟩, by decide, by decide, by decide +kernel⟩
theorem lx_BF_continuesRow_I_Z : ww_virt yy_BF_continuesRow := ⟨List.mem_filter.mpr ⟨List.mem_of_getElem? (i := 154) (by decide +kernel), by decide +kernel⟩, List.mem_filter.mpr ⟨List.mem_of_getElem? (i := 1) (by decide +kernel), by decide +kernel⟩⟩
theorem lm_BF_78 : Cond.methodLink "DelayedExtents$BlockFile" 78 ⟨"java/lang/Math", "min", "(II)I"⟩ ∈ lw_good := List.mem_filter.mpr ⟨List.mem_of_getElem? (i := 149) (by decide +kernel), by decide +kernel⟩
theorem lk_Math_max : Cond.static Lib.Math.max.name ∈ lw_good ∧ Cond.initialized "java/lang/Math" ∈ lw_good ∧ Cond.code Lib.Math.max.name Lib.Math.max.code 2 (some .int) ∈ lw_good := ⟨List.mem_filter.mpr ⟨List.mem_of_getElem? (i := 157) (by decide +kernel), by decide +kernel⟩, List.mem_filter.mpr ⟨List.mem_of_getElem? (i := 36) (by decide +kernel), by decide +kernel⟩, List.mem_filter.mpr ⟨List.mem_of_getElem? (i := 158) (by decide +kernel), by decide +kernel⟩⟩
theorem lk_Math_min : Cond.static Lib.Math.min.name ∈ lw_good ∧ Cond.initialized "java/lang/Math" ∈ lw_good ∧ Cond.code Lib.Math.min.name Lib.Math.min.code 2 (some .int) ∈ lw_good := ⟨List.mem_filter.mpr ⟨List.mem_of_getElem? (i := 150) (by decide +kernel), by decide +kernel⟩, List.mem_filter.mpr ⟨List.mem_of_getElem? (i := 36) (by decide +kernel), by decide +kernel⟩, List.mem_filter.mpr ⟨List.mem_of_getElem? (i := 151) (by decide +kernel), by decide +kernel⟩⟩
theorem dd_DE_treeBlocks_0 : decode bb_DE_treeBlocks 0 = .ok (.iload_n 0, 1) := by decide +kernel
theorem dd_DE_treeBlocks_1 : decode bb_DE_treeBlocks 1 = .ok (.iconst 3, 1) := by decide +kernel
theorem dd_DE_treeBlocks_2 : decode bb_DE_treeBlocks 2 = .ok (.if_icmp .gt 5, 3) := by decide +kernel
theorem dd_DE_treeBlocks_5 : decode bb_DE_treeBlocks 5 = .ok (.iconst 0, 1) := by decide +kernel
theorem dd_DE_treeBlocks_6 : decode bb_DE_treeBlocks 6 = .ok (.ireturn, 1) := by decide +kernel
theorem dd_DE_treeBlocks_7 : decode bb_DE_treeBlocks 7 = .ok (.iload_n 0, 1) := by decide +kernel
theorem dd_DE_treeBlocks_8 : decode bb_DE_treeBlocks 8 = .ok (.iconst 4, 1) := by decide +kernel
theorem dd_DE_treeBlocks_9 : decode bb_DE_treeBlocks 9 = .ok (.iadd, 1) := by decide +kernel
theorem dd_DE_treeBlocks_10 : decode bb_DE_treeBlocks 10 = .ok (.iconst 1, 1) := by decide +kernel
theorem dd_DE_treeBlocks_11 : decode bb_DE_treeBlocks 11 = .ok (.isub, 1) := by decide +kernel
theorem dd_DE_treeBlocks_12 : decode bb_DE_treeBlocks 12 = .ok (.iconst 4, 1) := by decide +kernel
theorem dd_DE_treeBlocks_13 : decode bb_DE_treeBlocks 13 = .ok (.idiv, 1) := by decide +kernel
theorem dd_DE_treeBlocks_14 : decode bb_DE_treeBlocks 14 = .ok (.ireturn, 1) := by decide +kernel
set_option maxRecDepth 4000 in
theorem cc_DE_treeBlocks (l : Launch) (D : va_G) (g : Nat → ClassId) (e : Nat) (he : e < 1000) : ww_ct l D g yy_DE_treeBlocks bb_DE_treeBlocks 1 (some .int) (ww_rm 1) [.int (nI e)] [] (some (.int (nI (px_tree e)))) [] := by
  refine ww_start (by decide +kernel) rfl rfl (Nat.le_of_ble_eq_true rfl) (L0 := [(0, .int (nI e))]) rfl ?_
  intro X O hl hD hg hR hn F
  subst hl hD hg
  refine ww_iload_n O dd_DE_treeBlocks_0 0 rfl ?_
  refine ww_iconst O dd_DE_treeBlocks_1 (v := nI 3) rfl ?_
  refine ww_icmp_gtN O dd_DE_treeBlocks_2 (tgt := 7) rfl (by omega) (by omega) (fun h2 => ?_) (fun h2 => ?_)
  · refine ww_iload_n O dd_DE_treeBlocks_7 0 rfl ?_
    refine ww_iconst O dd_DE_treeBlocks_8 (v := nI 4) rfl ?_
    refine ww_iadd O dd_DE_treeBlocks_9 (v := nI (e + 4)) (nI_add _ _) ?_
    refine ww_iconst O dd_DE_treeBlocks_10 (v := nI 1) rfl ?_
    refine ww_isub O dd_DE_treeBlocks_11 (v := nI ((e + 4) - 1)) (pk_sub (by omega)) ?_
    refine ww_iconst O dd_DE_treeBlocks_12 (v := nI 4) rfl ?_
    refine ww_idiv O dd_DE_treeBlocks_13 (by decide) (v := nI (((e + 4) - 1) / 4)) (pk_div (by omega) (by decide) (by decide)) ?_
    rw [show px_tree e = (((e + 4) - 1) / 4) from by unfold px_tree; rw [if_neg (by omega)]; omega] at F
    exact F.i dd_DE_treeBlocks_14
  · refine ww_iconst O dd_DE_treeBlocks_5 (v := nI 0) rfl ?_
    rw [show px_tree e = 0 from by unfold px_tree; rw [if_pos (by omega)]] at F
    exact F.i dd_DE_treeBlocks_6
set_option maxRecDepth 4000 in
theorem cc_BF_size (l : Launch) (D : va_G) (g : Nat → ClassId) (h : Nat) (v : Nat) (fo : Nat) (ap : Nat) (aw : Nat) (ag : Nat) (av : Nat) (an : Nat) (vo : Nat) (vv : Nat) (sz : Int32) (pl : Nat → Int32) (wr : Nat → Int32) (pg : Nat → Int32) (pv : Nat → Int32) (nt : Nat → Int32) (ow : Nat → Int32) (vl : Nat → Int32)  : ww_ct l D g yy_BF_size bb_BF_size 1 (some .int) (ww_rm 1) [.ref h] [(h, .inr (0, [.ref v, .int (nI fo), .ref ap, .ref aw, .ref ag, .ref av, .ref an, .int sz])), (ap, .inl (g 0, 60, .inl pl)), (aw, .inl (g 1, 60, .inl wr)), (ag, .inl (g 1, 60, .inl pg)), (av, .inl (g 0, 60, .inl pv)), (an, .inl (g 1, 60, .inl nt)), (v, .inr (1, [.ref vo, .ref vv])), (vo, .inl (g 0, 80, .inl ow)), (vv, .inl (g 0, 80, .inl vl))] (some (.int sz)) [(h, .inr (0, [.ref v, .int (nI fo), .ref ap, .ref aw, .ref ag, .ref av, .ref an, .int sz])), (ap, .inl (g 0, 60, .inl pl)), (aw, .inl (g 1, 60, .inl wr)), (ag, .inl (g 1, 60, .inl pg)), (av, .inl (g 0, 60, .inl pv)), (an, .inl (g 1, 60, .inl nt)), (v, .inr (1, [.ref vo, .ref vv])), (vo, .inl (g 0, 80, .inl ow)), (vv, .inl (g 0, 80, .inl vl))] := by
  refine ww_start (by decide +kernel) rfl rfl (Nat.le_of_ble_eq_true rfl) (L0 := [(0, .ref h)]) rfl ?_
  intro X O hl hD hg hR hn F
  subst hl hD hg
  refine ww_aload_n O dd_BF_size_0 0 rfl ?_
  refine ww_get O ci_BF rfl 7 (by decide) lf_BF_28 rfl dd_BF_size_1 0 rfl rfl ?_
  exact F.i dd_BF_size_4
set_option maxRecDepth 4000 in
theorem cc_BF_setSize (l : Launch) (D : va_G) (g : Nat → ClassId) (h : Nat) (v : Nat) (fo : Nat) (ap : Nat) (aw : Nat) (ag : Nat) (av : Nat) (an : Nat) (vo : Nat) (vv : Nat) (sz : Int32) (pl : Nat → Int32) (wr : Nat → Int32) (pg : Nat → Int32) (pv : Nat → Int32) (nt : Nat → Int32) (ow : Nat → Int32) (vl : Nat → Int32) (x : Int32)  : ww_ct l D g yy_BF_setSize bb_BF_setSize 2 none (ww_rm 1) [.ref h, .int x] [(h, .inr (0, [.ref v, .int (nI fo), .ref ap, .ref aw, .ref ag, .ref av, .ref an, .int sz])), (ap, .inl (g 0, 60, .inl pl)), (aw, .inl (g 1, 60, .inl wr)), (ag, .inl (g 1, 60, .inl pg)), (av, .inl (g 0, 60, .inl pv)), (an, .inl (g 1, 60, .inl nt)), (v, .inr (1, [.ref vo, .ref vv])), (vo, .inl (g 0, 80, .inl ow)), (vv, .inl (g 0, 80, .inl vl))] none [(h, .inr (0, [.ref v, .int (nI fo), .ref ap, .ref aw, .ref ag, .ref av, .ref an, .int x])), (ap, .inl (g 0, 60, .inl pl)), (aw, .inl (g 1, 60, .inl wr)), (ag, .inl (g 1, 60, .inl pg)), (av, .inl (g 0, 60, .inl pv)), (an, .inl (g 1, 60, .inl nt)), (v, .inr (1, [.ref vo, .ref vv])), (vo, .inl (g 0, 80, .inl ow)), (vv, .inl (g 0, 80, .inl vl))] := by
  refine ww_start (by decide +kernel) rfl trivial (Nat.le_of_ble_eq_true rfl) (L0 := [(0, .ref h), (1, .int x)]) rfl ?_
  intro X O hl hD hg hR hn F
  subst hl hD hg
  refine ww_aload_n O dd_BF_setSize_0 0 rfl ?_
  refine ww_iload_n O dd_BF_setSize_1 1 rfl ?_
  refine ww_put O ci_BF cy_BF cy_BF_ok cn_BF rfl 7 (by decide) lf_BF_28 rfl rfl (ty := .int) (by decide +kernel) dd_BF_setSize_2 0 rfl rfl rfl (Nat.le_of_ble_eq_true rfl) (ws' := [(h, .inr (0, [.ref v, .int (nI fo), .ref ap, .ref aw, .ref ag, .ref av, .ref an, .int x])), (ap, .inl (ww_g X 0, 60, .inl pl)), (aw, .inl (ww_g X 1, 60, .inl wr)), (ag, .inl (ww_g X 1, 60, .inl pg)), (av, .inl (ww_g X 0, 60, .inl pv)), (an, .inl (ww_g X 1, 60, .inl nt)), (v, .inr (1, [.ref vo, .ref vv])), (vo, .inl (ww_g X 0, 80, .inl ow)), (vv, .inl (ww_g X 0, 80, .inl vl))]) rfl ?_
  exact F.v dd_BF_setSize_5
set_option maxRecDepth 4000 in
theorem cc_BF_growTo (l : Launch) (D : va_G) (g : Nat → ClassId) (h : Nat) (v : Nat) (fo : Nat) (ap : Nat) (aw : Nat) (ag : Nat) (av : Nat) (an : Nat) (vo : Nat) (vv : Nat) (sz : Int32) (pl : Nat → Int32) (wr : Nat → Int32) (pg : Nat → Int32) (pv : Nat → Int32) (nt : Nat → Int32) (ow : Nat → Int32) (vl : Nat → Int32) (x : Int32)  : ww_ct l D g yy_BF_growTo bb_BF_growTo 2 none (ww_rm 1) [.ref h, .int x] [(h, .inr (0, [.ref v, .int (nI fo), .ref ap, .ref aw, .ref ag, .ref av, .ref an, .int sz])), (ap, .inl (g 0, 60, .inl pl)), (aw, .inl (g 1, 60, .inl wr)), (ag, .inl (g 1, 60, .inl pg)), (av, .inl (g 0, 60, .inl pv)), (an, .inl (g 1, 60, .inl nt)), (v, .inr (1, [.ref vo, .ref vv])), (vo, .inl (g 0, 80, .inl ow)), (vv, .inl (g 0, 80, .inl vl))] none [(h, .inr (0, [.ref v, .int (nI fo), .ref ap, .ref aw, .ref ag, .ref av, .ref an, .int (if sz < x then x else sz)])), (ap, .inl (g 0, 60, .inl pl)), (aw, .inl (g 1, 60, .inl wr)), (ag, .inl (g 1, 60, .inl pg)), (av, .inl (g 0, 60, .inl pv)), (an, .inl (g 1, 60, .inl nt)), (v, .inr (1, [.ref vo, .ref vv])), (vo, .inl (g 0, 80, .inl ow)), (vv, .inl (g 0, 80, .inl vl))] := by
  refine ww_start (by decide +kernel) rfl trivial (Nat.le_of_ble_eq_true rfl) (L0 := [(0, .ref h), (1, .int x)]) rfl ?_
  intro X O hl hD hg hR hn F
  subst hl hD hg
  refine ww_aload_n O dd_BF_growTo_0 0 rfl ?_
  refine ww_aload_n O dd_BF_growTo_1 0 rfl ?_
  refine ww_get O ci_BF rfl 7 (by decide) lf_BF_28 rfl dd_BF_growTo_2 0 rfl rfl ?_
  refine ww_iload_n O dd_BF_growTo_5 1 rfl ?_
  refine ww_max O lm_BF_45 lk_Math_max (by rw [hR]; decide) (by rw [hR]; exact Nat.le_of_ble_eq_true rfl) (by rw [hR]; decide) (by rw [hR]; decide) dd_BF_growTo_6 (v := if sz < x then x else sz) rfl ?_
  refine ww_put O ci_BF cy_BF cy_BF_ok cn_BF rfl 7 (by decide) lf_BF_28 rfl rfl (ty := .int) (by decide +kernel) dd_BF_growTo_9 0 rfl rfl rfl (Nat.le_of_ble_eq_true rfl) (ws' := [(h, .inr (0, [.ref v, .int (nI fo), .ref ap, .ref aw, .ref ag, .ref av, .ref an, .int (if sz < x then x else sz)])), (ap, .inl (ww_g X 0, 60, .inl pl)), (aw, .inl (ww_g X 1, 60, .inl wr)), (ag, .inl (ww_g X 1, 60, .inl pg)), (av, .inl (ww_g X 0, 60, .inl pv)), (an, .inl (ww_g X 1, 60, .inl nt)), (v, .inr (1, [.ref vo, .ref vv])), (vo, .inl (ww_g X 0, 80, .inl ow)), (vv, .inl (ww_g X 0, 80, .inl vl))]) rfl ?_
  exact F.v dd_BF_growTo_12
set_option maxRecDepth 4000 in
theorem cc_BF_placeOf (l : Launch) (D : va_G) (g : Nat → ClassId) (h : Nat) (v : Nat) (fo : Nat) (ap : Nat) (aw : Nat) (ag : Nat) (av : Nat) (an : Nat) (vo : Nat) (vv : Nat) (sz : Int32) (pl : Nat → Int32) (wr : Nat → Int32) (pg : Nat → Int32) (pv : Nat → Int32) (nt : Nat → Int32) (ow : Nat → Int32) (vl : Nat → Int32) (b : Nat) (hb : b < 60) : ww_ct l D g yy_BF_placeOf bb_BF_placeOf 2 (some .int) (ww_rm 1) [.ref h, .int (nI b)] [(h, .inr (0, [.ref v, .int (nI fo), .ref ap, .ref aw, .ref ag, .ref av, .ref an, .int sz])), (ap, .inl (g 0, 60, .inl pl)), (aw, .inl (g 1, 60, .inl wr)), (ag, .inl (g 1, 60, .inl pg)), (av, .inl (g 0, 60, .inl pv)), (an, .inl (g 1, 60, .inl nt)), (v, .inr (1, [.ref vo, .ref vv])), (vo, .inl (g 0, 80, .inl ow)), (vv, .inl (g 0, 80, .inl vl))] (some (.int (pl b))) [(h, .inr (0, [.ref v, .int (nI fo), .ref ap, .ref aw, .ref ag, .ref av, .ref an, .int sz])), (ap, .inl (g 0, 60, .inl pl)), (aw, .inl (g 1, 60, .inl wr)), (ag, .inl (g 1, 60, .inl pg)), (av, .inl (g 0, 60, .inl pv)), (an, .inl (g 1, 60, .inl nt)), (v, .inr (1, [.ref vo, .ref vv])), (vo, .inl (g 0, 80, .inl ow)), (vv, .inl (g 0, 80, .inl vl))] := by
  refine ww_start (by decide +kernel) rfl rfl (Nat.le_of_ble_eq_true rfl) (L0 := [(0, .ref h), (1, .int (nI b))]) rfl ?_
  intro X O hl hD hg hR hn F
  subst hl hD hg
  refine ww_aload_n O dd_BF_placeOf_0 0 rfl ?_
  refine ww_get O ci_BF rfl 2 (by decide) lf_BF_9 rfl dd_BF_placeOf_1 0 rfl rfl ?_
  refine ww_iload_n O dd_BF_placeOf_4 1 rfl ?_
  refine ww_iald O dd_BF_placeOf_5 1 rfl (by omega) (by decide) rfl ?_
  exact F.i dd_BF_placeOf_6
set_option maxRecDepth 4000 in
theorem cc_BF_isWritten (l : Launch) (D : va_G) (g : Nat → ClassId) (h : Nat) (v : Nat) (fo : Nat) (ap : Nat) (aw : Nat) (ag : Nat) (av : Nat) (an : Nat) (vo : Nat) (vv : Nat) (sz : Int32) (pl : Nat → Int32) (wr : Nat → Int32) (pg : Nat → Int32) (pv : Nat → Int32) (nt : Nat → Int32) (ow : Nat → Int32) (vl : Nat → Int32) (b : Nat) (hb : b < 60) (hz : narrow .boolean (.int (wr b)) = .int (wr b)) : ww_ct l D g yy_BF_isWritten bb_BF_isWritten 2 (some .boolean) (ww_rm 1) [.ref h, .int (nI b)] [(h, .inr (0, [.ref v, .int (nI fo), .ref ap, .ref aw, .ref ag, .ref av, .ref an, .int sz])), (ap, .inl (g 0, 60, .inl pl)), (aw, .inl (g 1, 60, .inl wr)), (ag, .inl (g 1, 60, .inl pg)), (av, .inl (g 0, 60, .inl pv)), (an, .inl (g 1, 60, .inl nt)), (v, .inr (1, [.ref vo, .ref vv])), (vo, .inl (g 0, 80, .inl ow)), (vv, .inl (g 0, 80, .inl vl))] (some (.int (wr b))) [(h, .inr (0, [.ref v, .int (nI fo), .ref ap, .ref aw, .ref ag, .ref av, .ref an, .int sz])), (ap, .inl (g 0, 60, .inl pl)), (aw, .inl (g 1, 60, .inl wr)), (ag, .inl (g 1, 60, .inl pg)), (av, .inl (g 0, 60, .inl pv)), (an, .inl (g 1, 60, .inl nt)), (v, .inr (1, [.ref vo, .ref vv])), (vo, .inl (g 0, 80, .inl ow)), (vv, .inl (g 0, 80, .inl vl))] := by
  refine ww_start (by decide +kernel) rfl hz (Nat.le_of_ble_eq_true rfl) (L0 := [(0, .ref h), (1, .int (nI b))]) rfl ?_
  intro X O hl hD hg hR hn F
  subst hl hD hg
  refine ww_aload_n O dd_BF_isWritten_0 0 rfl ?_
  refine ww_get O ci_BF rfl 3 (by decide) lf_BF_15 rfl dd_BF_isWritten_1 0 rfl rfl ?_
  refine ww_iload_n O dd_BF_isWritten_4 1 rfl ?_
  refine ww_zald O dd_BF_isWritten_5 2 rfl (by omega) (by decide) rfl ?_
  exact F.i dd_BF_isWritten_6
set_option maxRecDepth 4000 in
theorem cc_BF_hasPage (l : Launch) (D : va_G) (g : Nat → ClassId) (h : Nat) (v : Nat) (fo : Nat) (ap : Nat) (aw : Nat) (ag : Nat) (av : Nat) (an : Nat) (vo : Nat) (vv : Nat) (sz : Int32) (pl : Nat → Int32) (wr : Nat → Int32) (pg : Nat → Int32) (pv : Nat → Int32) (nt : Nat → Int32) (ow : Nat → Int32) (vl : Nat → Int32) (b : Nat) (hb : b < 60) (hz : narrow .boolean (.int (pg b)) = .int (pg b)) : ww_ct l D g yy_BF_hasPage bb_BF_hasPage 2 (some .boolean) (ww_rm 1) [.ref h, .int (nI b)] [(h, .inr (0, [.ref v, .int (nI fo), .ref ap, .ref aw, .ref ag, .ref av, .ref an, .int sz])), (ap, .inl (g 0, 60, .inl pl)), (aw, .inl (g 1, 60, .inl wr)), (ag, .inl (g 1, 60, .inl pg)), (av, .inl (g 0, 60, .inl pv)), (an, .inl (g 1, 60, .inl nt)), (v, .inr (1, [.ref vo, .ref vv])), (vo, .inl (g 0, 80, .inl ow)), (vv, .inl (g 0, 80, .inl vl))] (some (.int (pg b))) [(h, .inr (0, [.ref v, .int (nI fo), .ref ap, .ref aw, .ref ag, .ref av, .ref an, .int sz])), (ap, .inl (g 0, 60, .inl pl)), (aw, .inl (g 1, 60, .inl wr)), (ag, .inl (g 1, 60, .inl pg)), (av, .inl (g 0, 60, .inl pv)), (an, .inl (g 1, 60, .inl nt)), (v, .inr (1, [.ref vo, .ref vv])), (vo, .inl (g 0, 80, .inl ow)), (vv, .inl (g 0, 80, .inl vl))] := by
  refine ww_start (by decide +kernel) rfl hz (Nat.le_of_ble_eq_true rfl) (L0 := [(0, .ref h), (1, .int (nI b))]) rfl ?_
  intro X O hl hD hg hR hn F
  subst hl hD hg
  refine ww_aload_n O dd_BF_hasPage_0 0 rfl ?_
  refine ww_get O ci_BF rfl 4 (by decide) lf_BF_19 rfl dd_BF_hasPage_1 0 rfl rfl ?_
  refine ww_iload_n O dd_BF_hasPage_4 1 rfl ?_
  refine ww_zald O dd_BF_hasPage_5 3 rfl (by omega) (by decide) rfl ?_
  exact F.i dd_BF_hasPage_6
set_option maxRecDepth 4000 in
theorem cc_BF_isHole (l : Launch) (D : va_G) (g : Nat → ClassId) (h : Nat) (v : Nat) (fo : Nat) (ap : Nat) (aw : Nat) (ag : Nat) (av : Nat) (an : Nat) (vo : Nat) (vv : Nat) (sz : Int32) (pl : Nat → Int32) (wr : Nat → Int32) (pg : Nat → Int32) (pv : Nat → Int32) (nt : Nat → Int32) (ow : Nat → Int32) (vl : Nat → Int32) (b : Nat) (hb : b < 60) : ww_ct l D g yy_BF_isHole bb_BF_isHole 2 (some .boolean) (ww_rm 1) [.ref h, .int (nI b)] [(h, .inr (0, [.ref v, .int (nI fo), .ref ap, .ref aw, .ref ag, .ref av, .ref an, .int sz])), (ap, .inl (g 0, 60, .inl pl)), (aw, .inl (g 1, 60, .inl wr)), (ag, .inl (g 1, 60, .inl pg)), (av, .inl (g 0, 60, .inl pv)), (an, .inl (g 1, 60, .inl nt)), (v, .inr (1, [.ref vo, .ref vv])), (vo, .inl (g 0, 80, .inl ow)), (vv, .inl (g 0, 80, .inl vl))] (some (.int (px_b (px_hole pl b)))) [(h, .inr (0, [.ref v, .int (nI fo), .ref ap, .ref aw, .ref ag, .ref av, .ref an, .int sz])), (ap, .inl (g 0, 60, .inl pl)), (aw, .inl (g 1, 60, .inl wr)), (ag, .inl (g 1, 60, .inl pg)), (av, .inl (g 0, 60, .inl pv)), (an, .inl (g 1, 60, .inl nt)), (v, .inr (1, [.ref vo, .ref vv])), (vo, .inl (g 0, 80, .inl ow)), (vv, .inl (g 0, 80, .inl vl))] := by
  refine ww_start (by decide +kernel) rfl (px_b_nar _) (Nat.le_of_ble_eq_true rfl) (L0 := [(0, .ref h), (1, .int (nI b))]) rfl ?_
  intro X O hl hD hg hR hn F
  subst hl hD hg
  refine ww_aload_n O dd_BF_isHole_0 0 rfl ?_
  refine ww_get O ci_BF rfl 2 (by decide) lf_BF_9 rfl dd_BF_isHole_1 0 rfl rfl ?_
  refine ww_iload_n O dd_BF_isHole_4 1 rfl ?_
  refine ww_iald O dd_BF_isHole_5 1 rfl (by omega) (by decide) rfl ?_
  refine ww_iconst O dd_BF_isHole_6 (v := (-1)) rfl ?_
  refine ww_icmp_ne O dd_BF_isHole_7 (tgt := 14) rfl (fun h7 => ?_) (fun h7 => ?_)
  · refine ww_iconst O dd_BF_isHole_14 (v := nI 0) rfl ?_
    rw [show px_hole pl b = false from by simp [px_hole, h7], px_b_f] at F
    exact F.i dd_BF_isHole_15
  · refine ww_iconst O dd_BF_isHole_10 (v := nI 1) rfl ?_
    refine ww_goto O dd_BF_isHole_11 (tgt := 15) rfl ?_
    rw [show px_hole pl b = true from by simp [px_hole, h7], px_b_t] at F
    exact F.i dd_BF_isHole_15
set_option maxRecDepth 4000 in
theorem cc_BF_putPage (l : Launch) (D : va_G) (g : Nat → ClassId) (h : Nat) (v : Nat) (fo : Nat) (ap : Nat) (aw : Nat) (ag : Nat) (av : Nat) (an : Nat) (vo : Nat) (vv : Nat) (sz : Int32) (pl : Nat → Int32) (wr : Nat → Int32) (pg : Nat → Int32) (pv : Nat → Int32) (nt : Nat → Int32) (ow : Nat → Int32) (vl : Nat → Int32) (b : Nat) (x : Int32) (hb : b < 60) : ww_ct l D g yy_BF_putPage bb_BF_putPage 3 none (ww_rm 1) [.ref h, .int (nI b), .int x] [(h, .inr (0, [.ref v, .int (nI fo), .ref ap, .ref aw, .ref ag, .ref av, .ref an, .int sz])), (ap, .inl (g 0, 60, .inl pl)), (aw, .inl (g 1, 60, .inl wr)), (ag, .inl (g 1, 60, .inl pg)), (av, .inl (g 0, 60, .inl pv)), (an, .inl (g 1, 60, .inl nt)), (v, .inr (1, [.ref vo, .ref vv])), (vo, .inl (g 0, 80, .inl ow)), (vv, .inl (g 0, 80, .inl vl))] none [(h, .inr (0, [.ref v, .int (nI fo), .ref ap, .ref aw, .ref ag, .ref av, .ref an, .int sz])), (ap, .inl (g 0, 60, .inl pl)), (aw, .inl (g 1, 60, .inl wr)), (ag, .inl (g 1, 60, .inl (upd pg b (nI 1)))), (av, .inl (g 0, 60, .inl (upd pv b x))), (an, .inl (g 1, 60, .inl nt)), (v, .inr (1, [.ref vo, .ref vv])), (vo, .inl (g 0, 80, .inl ow)), (vv, .inl (g 0, 80, .inl vl))] := by
  refine ww_start (by decide +kernel) rfl trivial (Nat.le_of_ble_eq_true rfl) (L0 := [(0, .ref h), (1, .int (nI b)), (2, .int x)]) rfl ?_
  intro X O hl hD hg hR hn F
  subst hl hD hg
  refine ww_aload_n O dd_BF_putPage_0 0 rfl ?_
  refine ww_get O ci_BF rfl 4 (by decide) lf_BF_19 rfl dd_BF_putPage_1 0 rfl rfl ?_
  refine ww_iload_n O dd_BF_putPage_4 1 rfl ?_
  refine ww_iconst O dd_BF_putPage_5 (v := nI 1) rfl ?_
  refine ww_zast O dd_BF_putPage_6 3 rfl (by omega) (by decide) rfl (ws' := [(h, .inr (0, [.ref v, .int (nI fo), .ref ap, .ref aw, .ref ag, .ref av, .ref an, .int sz])), (ap, .inl (ww_g X 0, 60, .inl pl)), (aw, .inl (ww_g X 1, 60, .inl wr)), (ag, .inl (ww_g X 1, 60, .inl (upd pg b (nI 1)))), (av, .inl (ww_g X 0, 60, .inl pv)), (an, .inl (ww_g X 1, 60, .inl nt)), (v, .inr (1, [.ref vo, .ref vv])), (vo, .inl (ww_g X 0, 80, .inl ow)), (vv, .inl (ww_g X 0, 80, .inl vl))]) rfl ?_
  refine ww_aload_n O dd_BF_putPage_7 0 rfl ?_
  refine ww_get O ci_BF rfl 5 (by decide) lf_BF_22 rfl dd_BF_putPage_8 0 rfl rfl ?_
  refine ww_iload_n O dd_BF_putPage_11 1 rfl ?_
  refine ww_iload_n O dd_BF_putPage_12 2 rfl ?_
  refine ww_iast O dd_BF_putPage_13 4 rfl (by omega) (by decide) (ws' := [(h, .inr (0, [.ref v, .int (nI fo), .ref ap, .ref aw, .ref ag, .ref av, .ref an, .int sz])), (ap, .inl (ww_g X 0, 60, .inl pl)), (aw, .inl (ww_g X 1, 60, .inl wr)), (ag, .inl (ww_g X 1, 60, .inl (upd pg b (nI 1)))), (av, .inl (ww_g X 0, 60, .inl (upd pv b x))), (an, .inl (ww_g X 1, 60, .inl nt)), (v, .inr (1, [.ref vo, .ref vv])), (vo, .inl (ww_g X 0, 80, .inl ow)), (vv, .inl (ww_g X 0, 80, .inl vl))]) rfl ?_
  exact F.v dd_BF_putPage_14
set_option maxRecDepth 4000 in
theorem cc_BF_dropPage (l : Launch) (D : va_G) (g : Nat → ClassId) (h : Nat) (v : Nat) (fo : Nat) (ap : Nat) (aw : Nat) (ag : Nat) (av : Nat) (an : Nat) (vo : Nat) (vv : Nat) (sz : Int32) (pl : Nat → Int32) (wr : Nat → Int32) (pg : Nat → Int32) (pv : Nat → Int32) (nt : Nat → Int32) (ow : Nat → Int32) (vl : Nat → Int32) (b : Nat) (hb : b < 60) : ww_ct l D g yy_BF_dropPage bb_BF_dropPage 2 none (ww_rm 1) [.ref h, .int (nI b)] [(h, .inr (0, [.ref v, .int (nI fo), .ref ap, .ref aw, .ref ag, .ref av, .ref an, .int sz])), (ap, .inl (g 0, 60, .inl pl)), (aw, .inl (g 1, 60, .inl wr)), (ag, .inl (g 1, 60, .inl pg)), (av, .inl (g 0, 60, .inl pv)), (an, .inl (g 1, 60, .inl nt)), (v, .inr (1, [.ref vo, .ref vv])), (vo, .inl (g 0, 80, .inl ow)), (vv, .inl (g 0, 80, .inl vl))] none [(h, .inr (0, [.ref v, .int (nI fo), .ref ap, .ref aw, .ref ag, .ref av, .ref an, .int sz])), (ap, .inl (g 0, 60, .inl pl)), (aw, .inl (g 1, 60, .inl wr)), (ag, .inl (g 1, 60, .inl (upd pg b (nI 0)))), (av, .inl (g 0, 60, .inl pv)), (an, .inl (g 1, 60, .inl nt)), (v, .inr (1, [.ref vo, .ref vv])), (vo, .inl (g 0, 80, .inl ow)), (vv, .inl (g 0, 80, .inl vl))] := by
  refine ww_start (by decide +kernel) rfl trivial (Nat.le_of_ble_eq_true rfl) (L0 := [(0, .ref h), (1, .int (nI b))]) rfl ?_
  intro X O hl hD hg hR hn F
  subst hl hD hg
  refine ww_aload_n O dd_BF_dropPage_0 0 rfl ?_
  refine ww_get O ci_BF rfl 4 (by decide) lf_BF_19 rfl dd_BF_dropPage_1 0 rfl rfl ?_
  refine ww_iload_n O dd_BF_dropPage_4 1 rfl ?_
  refine ww_iconst O dd_BF_dropPage_5 (v := nI 0) rfl ?_
  refine ww_zast O dd_BF_dropPage_6 3 rfl (by omega) (by decide) rfl (ws' := [(h, .inr (0, [.ref v, .int (nI fo), .ref ap, .ref aw, .ref ag, .ref av, .ref an, .int sz])), (ap, .inl (ww_g X 0, 60, .inl pl)), (aw, .inl (ww_g X 1, 60, .inl wr)), (ag, .inl (ww_g X 1, 60, .inl (upd pg b (nI 0)))), (av, .inl (ww_g X 0, 60, .inl pv)), (an, .inl (ww_g X 1, 60, .inl nt)), (v, .inr (1, [.ref vo, .ref vv])), (vo, .inl (ww_g X 0, 80, .inl ow)), (vv, .inl (ww_g X 0, 80, .inl vl))]) rfl ?_
  exact F.v dd_BF_dropPage_7
set_option maxRecDepth 4000 in
theorem cc_BF_dropPages (l : Launch) (D : va_G) (g : Nat → ClassId) (h : Nat) (v : Nat) (fo : Nat) (ap : Nat) (aw : Nat) (ag : Nat) (av : Nat) (an : Nat) (vo : Nat) (vv : Nat) (sz : Int32) (pl : Nat → Int32) (wr : Nat → Int32) (pg : Nat → Int32) (pv : Nat → Int32) (nt : Nat → Int32) (ow : Nat → Int32) (vl : Nat → Int32)  : ww_ct l D g yy_BF_dropPages bb_BF_dropPages 2 none (ww_rm 2) [.ref h] [(h, .inr (0, [.ref v, .int (nI fo), .ref ap, .ref aw, .ref ag, .ref av, .ref an, .int sz])), (ap, .inl (g 0, 60, .inl pl)), (aw, .inl (g 1, 60, .inl wr)), (ag, .inl (g 1, 60, .inl pg)), (av, .inl (g 0, 60, .inl pv)), (an, .inl (g 1, 60, .inl nt)), (v, .inr (1, [.ref vo, .ref vv])), (vo, .inl (g 0, 80, .inl ow)), (vv, .inl (g 0, 80, .inl vl))] none [(h, .inr (0, [.ref v, .int (nI fo), .ref ap, .ref aw, .ref ag, .ref av, .ref an, .int sz])), (ap, .inl (g 0, 60, .inl pl)), (aw, .inl (g 1, 60, .inl wr)), (ag, .inl (g 1, 60, .inl (px_fill pg 0 60 (nI 0)))), (av, .inl (g 0, 60, .inl pv)), (an, .inl (g 1, 60, .inl nt)), (v, .inr (1, [.ref vo, .ref vv])), (vo, .inl (g 0, 80, .inl ow)), (vv, .inl (g 0, 80, .inl vl))] := by
  refine ww_start (by decide +kernel) rfl trivial (Nat.le_of_ble_eq_true rfl) (L0 := [(0, .ref h)]) rfl ?_
  intro X O hl hD hg hR hn F
  subst hl hD hg
  have loop : ∀ (k b : Nat), 60 ≤ b + k → b ≤ 60 → ww_at X 0 0 2 [(0, .ref h), (1, .int (nI b))] [] [(h, .inr (0, [.ref v, .int (nI fo), .ref ap, .ref aw, .ref ag, .ref av, .ref an, .int sz])), (ap, .inl (ww_g X 0, 60, .inl pl)), (aw, .inl (ww_g X 1, 60, .inl wr)), (ag, .inl (ww_g X 1, 60, .inl (px_fill pg 0 b (nI 0)))), (av, .inl (ww_g X 0, 60, .inl pv)), (an, .inl (ww_g X 1, 60, .inl nt)), (v, .inr (1, [.ref vo, .ref vv])), (vo, .inl (ww_g X 0, 80, .inl ow)), (vv, .inl (ww_g X 0, 80, .inl vl))] := by
    intro k
    induction k with
    | zero =>
      intro b h1 h2
      refine ww_iload_n O dd_BF_dropPages_2 1 rfl ?_
      refine ww_bipush O dd_BF_dropPages_3 (v := nI 60) rfl ?_
      refine ww_icmp_geN O dd_BF_dropPages_5 (tgt := 19) rfl (by omega) (by omega) (fun h5 => ?_) (fun h5 => ?_)
      · have e : b = 60 := by omega
        subst e
        exact F.v dd_BF_dropPages_19
      · exfalso; omega
    | succ k ih =>
      intro b h1 h2
      refine ww_iload_n O dd_BF_dropPages_2 1 rfl ?_
      refine ww_bipush O dd_BF_dropPages_3 (v := nI 60) rfl ?_
      refine ww_icmp_geN O dd_BF_dropPages_5 (tgt := 19) rfl (by omega) (by omega) (fun h5 => ?_) (fun h5 => ?_)
      · have e : b = 60 := by omega
        subst e
        exact F.v dd_BF_dropPages_19
      · refine ww_aload_n O dd_BF_dropPages_8 0 rfl ?_
        refine ww_iload_n O dd_BF_dropPages_9 1 rfl ?_
        refine ww_callV (q0 := 0) (ci := 0) O (cc_BF_dropPage _ _ _ h v fo ap aw ag av an vo vv sz pl wr (px_fill pg 0 b (nI 0)) pv nt ow vl b (by omega)) lc_BF_51 lx_BF_dropPage_I_V rfl rfl rfl (by rw [hR]; decide) (by rw [hR]; decide) (by rw [hR]; decide) rfl (Nat.le_of_ble_eq_true rfl) dd_BF_dropPages_10 rfl [0, 1, 2, 3, 4, 5, 6, 7, 8] [] [0, 1, 2, 3, 4, 5, 6, 7, 8] rfl (by decide) rfl (by decide) (by decide) (ws' := [(h, .inr (0, [.ref v, .int (nI fo), .ref ap, .ref aw, .ref ag, .ref av, .ref an, .int sz])), (ap, .inl (ww_g X 0, 60, .inl pl)), (aw, .inl (ww_g X 1, 60, .inl wr)), (ag, .inl (ww_g X 1, 60, .inl (upd (px_fill pg 0 b (nI 0)) b (nI 0)))), (av, .inl (ww_g X 0, 60, .inl pv)), (an, .inl (ww_g X 1, 60, .inl nt)), (v, .inr (1, [.ref vo, .ref vv])), (vo, .inl (ww_g X 0, 80, .inl ow)), (vv, .inl (ww_g X 0, 80, .inl vl))]) rfl rfl (by decide) ?_
        refine ww_iinc O dd_BF_dropPages_13 1 rfl (v := nI (b + 1)) (nI_add _ 1) (by rw [hn]; decide) rfl (L' := [(0, .ref h), (1, .int (nI (b + 1)))]) rfl ?_
        refine ww_goto O dd_BF_dropPages_16 (tgt := 2) rfl ?_
        rw [px_fill_s0]
        exact ih (b + 1) (by omega) (by omega)
  have h0 := loop 60 0 (by omega) (by omega)
  rw [px_fill_0] at h0
  refine ww_iconst O dd_BF_dropPages_0 (v := nI 0) rfl ?_
  refine ww_istore_n O dd_BF_dropPages_1 (by rw [hn]; decide) rfl (L' := [(0, .ref h), (1, .int (nI 0))]) rfl ?_
  exact h0
set_option maxRecDepth 4000 in
theorem cc_BF_readsAs (l : Launch) (D : va_G) (g : Nat → ClassId) (h : Nat) (v : Nat) (fo : Nat) (ap : Nat) (aw : Nat) (ag : Nat) (av : Nat) (an : Nat) (vo : Nat) (vv : Nat) (sz : Int32) (pl : Nat → Int32) (wr : Nat → Int32) (pg : Nat → Int32) (pv : Nat → Int32) (nt : Nat → Int32) (ow : Nat → Int32) (vl : Nat → Int32) (b : Nat) (hb : b < 60) (hr : pl b = -1 ∨ ∃ p, p < 80 ∧ pl b = nI p) : ww_ct l D g yy_BF_readsAs bb_BF_readsAs 2 (some .int) (ww_rm 2) [.ref h, .int (nI b)] [(h, .inr (0, [.ref v, .int (nI fo), .ref ap, .ref aw, .ref ag, .ref av, .ref an, .int sz])), (ap, .inl (g 0, 60, .inl pl)), (aw, .inl (g 1, 60, .inl wr)), (ag, .inl (g 1, 60, .inl pg)), (av, .inl (g 0, 60, .inl pv)), (an, .inl (g 1, 60, .inl nt)), (v, .inr (1, [.ref vo, .ref vv])), (vo, .inl (g 0, 80, .inl ow)), (vv, .inl (g 0, 80, .inl vl))] (some (.int (px_read pl wr pg pv vl b))) [(h, .inr (0, [.ref v, .int (nI fo), .ref ap, .ref aw, .ref ag, .ref av, .ref an, .int sz])), (ap, .inl (g 0, 60, .inl pl)), (aw, .inl (g 1, 60, .inl wr)), (ag, .inl (g 1, 60, .inl pg)), (av, .inl (g 0, 60, .inl pv)), (an, .inl (g 1, 60, .inl nt)), (v, .inr (1, [.ref vo, .ref vv])), (vo, .inl (g 0, 80, .inl ow)), (vv, .inl (g 0, 80, .inl vl))] := by
  refine ww_start (by decide +kernel) rfl rfl (Nat.le_of_ble_eq_true rfl) (L0 := [(0, .ref h), (1, .int (nI b))]) rfl ?_
  intro X O hl hD hg hR hn F
  subst hl hD hg
  refine ww_aload_n O dd_BF_readsAs_0 0 rfl ?_
  refine ww_get O ci_BF rfl 4 (by decide) lf_BF_19 rfl dd_BF_readsAs_1 0 rfl rfl ?_
  refine ww_iload_n O dd_BF_readsAs_4 1 rfl ?_
  refine ww_zald O dd_BF_readsAs_5 3 rfl (by omega) (by decide) rfl ?_
  refine ww_if_eq O dd_BF_readsAs_6 (tgt := 16) rfl (fun h6 => ?_) (fun h6 => ?_)
  · refine ww_aload_n O dd_BF_readsAs_16 0 rfl ?_
    refine ww_iload_n O dd_BF_readsAs_17 1 rfl ?_
    refine ww_callV (q0 := 0) (ci := 0) O (cc_BF_isHole _ _ _ h v fo ap aw ag av an vo vv sz pl wr pg pv nt ow vl b (by omega)) lc_BF_55 lx_BF_isHole_I_Z rfl rfl rfl (by rw [hR]; decide) (by rw [hR]; decide) (by rw [hR]; decide) rfl (Nat.le_of_ble_eq_true rfl) dd_BF_readsAs_18 rfl [0, 1, 2, 3, 4, 5, 6, 7, 8] [] [0, 1, 2, 3, 4, 5, 6, 7, 8] rfl (by decide) rfl (by decide) (by decide) (ws' := [(h, .inr (0, [.ref v, .int (nI fo), .ref ap, .ref aw, .ref ag, .ref av, .ref an, .int sz])), (ap, .inl (ww_g X 0, 60, .inl pl)), (aw, .inl (ww_g X 1, 60, .inl wr)), (ag, .inl (ww_g X 1, 60, .inl pg)), (av, .inl (ww_g X 0, 60, .inl pv)), (an, .inl (ww_g X 1, 60, .inl nt)), (v, .inr (1, [.ref vo, .ref vv])), (vo, .inl (ww_g X 0, 80, .inl ow)), (vv, .inl (ww_g X 0, 80, .inl vl))]) rfl rfl (by decide) ?_
    refine ww_if_neB O dd_BF_readsAs_21 (tgt := 33) rfl (fun h21 => ?_) (fun h21 => ?_)
    · refine ww_iconst O dd_BF_readsAs_33 (v := nI 0) rfl ?_
      rw [show px_read pl wr pg pv vl b = nI 0 from by unfold px_read; rw [if_pos h6, if_pos (Or.inl h21)]; rfl] at F
      exact F.i dd_BF_readsAs_34
    · refine ww_aload_n O dd_BF_readsAs_24 0 rfl ?_
      refine ww_get O ci_BF rfl 3 (by decide) lf_BF_15 rfl dd_BF_readsAs_25 0 rfl rfl ?_
      refine ww_iload_n O dd_BF_readsAs_28 1 rfl ?_
      refine ww_zald O dd_BF_readsAs_29 2 rfl (by omega) (by decide) rfl ?_
      refine ww_if_ne O dd_BF_readsAs_30 (tgt := 35) rfl (fun h30 => ?_) (fun h30 => ?_)
      · refine ww_aload_n O dd_BF_readsAs_35 0 rfl ?_
        refine ww_get O ci_BF rfl 0 (by decide) lf_BF_32 rfl dd_BF_readsAs_36 0 rfl rfl ?_
        refine ww_aload_n O dd_BF_readsAs_39 0 rfl ?_
        refine ww_get O ci_BF rfl 2 (by decide) lf_BF_9 rfl dd_BF_readsAs_40 0 rfl rfl ?_
        refine ww_iload_n O dd_BF_readsAs_43 1 rfl ?_
        refine ww_iald O dd_BF_readsAs_44 1 rfl (by omega) (by decide) rfl ?_
        obtain ⟨p, hp, hq⟩ : ∃ p, p < 80 ∧ pl b = nI p := by
          rcases hr with h | h
          · simp [px_hole, h] at h21
          · exact h
        rw [hq]
        refine ww_callV (q0 := 6) (ci := 1) O (cc_VO_valueAt _ _ _ v vo vv ow vl p (by omega)) lc_BF_59 lx_VO_valueAt_I_I rfl rfl rfl (by rw [hR]; decide) (by rw [hR]; decide) (by rw [hR]; decide) rfl (Nat.le_of_ble_eq_true rfl) dd_BF_readsAs_45 rfl [6, 7, 8] [0, 1, 2, 3, 4, 5] [0, 1, 2, 3, 4, 5, 6, 7, 8] rfl (by decide) rfl (by decide) (by decide) (ws' := [(h, .inr (0, [.ref v, .int (nI fo), .ref ap, .ref aw, .ref ag, .ref av, .ref an, .int sz])), (ap, .inl (ww_g X 0, 60, .inl pl)), (aw, .inl (ww_g X 1, 60, .inl wr)), (ag, .inl (ww_g X 1, 60, .inl pg)), (av, .inl (ww_g X 0, 60, .inl pv)), (an, .inl (ww_g X 1, 60, .inl nt)), (v, .inr (1, [.ref vo, .ref vv])), (vo, .inl (ww_g X 0, 80, .inl ow)), (vv, .inl (ww_g X 0, 80, .inl vl))]) rfl rfl (by decide) ?_
        rw [show px_read pl wr pg pv vl b = vl p from by unfold px_read; rw [if_pos h6, if_neg (by simp [h21, h30]), hq, nI_clamp (by omega)]] at F
        exact F.i dd_BF_readsAs_48
      · refine ww_iconst O dd_BF_readsAs_33 (v := nI 0) rfl ?_
        rw [show px_read pl wr pg pv vl b = nI 0 from by unfold px_read; rw [if_pos h6, if_pos (Or.inr h30)]; rfl] at F
        exact F.i dd_BF_readsAs_34
  · refine ww_aload_n O dd_BF_readsAs_9 0 rfl ?_
    refine ww_get O ci_BF rfl 5 (by decide) lf_BF_22 rfl dd_BF_readsAs_10 0 rfl rfl ?_
    refine ww_iload_n O dd_BF_readsAs_13 1 rfl ?_
    refine ww_iald O dd_BF_readsAs_14 4 rfl (by omega) (by decide) rfl ?_
    rw [show px_read pl wr pg pv vl b = pv b from by unfold px_read; rw [if_neg h6]] at F
    exact F.i dd_BF_readsAs_15
set_option maxRecDepth 4000 in
theorem cc_BF_countPages (l : Launch) (D : va_G) (g : Nat → ClassId) (h : Nat) (v : Nat) (fo : Nat) (ap : Nat) (aw : Nat) (ag : Nat) (av : Nat) (an : Nat) (vo : Nat) (vv : Nat) (sz : Int32) (pl : Nat → Int32) (wr : Nat → Int32) (pg : Nat → Int32) (pv : Nat → Int32) (nt : Nat → Int32) (ow : Nat → Int32) (vl : Nat → Int32)  : ww_ct l D g yy_BF_countPages bb_BF_countPages 3 (some .int) (ww_rm 1) [.ref h] [(h, .inr (0, [.ref v, .int (nI fo), .ref ap, .ref aw, .ref ag, .ref av, .ref an, .int sz])), (ap, .inl (g 0, 60, .inl pl)), (aw, .inl (g 1, 60, .inl wr)), (ag, .inl (g 1, 60, .inl pg)), (av, .inl (g 0, 60, .inl pv)), (an, .inl (g 1, 60, .inl nt)), (v, .inr (1, [.ref vo, .ref vv])), (vo, .inl (g 0, 80, .inl ow)), (vv, .inl (g 0, 80, .inl vl))] (some (.int (nI (px_pp pg 0)))) [(h, .inr (0, [.ref v, .int (nI fo), .ref ap, .ref aw, .ref ag, .ref av, .ref an, .int sz])), (ap, .inl (g 0, 60, .inl pl)), (aw, .inl (g 1, 60, .inl wr)), (ag, .inl (g 1, 60, .inl pg)), (av, .inl (g 0, 60, .inl pv)), (an, .inl (g 1, 60, .inl nt)), (v, .inr (1, [.ref vo, .ref vv])), (vo, .inl (g 0, 80, .inl ow)), (vv, .inl (g 0, 80, .inl vl))] := by
  refine ww_start (by decide +kernel) rfl rfl (Nat.le_of_ble_eq_true rfl) (L0 := [(0, .ref h)]) rfl ?_
  intro X O hl hD hg hR hn F
  subst hl hD hg
  have loop : ∀ (k b c : Nat), 60 ≤ b + k → b ≤ 60 → c = px_cnt (px_on pg) 0 b → ww_at X 0 0 4 [(0, .ref h), (1, .int (nI c)), (2, .int (nI b))] [] [(h, .inr (0, [.ref v, .int (nI fo), .ref ap, .ref aw, .ref ag, .ref av, .ref an, .int sz])), (ap, .inl (ww_g X 0, 60, .inl pl)), (aw, .inl (ww_g X 1, 60, .inl wr)), (ag, .inl (ww_g X 1, 60, .inl pg)), (av, .inl (ww_g X 0, 60, .inl pv)), (an, .inl (ww_g X 1, 60, .inl nt)), (v, .inr (1, [.ref vo, .ref vv])), (vo, .inl (ww_g X 0, 80, .inl ow)), (vv, .inl (ww_g X 0, 80, .inl vl))] := by
    intro k
    induction k with
    | zero =>
      intro b c h1 h2 h3
      refine ww_iload_n O dd_BF_countPages_4 2 rfl ?_
      refine ww_bipush O dd_BF_countPages_5 (v := nI 60) rfl ?_
      refine ww_icmp_geN O dd_BF_countPages_7 (tgt := 28) rfl (by omega) (by omega) (fun h7 => ?_) (fun h7 => ?_)
      · refine ww_iload_n O dd_BF_countPages_28 1 rfl ?_
        rw [show px_pp pg 0 = c from by rw [h3, show b = 60 by omega]; rfl] at F
        exact F.i dd_BF_countPages_29
      · exfalso; omega
    | succ k ih =>
      intro b c h1 h2 h3
      refine ww_iload_n O dd_BF_countPages_4 2 rfl ?_
      refine ww_bipush O dd_BF_countPages_5 (v := nI 60) rfl ?_
      refine ww_icmp_geN O dd_BF_countPages_7 (tgt := 28) rfl (by omega) (by omega) (fun h7 => ?_) (fun h7 => ?_)
      · refine ww_iload_n O dd_BF_countPages_28 1 rfl ?_
        rw [show px_pp pg 0 = c from by rw [h3, show b = 60 by omega]; rfl] at F
        exact F.i dd_BF_countPages_29
      · refine ww_aload_n O dd_BF_countPages_10 0 rfl ?_
        refine ww_get O ci_BF rfl 4 (by decide) lf_BF_19 rfl dd_BF_countPages_11 0 rfl rfl ?_
        refine ww_iload_n O dd_BF_countPages_14 2 rfl ?_
        refine ww_zald O dd_BF_countPages_15 3 rfl (by omega) (by decide) rfl ?_
        refine ww_if_eq O dd_BF_countPages_16 (tgt := 22) rfl (fun h16 => ?_) (fun h16 => ?_)
        · refine ww_iinc O dd_BF_countPages_22 2 rfl (v := nI (b + 1)) (nI_add _ 1) (by rw [hn]; decide) rfl (L' := [(0, .ref h), (1, .int (nI c)), (2, .int (nI (b + 1)))]) rfl ?_
          refine ww_goto O dd_BF_countPages_25 (tgt := 4) rfl ?_
          exact ih (b + 1) c (by omega) (by omega) (px_c0f h3 (by simp [px_on, px_hole, h16]))
        · refine ww_iinc O dd_BF_countPages_19 1 rfl (v := nI (c + 1)) (nI_add _ 1) (by rw [hn]; decide) rfl (L' := [(0, .ref h), (1, .int (nI (c + 1))), (2, .int (nI b))]) rfl ?_
          refine ww_iinc O dd_BF_countPages_22 2 rfl (v := nI (b + 1)) (nI_add _ 1) (by rw [hn]; decide) rfl (L' := [(0, .ref h), (1, .int (nI (c + 1))), (2, .int (nI (b + 1)))]) rfl ?_
          refine ww_goto O dd_BF_countPages_25 (tgt := 4) rfl ?_
          exact ih (b + 1) (c + 1) (by omega) (by omega) (px_c0t h3 (by simp [px_on, px_hole, h16]))
  refine ww_iconst O dd_BF_countPages_0 (v := nI 0) rfl ?_
  refine ww_istore_n O dd_BF_countPages_1 (by rw [hn]; decide) rfl (L' := [(0, .ref h), (1, .int (nI 0))]) rfl ?_
  refine ww_iconst O dd_BF_countPages_2 (v := nI 0) rfl ?_
  refine ww_istore_n O dd_BF_countPages_3 (by rw [hn]; decide) rfl (L' := [(0, .ref h), (1, .int (nI 0)), (2, .int (nI 0))]) rfl ?_
  exact loop 60 0 0 (by omega) (by omega) rfl
set_option maxRecDepth 4000 in
theorem cc_BF_countHoles (l : Launch) (D : va_G) (g : Nat → ClassId) (h : Nat) (v : Nat) (fo : Nat) (ap : Nat) (aw : Nat) (ag : Nat) (av : Nat) (an : Nat) (vo : Nat) (vv : Nat) (sz : Int32) (pl : Nat → Int32) (wr : Nat → Int32) (pg : Nat → Int32) (pv : Nat → Int32) (nt : Nat → Int32) (ow : Nat → Int32) (vl : Nat → Int32) (a : Nat) (e : Nat) (ha : a ≤ e) (he : e ≤ 60) : ww_ct l D g yy_BF_countHoles bb_BF_countHoles 5 (some .int) (ww_rm 2) [.ref h, .int (nI a), .int (nI e)] [(h, .inr (0, [.ref v, .int (nI fo), .ref ap, .ref aw, .ref ag, .ref av, .ref an, .int sz])), (ap, .inl (g 0, 60, .inl pl)), (aw, .inl (g 1, 60, .inl wr)), (ag, .inl (g 1, 60, .inl pg)), (av, .inl (g 0, 60, .inl pv)), (an, .inl (g 1, 60, .inl nt)), (v, .inr (1, [.ref vo, .ref vv])), (vo, .inl (g 0, 80, .inl ow)), (vv, .inl (g 0, 80, .inl vl))] (some (.int (nI (px_cnt (px_hole pl) a (e - a))))) [(h, .inr (0, [.ref v, .int (nI fo), .ref ap, .ref aw, .ref ag, .ref av, .ref an, .int sz])), (ap, .inl (g 0, 60, .inl pl)), (aw, .inl (g 1, 60, .inl wr)), (ag, .inl (g 1, 60, .inl pg)), (av, .inl (g 0, 60, .inl pv)), (an, .inl (g 1, 60, .inl nt)), (v, .inr (1, [.ref vo, .ref vv])), (vo, .inl (g 0, 80, .inl ow)), (vv, .inl (g 0, 80, .inl vl))] := by
  refine ww_start (by decide +kernel) rfl rfl (Nat.le_of_ble_eq_true rfl) (L0 := [(0, .ref h), (1, .int (nI a)), (2, .int (nI e))]) rfl ?_
  intro X O hl hD hg hR hn F
  subst hl hD hg
  have loop : ∀ (k b c : Nat), e ≤ b + k → a ≤ b → b ≤ e → c = px_cnt (px_hole pl) a (b - a) → ww_at X 0 0 5 [(0, .ref h), (1, .int (nI a)), (2, .int (nI e)), (3, .int (nI c)), (4, .int (nI b))] [] [(h, .inr (0, [.ref v, .int (nI fo), .ref ap, .ref aw, .ref ag, .ref av, .ref an, .int sz])), (ap, .inl (ww_g X 0, 60, .inl pl)), (aw, .inl (ww_g X 1, 60, .inl wr)), (ag, .inl (ww_g X 1, 60, .inl pg)), (av, .inl (ww_g X 0, 60, .inl pv)), (an, .inl (ww_g X 1, 60, .inl nt)), (v, .inr (1, [.ref vo, .ref vv])), (vo, .inl (ww_g X 0, 80, .inl ow)), (vv, .inl (ww_g X 0, 80, .inl vl))] := by
    intro k
    induction k with
    | zero =>
      intro b c h1 h2 h3 h4
      refine ww_iload O dd_BF_countHoles_5 4 rfl ?_
      refine ww_iload_n O dd_BF_countHoles_7 2 rfl ?_
      refine ww_icmp_geN O dd_BF_countHoles_8 (tgt := 29) rfl (by omega) (by omega) (fun h8 => ?_) (fun h8 => ?_)
      · refine ww_iload_n O dd_BF_countHoles_29 3 rfl ?_
        rw [show px_cnt (px_hole pl) a (e - a) = c from by rw [h4, show b = e by omega]] at F
        exact F.i dd_BF_countHoles_30
      · exfalso; omega
    | succ k ih =>
      intro b c h1 h2 h3 h4
      refine ww_iload O dd_BF_countHoles_5 4 rfl ?_
      refine ww_iload_n O dd_BF_countHoles_7 2 rfl ?_
      refine ww_icmp_geN O dd_BF_countHoles_8 (tgt := 29) rfl (by omega) (by omega) (fun h8 => ?_) (fun h8 => ?_)
      · refine ww_iload_n O dd_BF_countHoles_29 3 rfl ?_
        rw [show px_cnt (px_hole pl) a (e - a) = c from by rw [h4, show b = e by omega]] at F
        exact F.i dd_BF_countHoles_30
      · refine ww_aload_n O dd_BF_countHoles_11 0 rfl ?_
        refine ww_iload O dd_BF_countHoles_12 4 rfl ?_
        refine ww_callV (q0 := 0) (ci := 0) O (cc_BF_isHole _ _ _ h v fo ap aw ag av an vo vv sz pl wr pg pv nt ow vl b (by omega)) lc_BF_55 lx_BF_isHole_I_Z rfl rfl rfl (by rw [hR]; decide) (by rw [hR]; decide) (by rw [hR]; decide) rfl (Nat.le_of_ble_eq_true rfl) dd_BF_countHoles_14 rfl [0, 1, 2, 3, 4, 5, 6, 7, 8] [] [0, 1, 2, 3, 4, 5, 6, 7, 8] rfl (by decide) rfl (by decide) (by decide) (ws' := [(h, .inr (0, [.ref v, .int (nI fo), .ref ap, .ref aw, .ref ag, .ref av, .ref an, .int sz])), (ap, .inl (ww_g X 0, 60, .inl pl)), (aw, .inl (ww_g X 1, 60, .inl wr)), (ag, .inl (ww_g X 1, 60, .inl pg)), (av, .inl (ww_g X 0, 60, .inl pv)), (an, .inl (ww_g X 1, 60, .inl nt)), (v, .inr (1, [.ref vo, .ref vv])), (vo, .inl (ww_g X 0, 80, .inl ow)), (vv, .inl (ww_g X 0, 80, .inl vl))]) rfl rfl (by decide) ?_
        refine ww_if_eqB O dd_BF_countHoles_17 (tgt := 23) rfl (fun h17 => ?_) (fun h17 => ?_)
        · refine ww_iinc O dd_BF_countHoles_23 4 rfl (v := nI (b + 1)) (nI_add _ 1) (by rw [hn]; decide) rfl (L' := [(0, .ref h), (1, .int (nI a)), (2, .int (nI e)), (3, .int (nI c)), (4, .int (nI (b + 1)))]) rfl ?_
          refine ww_goto O dd_BF_countHoles_26 (tgt := 5) rfl ?_
          exact ih (b + 1) c (by omega) (by omega) (by omega) (px_caf h2 h4 h17)
        · refine ww_iinc O dd_BF_countHoles_20 3 rfl (v := nI (c + 1)) (nI_add _ 1) (by rw [hn]; decide) rfl (L' := [(0, .ref h), (1, .int (nI a)), (2, .int (nI e)), (3, .int (nI (c + 1))), (4, .int (nI b))]) rfl ?_
          refine ww_iinc O dd_BF_countHoles_23 4 rfl (v := nI (b + 1)) (nI_add _ 1) (by rw [hn]; decide) rfl (L' := [(0, .ref h), (1, .int (nI a)), (2, .int (nI e)), (3, .int (nI (c + 1))), (4, .int (nI (b + 1)))]) rfl ?_
          refine ww_goto O dd_BF_countHoles_26 (tgt := 5) rfl ?_
          exact ih (b + 1) (c + 1) (by omega) (by omega) (by omega) (px_cat h2 h4 h17)
  refine ww_iconst O dd_BF_countHoles_0 (v := nI 0) rfl ?_
  refine ww_istore_n O dd_BF_countHoles_1 (by rw [hn]; decide) rfl (L' := [(0, .ref h), (1, .int (nI a)), (2, .int (nI e)), (3, .int (nI 0))]) rfl ?_
  refine ww_iload_n O dd_BF_countHoles_2 1 rfl ?_
  refine ww_istore O dd_BF_countHoles_3 (by rw [hn]; decide) rfl (L' := [(0, .ref h), (1, .int (nI a)), (2, .int (nI e)), (3, .int (nI 0)), (4, .int (nI a))]) rfl ?_
  exact loop e a 0 (by omega) (by omega) (by omega) (by rw [Nat.sub_self]; rfl)
set_option maxRecDepth 4000 in
theorem cc_BF_countMapped (l : Launch) (D : va_G) (g : Nat → ClassId) (h : Nat) (v : Nat) (fo : Nat) (ap : Nat) (aw : Nat) (ag : Nat) (av : Nat) (an : Nat) (vo : Nat) (vv : Nat) (sz : Int32) (pl : Nat → Int32) (wr : Nat → Int32) (pg : Nat → Int32) (pv : Nat → Int32) (nt : Nat → Int32) (ow : Nat → Int32) (vl : Nat → Int32)  : ww_ct l D g yy_BF_countMapped bb_BF_countMapped 1 (some .int) (ww_rm 3) [.ref h] [(h, .inr (0, [.ref v, .int (nI fo), .ref ap, .ref aw, .ref ag, .ref av, .ref an, .int sz])), (ap, .inl (g 0, 60, .inl pl)), (aw, .inl (g 1, 60, .inl wr)), (ag, .inl (g 1, 60, .inl pg)), (av, .inl (g 0, 60, .inl pv)), (an, .inl (g 1, 60, .inl nt)), (v, .inr (1, [.ref vo, .ref vv])), (vo, .inl (g 0, 80, .inl ow)), (vv, .inl (g 0, 80, .inl vl))] (some (.int (nI (px_mm pl 0)))) [(h, .inr (0, [.ref v, .int (nI fo), .ref ap, .ref aw, .ref ag, .ref av, .ref an, .int sz])), (ap, .inl (g 0, 60, .inl pl)), (aw, .inl (g 1, 60, .inl wr)), (ag, .inl (g 1, 60, .inl pg)), (av, .inl (g 0, 60, .inl pv)), (an, .inl (g 1, 60, .inl nt)), (v, .inr (1, [.ref vo, .ref vv])), (vo, .inl (g 0, 80, .inl ow)), (vv, .inl (g 0, 80, .inl vl))] := by
  refine ww_start (by decide +kernel) rfl rfl (Nat.le_of_ble_eq_true rfl) (L0 := [(0, .ref h)]) rfl ?_
  intro X O hl hD hg hR hn F
  subst hl hD hg
  have hle := px_cnt_le (px_hole pl) 0 60
  refine ww_bipush O dd_BF_countMapped_0 (v := nI 60) rfl ?_
  refine ww_aload_n O dd_BF_countMapped_2 0 rfl ?_
  refine ww_iconst O dd_BF_countMapped_3 (v := nI 0) rfl ?_
  refine ww_bipush O dd_BF_countMapped_4 (v := nI 60) rfl ?_
  refine ww_callV (q0 := 0) (ci := 0) O (cc_BF_countHoles _ _ _ h v fo ap aw ag av an vo vv sz pl wr pg pv nt ow vl 0 60 (by omega) (by omega)) lc_BF_65 lx_BF_countHoles_II_I rfl rfl rfl (by rw [hR]; decide) (by rw [hR]; decide) (by rw [hR]; decide) rfl (Nat.le_of_ble_eq_true rfl) dd_BF_countMapped_6 rfl [0, 1, 2, 3, 4, 5, 6, 7, 8] [] [0, 1, 2, 3, 4, 5, 6, 7, 8] rfl (by decide) rfl (by decide) (by decide) (ws' := [(h, .inr (0, [.ref v, .int (nI fo), .ref ap, .ref aw, .ref ag, .ref av, .ref an, .int sz])), (ap, .inl (ww_g X 0, 60, .inl pl)), (aw, .inl (ww_g X 1, 60, .inl wr)), (ag, .inl (ww_g X 1, 60, .inl pg)), (av, .inl (ww_g X 0, 60, .inl pv)), (an, .inl (ww_g X 1, 60, .inl nt)), (v, .inr (1, [.ref vo, .ref vv])), (vo, .inl (ww_g X 0, 80, .inl ow)), (vv, .inl (ww_g X 0, 80, .inl vl))]) rfl rfl (by decide) ?_
  refine ww_isub O dd_BF_countMapped_9 (v := nI (60 - (px_cnt (px_hole pl) 0 (60 - 0)))) (pk_sub (by omega)) ?_
  rw [show px_mm pl 0 = (60 - (px_cnt (px_hole pl) 0 (60 - 0))) from by rw [← px_mm_eq]] at F
  exact F.i dd_BF_countMapped_10
set_option maxRecDepth 4000 in
theorem cc_BF_continuesRow (l : Launch) (D : va_G) (g : Nat → ClassId) (h : Nat) (v : Nat) (fo : Nat) (ap : Nat) (aw : Nat) (ag : Nat) (av : Nat) (an : Nat) (vo : Nat) (vv : Nat) (sz : Int32) (pl : Nat → Int32) (wr : Nat → Int32) (pg : Nat → Int32) (pv : Nat → Int32) (nt : Nat → Int32) (ow : Nat → Int32) (vl : Nat → Int32) (b : Nat) (h0 : 0 < b) (hb : b < 60) : ww_ct l D g yy_BF_continuesRow bb_BF_continuesRow 2 (some .boolean) (ww_rm 1) [.ref h, .int (nI b)] [(h, .inr (0, [.ref v, .int (nI fo), .ref ap, .ref aw, .ref ag, .ref av, .ref an, .int sz])), (ap, .inl (g 0, 60, .inl pl)), (aw, .inl (g 1, 60, .inl wr)), (ag, .inl (g 1, 60, .inl pg)), (av, .inl (g 0, 60, .inl pv)), (an, .inl (g 1, 60, .inl nt)), (v, .inr (1, [.ref vo, .ref vv])), (vo, .inl (g 0, 80, .inl ow)), (vv, .inl (g 0, 80, .inl vl))] (some (.int (px_b (px_go pl wr b)))) [(h, .inr (0, [.ref v, .int (nI fo), .ref ap, .ref aw, .ref ag, .ref av, .ref an, .int sz])), (ap, .inl (g 0, 60, .inl pl)), (aw, .inl (g 1, 60, .inl wr)), (ag, .inl (g 1, 60, .inl pg)), (av, .inl (g 0, 60, .inl pv)), (an, .inl (g 1, 60, .inl nt)), (v, .inr (1, [.ref vo, .ref vv])), (vo, .inl (g 0, 80, .inl ow)), (vv, .inl (g 0, 80, .inl vl))] := by
  refine ww_start (by decide +kernel) rfl (px_b_nar _) (Nat.le_of_ble_eq_true rfl) (L0 := [(0, .ref h), (1, .int (nI b))]) rfl ?_
  intro X O hl hD hg hR hn F
  subst hl hD hg
  refine ww_aload_n O dd_BF_continuesRow_0 0 rfl ?_
  refine ww_get O ci_BF rfl 2 (by decide) lf_BF_9 rfl dd_BF_continuesRow_1 0 rfl rfl ?_
  refine ww_iload_n O dd_BF_continuesRow_4 1 rfl ?_
  refine ww_iald O dd_BF_continuesRow_5 1 rfl (by omega) (by decide) rfl ?_
  refine ww_aload_n O dd_BF_continuesRow_6 0 rfl ?_
  refine ww_get O ci_BF rfl 2 (by decide) lf_BF_9 rfl dd_BF_continuesRow_7 0 rfl rfl ?_
  refine ww_iload_n O dd_BF_continuesRow_10 1 rfl ?_
  refine ww_iconst O dd_BF_continuesRow_11 (v := nI 1) rfl ?_
  refine ww_isub O dd_BF_continuesRow_12 (v := nI (b - 1)) (pk_sub (by omega)) ?_
  refine ww_iald O dd_BF_continuesRow_13 1 rfl (by omega) (by decide) rfl ?_
  refine ww_iconst O dd_BF_continuesRow_14 (v := nI 1) rfl ?_
  refine ww_iadd O dd_BF_continuesRow_15 (v := (pl (b - 1)) + (nI 1)) rfl ?_
  refine ww_icmp_ne O dd_BF_continuesRow_16 (tgt := 40) rfl (fun h16 => ?_) (fun h16 => ?_)
  · refine ww_iconst O dd_BF_continuesRow_40 (v := nI 0) rfl ?_
    rw [show px_go pl wr b = false from px_go_f1 h16, px_b_f] at F
    exact F.i dd_BF_continuesRow_41
  · refine ww_aload_n O dd_BF_continuesRow_19 0 rfl ?_
    refine ww_get O ci_BF rfl 3 (by decide) lf_BF_15 rfl dd_BF_continuesRow_20 0 rfl rfl ?_
    refine ww_iload_n O dd_BF_continuesRow_23 1 rfl ?_
    refine ww_zald O dd_BF_continuesRow_24 2 rfl (by omega) (by decide) rfl ?_
    refine ww_aload_n O dd_BF_continuesRow_25 0 rfl ?_
    refine ww_get O ci_BF rfl 3 (by decide) lf_BF_15 rfl dd_BF_continuesRow_26 0 rfl rfl ?_
    refine ww_iload_n O dd_BF_continuesRow_29 1 rfl ?_
    refine ww_iconst O dd_BF_continuesRow_30 (v := nI 1) rfl ?_
    refine ww_isub O dd_BF_continuesRow_31 (v := nI (b - 1)) (pk_sub (by omega)) ?_
    refine ww_zald O dd_BF_continuesRow_32 2 rfl (by omega) (by decide) rfl ?_
    refine ww_icmp_ne O dd_BF_continuesRow_33 (tgt := 40) rfl (fun h33 => ?_) (fun h33 => ?_)
    · refine ww_iconst O dd_BF_continuesRow_40 (v := nI 0) rfl ?_
      rw [show px_go pl wr b = false from px_go_f2 h33, px_b_f] at F
      exact F.i dd_BF_continuesRow_41
    · refine ww_iconst O dd_BF_continuesRow_36 (v := nI 1) rfl ?_
      refine ww_goto O dd_BF_continuesRow_37 (tgt := 41) rfl ?_
      rw [show px_go pl wr b = true from px_go_iff.mpr ⟨h16, h33⟩, px_b_t] at F
      exact F.i dd_BF_continuesRow_41
set_option maxRecDepth 4000 in
theorem cc_BF_extentLength (l : Launch) (D : va_G) (g : Nat → ClassId) (h : Nat) (v : Nat) (fo : Nat) (ap : Nat) (aw : Nat) (ag : Nat) (av : Nat) (an : Nat) (vo : Nat) (vv : Nat) (sz : Int32) (pl : Nat → Int32) (wr : Nat → Int32) (pg : Nat → Int32) (pv : Nat → Int32) (nt : Nat → Int32) (ow : Nat → Int32) (vl : Nat → Int32) (a : Nat) (ha : a < 60) : ww_ct l D g yy_BF_extentLength bb_BF_extentLength 4 (some .int) (ww_rm 2) [.ref h, .int (nI a)] [(h, .inr (0, [.ref v, .int (nI fo), .ref ap, .ref aw, .ref ag, .ref av, .ref an, .int sz])), (ap, .inl (g 0, 60, .inl pl)), (aw, .inl (g 1, 60, .inl wr)), (ag, .inl (g 1, 60, .inl pg)), (av, .inl (g 0, 60, .inl pv)), (an, .inl (g 1, 60, .inl nt)), (v, .inr (1, [.ref vo, .ref vv])), (vo, .inl (g 0, 80, .inl ow)), (vv, .inl (g 0, 80, .inl vl))] (some (.int (nI (px_len pl wr a)))) [(h, .inr (0, [.ref v, .int (nI fo), .ref ap, .ref aw, .ref ag, .ref av, .ref an, .int sz])), (ap, .inl (g 0, 60, .inl pl)), (aw, .inl (g 1, 60, .inl wr)), (ag, .inl (g 1, 60, .inl pg)), (av, .inl (g 0, 60, .inl pv)), (an, .inl (g 1, 60, .inl nt)), (v, .inr (1, [.ref vo, .ref vv])), (vo, .inl (g 0, 80, .inl ow)), (vv, .inl (g 0, 80, .inl vl))] := by
  refine ww_start (by decide +kernel) rfl rfl (Nat.le_of_ble_eq_true rfl) (L0 := [(0, .ref h), (1, .int (nI a))]) rfl ?_
  intro X O hl hD hg hR hn F
  subst hl hD hg
  have loop : px_hole pl a = false → ∀ (k b : Nat), 60 ≤ b + k → a < b → b ≤ min (a + 8) 60 → b - a + px_rl pl wr (60 - b) b (b - a) = 1 + px_rl pl wr (59 - a) (a + 1) 1 → ww_at X 0 0 24 [(0, .ref h), (1, .int (nI a)), (2, .int (nI (min (a + 8) 60))), (3, .int (nI b))] [] [(h, .inr (0, [.ref v, .int (nI fo), .ref ap, .ref aw, .ref ag, .ref av, .ref an, .int sz])), (ap, .inl (ww_g X 0, 60, .inl pl)), (aw, .inl (ww_g X 1, 60, .inl wr)), (ag, .inl (ww_g X 1, 60, .inl pg)), (av, .inl (ww_g X 0, 60, .inl pv)), (an, .inl (ww_g X 1, 60, .inl nt)), (v, .inr (1, [.ref vo, .ref vv])), (vo, .inl (ww_g X 0, 80, .inl ow)), (vv, .inl (ww_g X 0, 80, .inl vl))] := by
    intro hh k
    induction k with
    | zero =>
      intro b h1 h2 h3 h4
      refine ww_iload_n O dd_BF_extentLength_24 3 rfl ?_
      refine ww_iload_n O dd_BF_extentLength_25 2 rfl ?_
      refine ww_icmp_geN O dd_BF_extentLength_26 (tgt := 43) rfl (by omega) (by omega) (fun h26 => ?_) (fun h26 => ?_)
      · refine ww_iload_n O dd_BF_extentLength_43 3 rfl ?_
        refine ww_iload_n O dd_BF_extentLength_44 1 rfl ?_
        refine ww_isub O dd_BF_extentLength_45 (v := nI (b - a)) (pk_sub (by omega)) ?_
        rw [show px_len pl wr a = b - a from by unfold px_len; rw [hh, if_neg (by decide), ← h4, px_rl_s, if_neg (fun z => by omega)]; rfl] at F
        exact F.i dd_BF_extentLength_46
      · exfalso; omega
    | succ k ih =>
      intro b h1 h2 h3 h4
      refine ww_iload_n O dd_BF_extentLength_24 3 rfl ?_
      refine ww_iload_n O dd_BF_extentLength_25 2 rfl ?_
      refine ww_icmp_geN O dd_BF_extentLength_26 (tgt := 43) rfl (by omega) (by omega) (fun h26 => ?_) (fun h26 => ?_)
      · refine ww_iload_n O dd_BF_extentLength_43 3 rfl ?_
        refine ww_iload_n O dd_BF_extentLength_44 1 rfl ?_
        refine ww_isub O dd_BF_extentLength_45 (v := nI (b - a)) (pk_sub (by omega)) ?_
        rw [show px_len pl wr a = b - a from by unfold px_len; rw [hh, if_neg (by decide), ← h4, px_rl_s, if_neg (fun z => by omega)]; rfl] at F
        exact F.i dd_BF_extentLength_46
      · refine ww_aload_n O dd_BF_extentLength_29 0 rfl ?_
        refine ww_iload_n O dd_BF_extentLength_30 3 rfl ?_
        refine ww_callV (q0 := 0) (ci := 0) O (cc_BF_continuesRow _ _ _ h v fo ap aw ag av an vo vv sz pl wr pg pv nt ow vl b (by omega) (by omega)) lc_BF_81 lx_BF_continuesRow_I_Z rfl rfl rfl (by rw [hR]; decide) (by rw [hR]; decide) (by rw [hR]; decide) rfl (Nat.le_of_ble_eq_true rfl) dd_BF_extentLength_31 rfl [0, 1, 2, 3, 4, 5, 6, 7, 8] [] [0, 1, 2, 3, 4, 5, 6, 7, 8] rfl (by decide) rfl (by decide) (by decide) (ws' := [(h, .inr (0, [.ref v, .int (nI fo), .ref ap, .ref aw, .ref ag, .ref av, .ref an, .int sz])), (ap, .inl (ww_g X 0, 60, .inl pl)), (aw, .inl (ww_g X 1, 60, .inl wr)), (ag, .inl (ww_g X 1, 60, .inl pg)), (av, .inl (ww_g X 0, 60, .inl pv)), (an, .inl (ww_g X 1, 60, .inl nt)), (v, .inr (1, [.ref vo, .ref vv])), (vo, .inl (ww_g X 0, 80, .inl ow)), (vv, .inl (ww_g X 0, 80, .inl vl))]) rfl rfl (by decide) ?_
        refine ww_if_eqB O dd_BF_extentLength_34 (tgt := 43) rfl (fun h34 => ?_) (fun h34 => ?_)
        · refine ww_iload_n O dd_BF_extentLength_43 3 rfl ?_
          refine ww_iload_n O dd_BF_extentLength_44 1 rfl ?_
          refine ww_isub O dd_BF_extentLength_45 (v := nI (b - a)) (pk_sub (by omega)) ?_
          rw [show px_len pl wr a = b - a from by unfold px_len; rw [hh, if_neg (by decide), ← h4, px_rl_s, if_neg (fun z => by rw [h34] at z; exact absurd z.2.2 (by decide))]; rfl] at F
          exact F.i dd_BF_extentLength_46
        · refine ww_iinc O dd_BF_extentLength_37 3 rfl (v := nI (b + 1)) (nI_add _ 1) (by rw [hn]; decide) rfl (L' := [(0, .ref h), (1, .int (nI a)), (2, .int (nI (min (a + 8) 60))), (3, .int (nI (b + 1)))]) rfl ?_
          refine ww_goto O dd_BF_extentLength_40 (tgt := 24) rfl ?_
          exact ih (b + 1) (by omega) (by omega) (by omega) (by rw [← h4, px_rl_s (b := b), if_pos ⟨by omega, by omega, h34⟩, show 60 - b - 1 = 60 - (b + 1) by omega, show b + 1 - a = b - a + 1 by omega]; omega)
  refine ww_aload_n O dd_BF_extentLength_0 0 rfl ?_
  refine ww_iload_n O dd_BF_extentLength_1 1 rfl ?_
  refine ww_callV (q0 := 0) (ci := 0) O (cc_BF_isHole _ _ _ h v fo ap aw ag av an vo vv sz pl wr pg pv nt ow vl a (by omega)) lc_BF_55 lx_BF_isHole_I_Z rfl rfl rfl (by rw [hR]; decide) (by rw [hR]; decide) (by rw [hR]; decide) rfl (Nat.le_of_ble_eq_true rfl) dd_BF_extentLength_2 rfl [0, 1, 2, 3, 4, 5, 6, 7, 8] [] [0, 1, 2, 3, 4, 5, 6, 7, 8] rfl (by decide) rfl (by decide) (by decide) (ws' := [(h, .inr (0, [.ref v, .int (nI fo), .ref ap, .ref aw, .ref ag, .ref av, .ref an, .int sz])), (ap, .inl (ww_g X 0, 60, .inl pl)), (aw, .inl (ww_g X 1, 60, .inl wr)), (ag, .inl (ww_g X 1, 60, .inl pg)), (av, .inl (ww_g X 0, 60, .inl pv)), (an, .inl (ww_g X 1, 60, .inl nt)), (v, .inr (1, [.ref vo, .ref vv])), (vo, .inl (ww_g X 0, 80, .inl ow)), (vv, .inl (ww_g X 0, 80, .inl vl))]) rfl rfl (by decide) ?_
  refine ww_if_eqB O dd_BF_extentLength_5 (tgt := 10) rfl (fun h5 => ?_) (fun h5 => ?_)
  · refine ww_iload_n O dd_BF_extentLength_10 1 rfl ?_
    refine ww_bipush O dd_BF_extentLength_11 (v := nI 8) rfl ?_
    refine ww_iadd O dd_BF_extentLength_13 (v := nI (a + 8)) (nI_add _ _) ?_
    refine ww_bipush O dd_BF_extentLength_14 (v := nI 60) rfl ?_
    refine ww_min O lm_BF_78 lk_Math_min (by rw [hR]; decide) (by rw [hR]; exact Nat.le_of_ble_eq_true rfl) (by rw [hR]; decide) (by rw [hR]; decide) dd_BF_extentLength_16 (v := nI (min (a + 8) 60)) (px_min (by omega) (by omega)) ?_
    refine ww_istore_n O dd_BF_extentLength_19 (by rw [hn]; decide) rfl (L' := [(0, .ref h), (1, .int (nI a)), (2, .int (nI (min (a + 8) 60)))]) rfl ?_
    refine ww_iload_n O dd_BF_extentLength_20 1 rfl ?_
    refine ww_iconst O dd_BF_extentLength_21 (v := nI 1) rfl ?_
    refine ww_iadd O dd_BF_extentLength_22 (v := nI (a + 1)) (nI_add _ _) ?_
    refine ww_istore_n O dd_BF_extentLength_23 (by rw [hn]; decide) rfl (L' := [(0, .ref h), (1, .int (nI a)), (2, .int (nI (min (a + 8) 60))), (3, .int (nI (a + 1)))]) rfl ?_
    exact loop h5 60 (a + 1) (by omega) (by omega) (by omega) (by rw [show 60 - (a + 1) = 59 - a by omega, show a + 1 - a = 1 by omega])
  · refine ww_iconst O dd_BF_extentLength_8 (v := nI 0) rfl ?_
    rw [show px_len pl wr a = 0 from by unfold px_len; rw [if_pos h5]] at F
    exact F.i dd_BF_extentLength_9
end
section
theorem lc_BF_75 : ww_site "DelayedExtents$BlockFile" 75 yy_BF_extentLength bb_BF_extentLength 4 (some .int) 1 := ⟨List.mem_filter.mpr ⟨List.mem_of_getElem? (i := 148) (by decide +kernel), by decide +kernel⟩, List.mem_filter.mpr ⟨List.mem_of_getElem? (i := 145) (by decide +kernel), by decide +kernel⟩, List.mem_filter.mpr ⟨List.mem_of_getElem? (i := 29) (by decide +kernel), by decide +kernel⟩, by decide, by decide, by decide +kernel⟩
theorem lx_BF_extentLength_I_I : ww_virt yy_BF_extentLength := ⟨List.mem_filter.mpr ⟨List.mem_of_getElem? (i := 146) (by decide +kernel), by decide +kernel⟩, List.mem_filter.mpr ⟨List.mem_of_getElem? (i := 147) (by decide +kernel), by decide +kernel⟩⟩
theorem lc_BF_68 : ww_site "DelayedExtents$BlockFile" 68 yy_BF_countExtents bb_BF_countExtents 4 (some .int) 0 := ⟨List.mem_filter.mpr ⟨List.mem_of_getElem? (i := 144) (by decide +kernel), by decide +kernel⟩, List.mem_filter.mpr ⟨List.mem_of_getElem? (i := 170) (by decide +kernel), by decide +kernel⟩, List.mem_filter.mpr ⟨List.mem_of_getElem? (i := 29) (by decide +kernel), by decide +kernel⟩, by decide, by decide, by decide +kernel⟩
theorem lx_BF_countExtents__I : ww_virt yy_BF_countExtents := ⟨List.mem_filter.mpr ⟨List.mem_of_getElem? (i := 142) (by decide +kernel), by decide +kernel⟩, List.mem_filter.mpr ⟨List.mem_of_getElem? (i := 143) (by decide +kernel), by decide +kernel⟩⟩
theorem ln_BF_72 : Cond.code yy_DE_treeBlocks bb_DE_treeBlocks 1 (some .int) ∈ lw_good ∧ Cond.methodLinkNest "DelayedExtents$BlockFile" 72 yy_DE_treeBlocks "DelayedExtents" ∈ cx_nw ∧ Cond.initialized yy_DE_treeBlocks.cls ∈ lw_good ∧ (yy_DE_treeBlocks.cls ≠ "java/lang/invoke/MethodHandle" ∧ yy_DE_treeBlocks.cls ≠ "java/lang/invoke/VarHandle" ∧ (parseMethodDescriptor yy_DE_treeBlocks.desc).map (fun d => d.parameters.length) = some 1) := ⟨List.mem_filter.mpr ⟨List.mem_of_getElem? (i := 161) (by decide +kernel), by decide +kernel⟩, by decide +kernel, List.mem_filter.mpr ⟨List.mem_of_getElem? (i := 26) (by decide +kernel), by decide +kernel⟩, by decide, by decide, by decide +kernel⟩
theorem ls_DE_treeBlocks_I_I : Cond.static yy_DE_treeBlocks ∈ lw_good := List.mem_filter.mpr ⟨List.mem_of_getElem? (i := 160) (by decide +kernel), by decide +kernel⟩
set_option maxRecDepth 4000 in
theorem cc_BF_countExtents (l : Launch) (D : va_G) (g : Nat → ClassId) (h : Nat) (v : Nat) (fo : Nat) (ap : Nat) (aw : Nat) (ag : Nat) (av : Nat) (an : Nat) (vo : Nat) (vv : Nat) (sz : Int32) (pl : Nat → Int32) (wr : Nat → Int32) (pg : Nat → Int32) (pv : Nat → Int32) (nt : Nat → Int32) (ow : Nat → Int32) (vl : Nat → Int32) (hr : px_rng pl 0 60) : ww_ct l D g yy_BF_countExtents bb_BF_countExtents 4 (some .int) (ww_rm 3) [.ref h] [(h, .inr (0, [.ref v, .int (nI fo), .ref ap, .ref aw, .ref ag, .ref av, .ref an, .int sz])), (ap, .inl (g 0, 60, .inl pl)), (aw, .inl (g 1, 60, .inl wr)), (ag, .inl (g 1, 60, .inl pg)), (av, .inl (g 0, 60, .inl pv)), (an, .inl (g 1, 60, .inl nt)), (v, .inr (1, [.ref vo, .ref vv])), (vo, .inl (g 0, 80, .inl ow)), (vv, .inl (g 0, 80, .inl vl))] (some (.int (nI (px_ee pl wr 0)))) [(h, .inr (0, [.ref v, .int (nI fo), .ref ap, .ref aw, .ref ag, .ref av, .ref an, .int sz])), (ap, .inl (g 0, 60, .inl pl)), (aw, .inl (g 1, 60, .inl wr)), (ag, .inl (g 1, 60, .inl pg)), (av, .inl (g 0, 60, .inl pv)), (an, .inl (g 1, 60, .inl nt)), (v, .inr (1, [.ref vo, .ref vv])), (vo, .inl (g 0, 80, .inl ow)), (vv, .inl (g 0, 80, .inl vl))] := by
  refine ww_start (by decide +kernel) rfl rfl (Nat.le_of_ble_eq_true rfl) (L0 := [(0, .ref h)]) rfl ?_
  intro X O hl hD hg hR hn F
  subst hl hD hg
  have loop : ∀ (k b n : Nat), 60 ≤ b + k → b ≤ 60 → n + px_ex pl wr (60 - b) b 0 = px_ee pl wr 0 → ww_at X 0 0 4 [(0, .ref h), (1, .int (nI n)), (2, .int (nI b))] [] [(h, .inr (0, [.ref v, .int (nI fo), .ref ap, .ref aw, .ref ag, .ref av, .ref an, .int sz])), (ap, .inl (ww_g X 0, 60, .inl pl)), (aw, .inl (ww_g X 1, 60, .inl wr)), (ag, .inl (ww_g X 1, 60, .inl pg)), (av, .inl (ww_g X 0, 60, .inl pv)), (an, .inl (ww_g X 1, 60, .inl nt)), (v, .inr (1, [.ref vo, .ref vv])), (vo, .inl (ww_g X 0, 80, .inl ow)), (vv, .inl (ww_g X 0, 80, .inl vl))] := by
    intro k
    induction k with
    | zero =>
      intro b n h1 h2 h3
      have hn60 := px_ex_le pl wr 60 0 0
      have hnb : n ≤ 60 := by unfold px_ee at h3; omega
      refine ww_iload_n O dd_BF_countExtents_4 2 rfl ?_
      refine ww_bipush O dd_BF_countExtents_5 (v := nI 60) rfl ?_
      refine ww_icmp_geN O dd_BF_countExtents_7 (tgt := 34) rfl (by omega) (by omega) (fun h7 => ?_) (fun h7 => ?_)
      · refine ww_iload_n O dd_BF_countExtents_34 1 rfl ?_
        rw [show px_ee pl wr 0 = n from by rw [← h3, show 60 - b = 0 by omega]; rfl] at F
        exact F.i dd_BF_countExtents_35
      · exfalso; omega
    | succ k ih =>
      intro b n h1 h2 h3
      have hn60 := px_ex_le pl wr 60 0 0
      have hnb : n ≤ 60 := by unfold px_ee at h3; omega
      refine ww_iload_n O dd_BF_countExtents_4 2 rfl ?_
      refine ww_bipush O dd_BF_countExtents_5 (v := nI 60) rfl ?_
      refine ww_icmp_geN O dd_BF_countExtents_7 (tgt := 34) rfl (by omega) (by omega) (fun h7 => ?_) (fun h7 => ?_)
      · refine ww_iload_n O dd_BF_countExtents_34 1 rfl ?_
        rw [show px_ee pl wr 0 = n from by rw [← h3, show 60 - b = 0 by omega]; rfl] at F
        exact F.i dd_BF_countExtents_35
      · refine ww_aload_n O dd_BF_countExtents_10 0 rfl ?_
        refine ww_iload_n O dd_BF_countExtents_11 2 rfl ?_
        refine ww_callV (q0 := 0) (ci := 0) O (cc_BF_extentLength _ _ _ h v fo ap aw ag av an vo vv sz pl wr pg pv nt ow vl b (by omega)) lc_BF_75 lx_BF_extentLength_I_I rfl rfl rfl (by rw [hR]; decide) (by rw [hR]; decide) (by rw [hR]; decide) rfl (Nat.le_of_ble_eq_true rfl) dd_BF_countExtents_12 rfl [0, 1, 2, 3, 4, 5, 6, 7, 8] [] [0, 1, 2, 3, 4, 5, 6, 7, 8] rfl (by decide) rfl (by decide) (by decide) (ws' := [(h, .inr (0, [.ref v, .int (nI fo), .ref ap, .ref aw, .ref ag, .ref av, .ref an, .int sz])), (ap, .inl (ww_g X 0, 60, .inl pl)), (aw, .inl (ww_g X 1, 60, .inl wr)), (ag, .inl (ww_g X 1, 60, .inl pg)), (av, .inl (ww_g X 0, 60, .inl pv)), (an, .inl (ww_g X 1, 60, .inl nt)), (v, .inr (1, [.ref vo, .ref vv])), (vo, .inl (ww_g X 0, 80, .inl ow)), (vv, .inl (ww_g X 0, 80, .inl vl))]) rfl rfl (by decide) ?_
        have hl1 := px_len_le (pl := pl) (wr := wr) (b := b) (by omega)
        have hl2 := px_ex_len (wr := wr) hr (b := b) (by omega)
        generalize px_len pl wr b = z at hl1 hl2 ⊢
        refine ww_istore_n O dd_BF_countExtents_15 (by rw [hn]; decide) rfl (L' := [(0, .ref h), (1, .int (nI n)), (2, .int (nI b)), (3, .int (nI z))]) rfl ?_
        refine ww_iload_n O dd_BF_countExtents_16 3 rfl ?_
        refine ww_if_leN O dd_BF_countExtents_17 (tgt := 23) rfl (by omega) (fun h17 => ?_) (fun h17 => ?_)
        · refine ww_iload_n O dd_BF_countExtents_23 2 rfl ?_
          refine ww_iload_n O dd_BF_countExtents_24 3 rfl ?_
          refine ww_iconst O dd_BF_countExtents_25 (v := nI 1) rfl ?_
          refine ww_max O lm_BF_45 lk_Math_max (by rw [hR]; decide) (by rw [hR]; exact Nat.le_of_ble_eq_true rfl) (by rw [hR]; decide) (by rw [hR]; decide) dd_BF_countExtents_26 (v := nI (max z 1)) (px_max (by omega) (by omega)) ?_
          refine ww_iadd O dd_BF_countExtents_29 (v := nI (b + (max z 1))) (nI_add _ _) ?_
          refine ww_istore_n O dd_BF_countExtents_30 (by rw [hn]; decide) rfl (L' := [(0, .ref h), (1, .int (nI n)), (2, .int (nI (b + (max z 1)))), (3, .int (nI z))]) rfl ?_
          refine ww_goto O dd_BF_countExtents_31 (tgt := 4) rfl ?_
          refine ww_sub [0, 1, 2] rfl ?_
          exact ih _ _ (by omega) (by omega) (by rw [← h3, hl2]; rw [if_neg (by omega)]; omega)
        · refine ww_iinc O dd_BF_countExtents_20 1 rfl (v := nI (n + 1)) (nI_add _ 1) (by rw [hn]; decide) rfl (L' := [(0, .ref h), (1, .int (nI (n + 1))), (2, .int (nI b)), (3, .int (nI z))]) rfl ?_
          refine ww_iload_n O dd_BF_countExtents_23 2 rfl ?_
          refine ww_iload_n O dd_BF_countExtents_24 3 rfl ?_
          refine ww_iconst O dd_BF_countExtents_25 (v := nI 1) rfl ?_
          refine ww_max O lm_BF_45 lk_Math_max (by rw [hR]; decide) (by rw [hR]; exact Nat.le_of_ble_eq_true rfl) (by rw [hR]; decide) (by rw [hR]; decide) dd_BF_countExtents_26 (v := nI (max z 1)) (px_max (by omega) (by omega)) ?_
          refine ww_iadd O dd_BF_countExtents_29 (v := nI (b + (max z 1))) (nI_add _ _) ?_
          refine ww_istore_n O dd_BF_countExtents_30 (by rw [hn]; decide) rfl (L' := [(0, .ref h), (1, .int (nI (n + 1))), (2, .int (nI (b + (max z 1)))), (3, .int (nI z))]) rfl ?_
          refine ww_goto O dd_BF_countExtents_31 (tgt := 4) rfl ?_
          refine ww_sub [0, 1, 2] rfl ?_
          exact ih _ _ (by omega) (by omega) (by rw [← h3, hl2]; rw [if_pos (by omega)]; omega)
  refine ww_iconst O dd_BF_countExtents_0 (v := nI 0) rfl ?_
  refine ww_istore_n O dd_BF_countExtents_1 (by rw [hn]; decide) rfl (L' := [(0, .ref h), (1, .int (nI 0))]) rfl ?_
  refine ww_iconst O dd_BF_countExtents_2 (v := nI 0) rfl ?_
  refine ww_istore_n O dd_BF_countExtents_3 (by rw [hn]; decide) rfl (L' := [(0, .ref h), (1, .int (nI 0)), (2, .int (nI 0))]) rfl ?_
  exact loop 60 0 0 (by omega) (by omega) (Nat.zero_add _)
set_option maxRecDepth 4000 in
theorem cc_BF_first_neg (l : Launch) (D : va_G) (g : Nat → ClassId) (h : Nat) (v : Nat) (fo : Nat) (ap : Nat) (aw : Nat) (ag : Nat) (av : Nat) (an : Nat) (vo : Nat) (vv : Nat) (sz : Int32) (pl : Nat → Int32) (wr : Nat → Int32) (pg : Nat → Int32) (pv : Nat → Int32) (nt : Nat → Int32) (ow : Nat → Int32) (vl : Nat → Int32) (x : Int32) (hx : x < 0) : ww_ct l D g yy_BF_firstBlockOfExtent bb_BF_firstBlockOfExtent 5 (some .int) (ww_rm 3) [.ref h, .int x] [(h, .inr (0, [.ref v, .int (nI fo), .ref ap, .ref aw, .ref ag, .ref av, .ref an, .int sz])), (ap, .inl (g 0, 60, .inl pl)), (aw, .inl (g 1, 60, .inl wr)), (ag, .inl (g 1, 60, .inl pg)), (av, .inl (g 0, 60, .inl pv)), (an, .inl (g 1, 60, .inl nt)), (v, .inr (1, [.ref vo, .ref vv])), (vo, .inl (g 0, 80, .inl ow)), (vv, .inl (g 0, 80, .inl vl))] (some (.int (-1))) [(h, .inr (0, [.ref v, .int (nI fo), .ref ap, .ref aw, .ref ag, .ref av, .ref an, .int sz])), (ap, .inl (g 0, 60, .inl pl)), (aw, .inl (g 1, 60, .inl wr)), (ag, .inl (g 1, 60, .inl pg)), (av, .inl (g 0, 60, .inl pv)), (an, .inl (g 1, 60, .inl nt)), (v, .inr (1, [.ref vo, .ref vv])), (vo, .inl (g 0, 80, .inl ow)), (vv, .inl (g 0, 80, .inl vl))] := by
  refine ww_start (by decide +kernel) rfl rfl (Nat.le_of_ble_eq_true rfl) (L0 := [(0, .ref h), (1, .int x)]) rfl ?_
  intro X O hl hD hg hR hn F
  subst hl hD hg
  have loop : ∀ (k b n : Nat), 60 ≤ b + k → b ≤ 60 → n ≤ b → True → ww_at X 0 0 4 [(0, .ref h), (1, .int x), (2, .int (nI n)), (3, .int (nI b))] [] [(h, .inr (0, [.ref v, .int (nI fo), .ref ap, .ref aw, .ref ag, .ref av, .ref an, .int sz])), (ap, .inl (ww_g X 0, 60, .inl pl)), (aw, .inl (ww_g X 1, 60, .inl wr)), (ag, .inl (ww_g X 1, 60, .inl pg)), (av, .inl (ww_g X 0, 60, .inl pv)), (an, .inl (ww_g X 1, 60, .inl nt)), (v, .inr (1, [.ref vo, .ref vv])), (vo, .inl (ww_g X 0, 80, .inl ow)), (vv, .inl (ww_g X 0, 80, .inl vl))] := by
    intro k
    induction k with
    | zero =>
      intro b n h1 h2 hn2 h3
      refine ww_iload_n O dd_BF_firstBlockOfExtent_4 3 rfl ?_
      refine ww_bipush O dd_BF_firstBlockOfExtent_5 (v := nI 60) rfl ?_
      refine ww_icmp_geN O dd_BF_firstBlockOfExtent_7 (tgt := 44) rfl (by omega) (by omega) (fun h7 => ?_) (fun h7 => ?_)
      · refine ww_iconst O dd_BF_firstBlockOfExtent_44 (v := (-1)) rfl ?_
        exact F.i dd_BF_firstBlockOfExtent_45
      · exfalso; omega
    | succ k ih =>
      intro b n h1 h2 hn2 h3
      refine ww_iload_n O dd_BF_firstBlockOfExtent_4 3 rfl ?_
      refine ww_bipush O dd_BF_firstBlockOfExtent_5 (v := nI 60) rfl ?_
      refine ww_icmp_geN O dd_BF_firstBlockOfExtent_7 (tgt := 44) rfl (by omega) (by omega) (fun h7 => ?_) (fun h7 => ?_)
      · refine ww_iconst O dd_BF_firstBlockOfExtent_44 (v := (-1)) rfl ?_
        exact F.i dd_BF_firstBlockOfExtent_45
      · refine ww_aload_n O dd_BF_firstBlockOfExtent_10 0 rfl ?_
        refine ww_iload_n O dd_BF_firstBlockOfExtent_11 3 rfl ?_
        refine ww_callV (q0 := 0) (ci := 0) O (cc_BF_extentLength _ _ _ h v fo ap aw ag av an vo vv sz pl wr pg pv nt ow vl b (by omega)) lc_BF_75 lx_BF_extentLength_I_I rfl rfl rfl (by rw [hR]; decide) (by rw [hR]; decide) (by rw [hR]; decide) rfl (Nat.le_of_ble_eq_true rfl) dd_BF_firstBlockOfExtent_12 rfl [0, 1, 2, 3, 4, 5, 6, 7, 8] [] [0, 1, 2, 3, 4, 5, 6, 7, 8] rfl (by decide) rfl (by decide) (by decide) (ws' := [(h, .inr (0, [.ref v, .int (nI fo), .ref ap, .ref aw, .ref ag, .ref av, .ref an, .int sz])), (ap, .inl (ww_g X 0, 60, .inl pl)), (aw, .inl (ww_g X 1, 60, .inl wr)), (ag, .inl (ww_g X 1, 60, .inl pg)), (av, .inl (ww_g X 0, 60, .inl pv)), (an, .inl (ww_g X 1, 60, .inl nt)), (v, .inr (1, [.ref vo, .ref vv])), (vo, .inl (ww_g X 0, 80, .inl ow)), (vv, .inl (ww_g X 0, 80, .inl vl))]) rfl rfl (by decide) ?_
        have hl1 := px_len_le (pl := pl) (wr := wr) (b := b) (by omega)
        generalize px_len pl wr b = z at hl1 ⊢
        refine ww_istore O dd_BF_firstBlockOfExtent_15 (by rw [hn]; decide) rfl (L' := [(0, .ref h), (1, .int x), (2, .int (nI n)), (3, .int (nI b)), (4, .int (nI z))]) rfl ?_
        refine ww_iload O dd_BF_firstBlockOfExtent_17 4 rfl ?_
        refine ww_if_leN O dd_BF_firstBlockOfExtent_19 (tgt := 32) rfl (by omega) (fun h19 => ?_) (fun h19 => ?_)
        · refine ww_iload_n O dd_BF_firstBlockOfExtent_32 3 rfl ?_
          refine ww_iload O dd_BF_firstBlockOfExtent_33 4 rfl ?_
          refine ww_iconst O dd_BF_firstBlockOfExtent_35 (v := nI 1) rfl ?_
          refine ww_max O lm_BF_45 lk_Math_max (by rw [hR]; decide) (by rw [hR]; exact Nat.le_of_ble_eq_true rfl) (by rw [hR]; decide) (by rw [hR]; decide) dd_BF_firstBlockOfExtent_36 (v := nI (max z 1)) (px_max (by omega) (by omega)) ?_
          refine ww_iadd O dd_BF_firstBlockOfExtent_39 (v := nI (b + (max z 1))) (nI_add _ _) ?_
          refine ww_istore_n O dd_BF_firstBlockOfExtent_40 (by rw [hn]; decide) rfl (L' := [(0, .ref h), (1, .int x), (2, .int (nI n)), (3, .int (nI (b + (max z 1)))), (4, .int (nI z))]) rfl ?_
          refine ww_goto O dd_BF_firstBlockOfExtent_41 (tgt := 4) rfl ?_
          refine ww_sub [0, 1, 2, 3] rfl ?_
          exact ih _ _ (by omega) (by omega) (by omega) trivial
        · refine ww_iload_n O dd_BF_firstBlockOfExtent_22 2 rfl ?_
          refine ww_iload_n O dd_BF_firstBlockOfExtent_23 1 rfl ?_
          refine ww_icmp_ne O dd_BF_firstBlockOfExtent_24 (tgt := 29) rfl (fun h24 => ?_) (fun h24 => ?_)
          · refine ww_iinc O dd_BF_firstBlockOfExtent_29 2 rfl (v := nI (n + 1)) (nI_add _ 1) (by rw [hn]; decide) rfl (L' := [(0, .ref h), (1, .int x), (2, .int (nI (n + 1))), (3, .int (nI b)), (4, .int (nI z))]) rfl ?_
            refine ww_iload_n O dd_BF_firstBlockOfExtent_32 3 rfl ?_
            refine ww_iload O dd_BF_firstBlockOfExtent_33 4 rfl ?_
            refine ww_iconst O dd_BF_firstBlockOfExtent_35 (v := nI 1) rfl ?_
            refine ww_max O lm_BF_45 lk_Math_max (by rw [hR]; decide) (by rw [hR]; exact Nat.le_of_ble_eq_true rfl) (by rw [hR]; decide) (by rw [hR]; decide) dd_BF_firstBlockOfExtent_36 (v := nI (max z 1)) (px_max (by omega) (by omega)) ?_
            refine ww_iadd O dd_BF_firstBlockOfExtent_39 (v := nI (b + (max z 1))) (nI_add _ _) ?_
            refine ww_istore_n O dd_BF_firstBlockOfExtent_40 (by rw [hn]; decide) rfl (L' := [(0, .ref h), (1, .int x), (2, .int (nI (n + 1))), (3, .int (nI (b + (max z 1)))), (4, .int (nI z))]) rfl ?_
            refine ww_goto O dd_BF_firstBlockOfExtent_41 (tgt := 4) rfl ?_
            refine ww_sub [0, 1, 2, 3] rfl ?_
            exact ih _ _ (by omega) (by omega) (by omega) trivial
          · refine ww_iload_n O dd_BF_firstBlockOfExtent_27 3 rfl ?_
            exact absurd h24 (fun e => by rw [← e] at hx; exact absurd hx (nI_pos (by omega)))
  refine ww_iconst O dd_BF_firstBlockOfExtent_0 (v := nI 0) rfl ?_
  refine ww_istore_n O dd_BF_firstBlockOfExtent_1 (by rw [hn]; decide) rfl (L' := [(0, .ref h), (1, .int x), (2, .int (nI 0))]) rfl ?_
  refine ww_iconst O dd_BF_firstBlockOfExtent_2 (v := nI 0) rfl ?_
  refine ww_istore_n O dd_BF_firstBlockOfExtent_3 (by rw [hn]; decide) rfl (L' := [(0, .ref h), (1, .int x), (2, .int (nI 0)), (3, .int (nI 0))]) rfl ?_
  exact loop 60 0 0 (by omega) (by omega) (by omega) trivial
set_option maxRecDepth 4000 in
theorem cc_BF_firstBlockOfExtent (l : Launch) (D : va_G) (g : Nat → ClassId) (h : Nat) (v : Nat) (fo : Nat) (ap : Nat) (aw : Nat) (ag : Nat) (av : Nat) (an : Nat) (vo : Nat) (vv : Nat) (sz : Int32) (pl : Nat → Int32) (wr : Nat → Int32) (pg : Nat → Int32) (pv : Nat → Int32) (nt : Nat → Int32) (ow : Nat → Int32) (vl : Nat → Int32) (i : Nat) (hr : px_rng pl 0 60) (hi : i < 2 ^ 31) : ww_ct l D g yy_BF_firstBlockOfExtent bb_BF_firstBlockOfExtent 5 (some .int) (ww_rm 3) [.ref h, .int (nI i)] [(h, .inr (0, [.ref v, .int (nI fo), .ref ap, .ref aw, .ref ag, .ref av, .ref an, .int sz])), (ap, .inl (g 0, 60, .inl pl)), (aw, .inl (g 1, 60, .inl wr)), (ag, .inl (g 1, 60, .inl pg)), (av, .inl (g 0, 60, .inl pv)), (an, .inl (g 1, 60, .inl nt)), (v, .inr (1, [.ref vo, .ref vv])), (vo, .inl (g 0, 80, .inl ow)), (vv, .inl (g 0, 80, .inl vl))] (some (.int (px_on1 (px_nth pl wr 60 0 0 i)))) [(h, .inr (0, [.ref v, .int (nI fo), .ref ap, .ref aw, .ref ag, .ref av, .ref an, .int sz])), (ap, .inl (g 0, 60, .inl pl)), (aw, .inl (g 1, 60, .inl wr)), (ag, .inl (g 1, 60, .inl pg)), (av, .inl (g 0, 60, .inl pv)), (an, .inl (g 1, 60, .inl nt)), (v, .inr (1, [.ref vo, .ref vv])), (vo, .inl (g 0, 80, .inl ow)), (vv, .inl (g 0, 80, .inl vl))] := by
  refine ww_start (by decide +kernel) rfl rfl (Nat.le_of_ble_eq_true rfl) (L0 := [(0, .ref h), (1, .int (nI i))]) rfl ?_
  intro X O hl hD hg hR hn F
  subst hl hD hg
  have loop : ∀ (k b n : Nat), 60 ≤ b + k → b ≤ 60 → n ≤ b → n ≤ i ∧ px_nth pl wr (60 - b) b 0 (i - n) = px_nth pl wr 60 0 0 i → ww_at X 0 0 4 [(0, .ref h), (1, .int (nI i)), (2, .int (nI n)), (3, .int (nI b))] [] [(h, .inr (0, [.ref v, .int (nI fo), .ref ap, .ref aw, .ref ag, .ref av, .ref an, .int sz])), (ap, .inl (ww_g X 0, 60, .inl pl)), (aw, .inl (ww_g X 1, 60, .inl wr)), (ag, .inl (ww_g X 1, 60, .inl pg)), (av, .inl (ww_g X 0, 60, .inl pv)), (an, .inl (ww_g X 1, 60, .inl nt)), (v, .inr (1, [.ref vo, .ref vv])), (vo, .inl (ww_g X 0, 80, .inl ow)), (vv, .inl (ww_g X 0, 80, .inl vl))] := by
    intro k
    induction k with
    | zero =>
      intro b n h1 h2 hn2 h3
      refine ww_iload_n O dd_BF_firstBlockOfExtent_4 3 rfl ?_
      refine ww_bipush O dd_BF_firstBlockOfExtent_5 (v := nI 60) rfl ?_
      refine ww_icmp_geN O dd_BF_firstBlockOfExtent_7 (tgt := 44) rfl (by omega) (by omega) (fun h7 => ?_) (fun h7 => ?_)
      · refine ww_iconst O dd_BF_firstBlockOfExtent_44 (v := (-1)) rfl ?_
        rw [← h3.2, show 60 - b = 0 by omega] at F
        exact F.i dd_BF_firstBlockOfExtent_45
      · exfalso; omega
    | succ k ih =>
      intro b n h1 h2 hn2 h3
      refine ww_iload_n O dd_BF_firstBlockOfExtent_4 3 rfl ?_
      refine ww_bipush O dd_BF_firstBlockOfExtent_5 (v := nI 60) rfl ?_
      refine ww_icmp_geN O dd_BF_firstBlockOfExtent_7 (tgt := 44) rfl (by omega) (by omega) (fun h7 => ?_) (fun h7 => ?_)
      · refine ww_iconst O dd_BF_firstBlockOfExtent_44 (v := (-1)) rfl ?_
        rw [← h3.2, show 60 - b = 0 by omega] at F
        exact F.i dd_BF_firstBlockOfExtent_45
      · refine ww_aload_n O dd_BF_firstBlockOfExtent_10 0 rfl ?_
        refine ww_iload_n O dd_BF_firstBlockOfExtent_11 3 rfl ?_
        refine ww_callV (q0 := 0) (ci := 0) O (cc_BF_extentLength _ _ _ h v fo ap aw ag av an vo vv sz pl wr pg pv nt ow vl b (by omega)) lc_BF_75 lx_BF_extentLength_I_I rfl rfl rfl (by rw [hR]; decide) (by rw [hR]; decide) (by rw [hR]; decide) rfl (Nat.le_of_ble_eq_true rfl) dd_BF_firstBlockOfExtent_12 rfl [0, 1, 2, 3, 4, 5, 6, 7, 8] [] [0, 1, 2, 3, 4, 5, 6, 7, 8] rfl (by decide) rfl (by decide) (by decide) (ws' := [(h, .inr (0, [.ref v, .int (nI fo), .ref ap, .ref aw, .ref ag, .ref av, .ref an, .int sz])), (ap, .inl (ww_g X 0, 60, .inl pl)), (aw, .inl (ww_g X 1, 60, .inl wr)), (ag, .inl (ww_g X 1, 60, .inl pg)), (av, .inl (ww_g X 0, 60, .inl pv)), (an, .inl (ww_g X 1, 60, .inl nt)), (v, .inr (1, [.ref vo, .ref vv])), (vo, .inl (ww_g X 0, 80, .inl ow)), (vv, .inl (ww_g X 0, 80, .inl vl))]) rfl rfl (by decide) ?_
        have hl1 := px_len_le (pl := pl) (wr := wr) (b := b) (by omega)
        have hl2 := px_nth_len (wr := wr) hr (b := b) (by omega) (i - n)
        generalize px_len pl wr b = z at hl1 hl2 ⊢
        refine ww_istore O dd_BF_firstBlockOfExtent_15 (by rw [hn]; decide) rfl (L' := [(0, .ref h), (1, .int (nI i)), (2, .int (nI n)), (3, .int (nI b)), (4, .int (nI z))]) rfl ?_
        refine ww_iload O dd_BF_firstBlockOfExtent_17 4 rfl ?_
        refine ww_if_leN O dd_BF_firstBlockOfExtent_19 (tgt := 32) rfl (by omega) (fun h19 => ?_) (fun h19 => ?_)
        · refine ww_iload_n O dd_BF_firstBlockOfExtent_32 3 rfl ?_
          refine ww_iload O dd_BF_firstBlockOfExtent_33 4 rfl ?_
          refine ww_iconst O dd_BF_firstBlockOfExtent_35 (v := nI 1) rfl ?_
          refine ww_max O lm_BF_45 lk_Math_max (by rw [hR]; decide) (by rw [hR]; exact Nat.le_of_ble_eq_true rfl) (by rw [hR]; decide) (by rw [hR]; decide) dd_BF_firstBlockOfExtent_36 (v := nI (max z 1)) (px_max (by omega) (by omega)) ?_
          refine ww_iadd O dd_BF_firstBlockOfExtent_39 (v := nI (b + (max z 1))) (nI_add _ _) ?_
          refine ww_istore_n O dd_BF_firstBlockOfExtent_40 (by rw [hn]; decide) rfl (L' := [(0, .ref h), (1, .int (nI i)), (2, .int (nI n)), (3, .int (nI (b + (max z 1)))), (4, .int (nI z))]) rfl ?_
          refine ww_goto O dd_BF_firstBlockOfExtent_41 (tgt := 4) rfl ?_
          refine ww_sub [0, 1, 2, 3] rfl ?_
          exact ih _ _ (by omega) (by omega) (by omega) ⟨h3.1, by rw [← h3.2, hl2, if_neg (by omega)]⟩
        · refine ww_iload_n O dd_BF_firstBlockOfExtent_22 2 rfl ?_
          refine ww_iload_n O dd_BF_firstBlockOfExtent_23 1 rfl ?_
          refine ww_icmp_neN O dd_BF_firstBlockOfExtent_24 (tgt := 29) rfl (by omega) (by omega) (fun h24 => ?_) (fun h24 => ?_)
          · refine ww_iinc O dd_BF_firstBlockOfExtent_29 2 rfl (v := nI (n + 1)) (nI_add _ 1) (by rw [hn]; decide) rfl (L' := [(0, .ref h), (1, .int (nI i)), (2, .int (nI (n + 1))), (3, .int (nI b)), (4, .int (nI z))]) rfl ?_
            refine ww_iload_n O dd_BF_firstBlockOfExtent_32 3 rfl ?_
            refine ww_iload O dd_BF_firstBlockOfExtent_33 4 rfl ?_
            refine ww_iconst O dd_BF_firstBlockOfExtent_35 (v := nI 1) rfl ?_
            refine ww_max O lm_BF_45 lk_Math_max (by rw [hR]; decide) (by rw [hR]; exact Nat.le_of_ble_eq_true rfl) (by rw [hR]; decide) (by rw [hR]; decide) dd_BF_firstBlockOfExtent_36 (v := nI (max z 1)) (px_max (by omega) (by omega)) ?_
            refine ww_iadd O dd_BF_firstBlockOfExtent_39 (v := nI (b + (max z 1))) (nI_add _ _) ?_
            refine ww_istore_n O dd_BF_firstBlockOfExtent_40 (by rw [hn]; decide) rfl (L' := [(0, .ref h), (1, .int (nI i)), (2, .int (nI (n + 1))), (3, .int (nI (b + (max z 1)))), (4, .int (nI z))]) rfl ?_
            refine ww_goto O dd_BF_firstBlockOfExtent_41 (tgt := 4) rfl ?_
            refine ww_sub [0, 1, 2, 3] rfl ?_
            exact ih _ _ (by omega) (by omega) (by omega) ⟨by omega, by rw [← h3.2, hl2, if_pos (by omega), if_neg (by omega), Nat.sub_sub]⟩
          · refine ww_iload_n O dd_BF_firstBlockOfExtent_27 3 rfl ?_
            rw [← h3.2, hl2, if_pos (by omega), if_pos (by omega)] at F
            exact F.i dd_BF_firstBlockOfExtent_28
  refine ww_iconst O dd_BF_firstBlockOfExtent_0 (v := nI 0) rfl ?_
  refine ww_istore_n O dd_BF_firstBlockOfExtent_1 (by rw [hn]; decide) rfl (L' := [(0, .ref h), (1, .int (nI i)), (2, .int (nI 0))]) rfl ?_
  refine ww_iconst O dd_BF_firstBlockOfExtent_2 (v := nI 0) rfl ?_
  refine ww_istore_n O dd_BF_firstBlockOfExtent_3 (by rw [hn]; decide) rfl (L' := [(0, .ref h), (1, .int (nI i)), (2, .int (nI 0)), (3, .int (nI 0))]) rfl ?_
  exact loop 60 0 0 (by omega) (by omega) (by omega) ⟨Nat.zero_le _, rfl⟩
set_option maxRecDepth 4000 in
theorem cc_BF_countReserved (l : Launch) (D : va_G) (g : Nat → ClassId) (h : Nat) (v : Nat) (fo : Nat) (ap : Nat) (aw : Nat) (ag : Nat) (av : Nat) (an : Nat) (vo : Nat) (vv : Nat) (sz : Int32) (pl : Nat → Int32) (wr : Nat → Int32) (pg : Nat → Int32) (pv : Nat → Int32) (nt : Nat → Int32) (ow : Nat → Int32) (vl : Nat → Int32) (hr : px_rng pl 0 60) : ww_ct l D g yy_BF_countReserved bb_BF_countReserved 5 (some .int) (ww_rm 4) [.ref h] [(h, .inr (0, [.ref v, .int (nI fo), .ref ap, .ref aw, .ref ag, .ref av, .ref an, .int sz])), (ap, .inl (g 0, 60, .inl pl)), (aw, .inl (g 1, 60, .inl wr)), (ag, .inl (g 1, 60, .inl pg)), (av, .inl (g 0, 60, .inl pv)), (an, .inl (g 1, 60, .inl nt)), (v, .inr (1, [.ref vo, .ref vv])), (vo, .inl (g 0, 80, .inl ow)), (vv, .inl (g 0, 80, .inl vl))] (some (.int (nI (px_res pl wr pg 0)))) [(h, .inr (0, [.ref v, .int (nI fo), .ref ap, .ref aw, .ref ag, .ref av, .ref an, .int sz])), (ap, .inl (g 0, 60, .inl pl)), (aw, .inl (g 1, 60, .inl wr)), (ag, .inl (g 1, 60, .inl pg)), (av, .inl (g 0, 60, .inl pv)), (an, .inl (g 1, 60, .inl nt)), (v, .inr (1, [.ref vo, .ref vv])), (vo, .inl (g 0, 80, .inl ow)), (vv, .inl (g 0, 80, .inl vl))] := by
  refine ww_start (by decide +kernel) rfl rfl (Nat.le_of_ble_eq_true rfl) (L0 := [(0, .ref h)]) rfl ?_
  intro X O hl hD hg hR hn F
  subst hl hD hg
  have loop : ∀ (k b x y : Nat), 60 ≤ b + k → b ≤ 60 → x = px_cnt (fun b => px_on pg b && px_hole pl b) 0 b → y = px_cnt (fun b => px_on pg b && (!px_hole pl b && wr b == 0)) 0 b → ww_at X 0 0 6 [(0, .ref h), (1, .int (nI x)), (2, .int (nI y)), (3, .int (nI b))] [] [(h, .inr (0, [.ref v, .int (nI fo), .ref ap, .ref aw, .ref ag, .ref av, .ref an, .int sz])), (ap, .inl (ww_g X 0, 60, .inl pl)), (aw, .inl (ww_g X 1, 60, .inl wr)), (ag, .inl (ww_g X 1, 60, .inl pg)), (av, .inl (ww_g X 0, 60, .inl pv)), (an, .inl (ww_g X 1, 60, .inl nt)), (v, .inr (1, [.ref vo, .ref vv])), (vo, .inl (ww_g X 0, 80, .inl ow)), (vv, .inl (ww_g X 0, 80, .inl vl))] := by
    intro k
    induction k with
    | zero =>
      intro b x y h1 h2 h3 h4
      refine ww_iload_n O dd_BF_countReserved_6 3 rfl ?_
      refine ww_bipush O dd_BF_countReserved_7 (v := nI 60) rfl ?_
      refine ww_icmp_geN O dd_BF_countReserved_9 (tgt := 62) rfl (by omega) (by omega) (fun h9 => ?_) (fun h9 => ?_)
      · have e0 : b = 60 := by omega
        subst e0
        have hx1 : x = px_hh pl pg 0 := h3
        have hy1 : y = px_uu pl wr pg 0 := h4
        have hx2 := px_cnt_le (fun b => px_on pg b && px_hole pl b) 0 60
        have hy2 := px_cnt_le (fun b => px_on pg b && (!px_hole pl b && wr b == 0)) 0 60
        have he2 := px_ex_le pl wr 60 0 0
        have he3 : px_ee pl wr 0 ≤ 60 := he2
        refine ww_aload_n O dd_BF_countReserved_62 0 rfl ?_
        refine ww_callV (q0 := 0) (ci := 0) O (cc_BF_countExtents _ _ _ h v fo ap aw ag av an vo vv sz pl wr pg pv nt ow vl (by omega)) lc_BF_68 lx_BF_countExtents__I rfl rfl rfl (by rw [hR]; decide) (by rw [hR]; decide) (by rw [hR]; decide) rfl (Nat.le_of_ble_eq_true rfl) dd_BF_countReserved_63 rfl [0, 1, 2, 3, 4, 5, 6, 7, 8] [] [0, 1, 2, 3, 4, 5, 6, 7, 8] rfl (by decide) rfl (by decide) (by decide) (ws' := [(h, .inr (0, [.ref v, .int (nI fo), .ref ap, .ref aw, .ref ag, .ref av, .ref an, .int sz])), (ap, .inl (ww_g X 0, 60, .inl pl)), (aw, .inl (ww_g X 1, 60, .inl wr)), (ag, .inl (ww_g X 1, 60, .inl pg)), (av, .inl (ww_g X 0, 60, .inl pv)), (an, .inl (ww_g X 1, 60, .inl nt)), (v, .inr (1, [.ref vo, .ref vv])), (vo, .inl (ww_g X 0, 80, .inl ow)), (vv, .inl (ww_g X 0, 80, .inl vl))]) rfl rfl (by decide) ?_
        refine ww_istore_n O dd_BF_countReserved_66 (by rw [hn]; decide) rfl (L' := [(0, .ref h), (1, .int (nI x)), (2, .int (nI y)), (3, .int (nI (px_ee pl wr 0)))]) rfl ?_
        refine ww_iload_n O dd_BF_countReserved_67 3 rfl ?_
        refine ww_iload_n O dd_BF_countReserved_68 1 rfl ?_
        refine ww_iadd O dd_BF_countReserved_69 (v := nI ((px_ee pl wr 0) + x)) (nI_add _ _) ?_
        refine ww_iconst O dd_BF_countReserved_70 (v := nI 2) rfl ?_
        refine ww_iload_n O dd_BF_countReserved_71 2 rfl ?_
        refine ww_imul O dd_BF_countReserved_72 (v := nI (2 * y)) (pk_mul _ _) ?_
        refine ww_iadd O dd_BF_countReserved_73 (v := nI (((px_ee pl wr 0) + x) + (2 * y))) (nI_add _ _) ?_
        refine ww_istore O dd_BF_countReserved_74 (by rw [hn]; decide) rfl (L' := [(0, .ref h), (1, .int (nI x)), (2, .int (nI y)), (3, .int (nI (px_ee pl wr 0))), (4, .int (nI (((px_ee pl wr 0) + x) + (2 * y))))]) rfl ?_
        refine ww_iload_n O dd_BF_countReserved_76 1 rfl ?_
        refine ww_iload O dd_BF_countReserved_77 4 rfl ?_
        refine ww_callSN O (cc_DE_treeBlocks _ _ _ (((px_ee pl wr 0) + x) + (2 * y)) (by omega)) ln_BF_72 ls_DE_treeBlocks_I_I (by rw [hR]; decide) (by rw [hR]; decide) (by rw [hR]; decide) rfl (Nat.le_of_ble_eq_true rfl) dd_BF_countReserved_79 rfl [] [0, 1, 2, 3, 4, 5, 6, 7, 8] [0, 1, 2, 3, 4, 5, 6, 7, 8] rfl (by decide) rfl (by decide) (by decide) (ws' := [(h, .inr (0, [.ref v, .int (nI fo), .ref ap, .ref aw, .ref ag, .ref av, .ref an, .int sz])), (ap, .inl (ww_g X 0, 60, .inl pl)), (aw, .inl (ww_g X 1, 60, .inl wr)), (ag, .inl (ww_g X 1, 60, .inl pg)), (av, .inl (ww_g X 0, 60, .inl pv)), (an, .inl (ww_g X 1, 60, .inl nt)), (v, .inr (1, [.ref vo, .ref vv])), (vo, .inl (ww_g X 0, 80, .inl ow)), (vv, .inl (ww_g X 0, 80, .inl vl))]) rfl rfl (by decide) ?_
        refine ww_iadd O dd_BF_countReserved_82 (v := nI (x + (px_tree (((px_ee pl wr 0) + x) + (2 * y))))) (nI_add _ _) ?_
        refine ww_iload_n O dd_BF_countReserved_83 3 rfl ?_
        refine ww_callSN O (cc_DE_treeBlocks _ _ _ (px_ee pl wr 0) (by omega)) ln_BF_72 ls_DE_treeBlocks_I_I (by rw [hR]; decide) (by rw [hR]; decide) (by rw [hR]; decide) rfl (Nat.le_of_ble_eq_true rfl) dd_BF_countReserved_84 rfl [] [0, 1, 2, 3, 4, 5, 6, 7, 8] [0, 1, 2, 3, 4, 5, 6, 7, 8] rfl (by decide) rfl (by decide) (by decide) (ws' := [(h, .inr (0, [.ref v, .int (nI fo), .ref ap, .ref aw, .ref ag, .ref av, .ref an, .int sz])), (ap, .inl (ww_g X 0, 60, .inl pl)), (aw, .inl (ww_g X 1, 60, .inl wr)), (ag, .inl (ww_g X 1, 60, .inl pg)), (av, .inl (ww_g X 0, 60, .inl pv)), (an, .inl (ww_g X 1, 60, .inl nt)), (v, .inr (1, [.ref vo, .ref vv])), (vo, .inl (ww_g X 0, 80, .inl ow)), (vv, .inl (ww_g X 0, 80, .inl vl))]) rfl rfl (by decide) ?_
        have ht := px_tree_mono (show px_ee pl wr 0 ≤ px_ee pl wr 0 + x + 2 * y by omega)
        refine ww_isub O dd_BF_countReserved_87 (v := nI ((x + (px_tree (((px_ee pl wr 0) + x) + (2 * y)))) - (px_tree (px_ee pl wr 0)))) (pk_sub (by omega)) ?_
        rw [show px_res pl wr pg 0 = ((x + (px_tree (((px_ee pl wr 0) + x) + (2 * y)))) - (px_tree (px_ee pl wr 0))) from by unfold px_res; rw [← hx1, ← hy1]] at F
        exact F.i dd_BF_countReserved_88
      · exfalso; omega
    | succ k ih =>
      intro b x y h1 h2 h3 h4
      refine ww_iload_n O dd_BF_countReserved_6 3 rfl ?_
      refine ww_bipush O dd_BF_countReserved_7 (v := nI 60) rfl ?_
      refine ww_icmp_geN O dd_BF_countReserved_9 (tgt := 62) rfl (by omega) (by omega) (fun h9 => ?_) (fun h9 => ?_)
      · have e0 : b = 60 := by omega
        subst e0
        have hx1 : x = px_hh pl pg 0 := h3
        have hy1 : y = px_uu pl wr pg 0 := h4
        have hx2 := px_cnt_le (fun b => px_on pg b && px_hole pl b) 0 60
        have hy2 := px_cnt_le (fun b => px_on pg b && (!px_hole pl b && wr b == 0)) 0 60
        have he2 := px_ex_le pl wr 60 0 0
        have he3 : px_ee pl wr 0 ≤ 60 := he2
        refine ww_aload_n O dd_BF_countReserved_62 0 rfl ?_
        refine ww_callV (q0 := 0) (ci := 0) O (cc_BF_countExtents _ _ _ h v fo ap aw ag av an vo vv sz pl wr pg pv nt ow vl (by omega)) lc_BF_68 lx_BF_countExtents__I rfl rfl rfl (by rw [hR]; decide) (by rw [hR]; decide) (by rw [hR]; decide) rfl (Nat.le_of_ble_eq_true rfl) dd_BF_countReserved_63 rfl [0, 1, 2, 3, 4, 5, 6, 7, 8] [] [0, 1, 2, 3, 4, 5, 6, 7, 8] rfl (by decide) rfl (by decide) (by decide) (ws' := [(h, .inr (0, [.ref v, .int (nI fo), .ref ap, .ref aw, .ref ag, .ref av, .ref an, .int sz])), (ap, .inl (ww_g X 0, 60, .inl pl)), (aw, .inl (ww_g X 1, 60, .inl wr)), (ag, .inl (ww_g X 1, 60, .inl pg)), (av, .inl (ww_g X 0, 60, .inl pv)), (an, .inl (ww_g X 1, 60, .inl nt)), (v, .inr (1, [.ref vo, .ref vv])), (vo, .inl (ww_g X 0, 80, .inl ow)), (vv, .inl (ww_g X 0, 80, .inl vl))]) rfl rfl (by decide) ?_
        refine ww_istore_n O dd_BF_countReserved_66 (by rw [hn]; decide) rfl (L' := [(0, .ref h), (1, .int (nI x)), (2, .int (nI y)), (3, .int (nI (px_ee pl wr 0)))]) rfl ?_
        refine ww_iload_n O dd_BF_countReserved_67 3 rfl ?_
        refine ww_iload_n O dd_BF_countReserved_68 1 rfl ?_
        refine ww_iadd O dd_BF_countReserved_69 (v := nI ((px_ee pl wr 0) + x)) (nI_add _ _) ?_
        refine ww_iconst O dd_BF_countReserved_70 (v := nI 2) rfl ?_
        refine ww_iload_n O dd_BF_countReserved_71 2 rfl ?_
        refine ww_imul O dd_BF_countReserved_72 (v := nI (2 * y)) (pk_mul _ _) ?_
        refine ww_iadd O dd_BF_countReserved_73 (v := nI (((px_ee pl wr 0) + x) + (2 * y))) (nI_add _ _) ?_
        refine ww_istore O dd_BF_countReserved_74 (by rw [hn]; decide) rfl (L' := [(0, .ref h), (1, .int (nI x)), (2, .int (nI y)), (3, .int (nI (px_ee pl wr 0))), (4, .int (nI (((px_ee pl wr 0) + x) + (2 * y))))]) rfl ?_
        refine ww_iload_n O dd_BF_countReserved_76 1 rfl ?_
        refine ww_iload O dd_BF_countReserved_77 4 rfl ?_
        refine ww_callSN O (cc_DE_treeBlocks _ _ _ (((px_ee pl wr 0) + x) + (2 * y)) (by omega)) ln_BF_72 ls_DE_treeBlocks_I_I (by rw [hR]; decide) (by rw [hR]; decide) (by rw [hR]; decide) rfl (Nat.le_of_ble_eq_true rfl) dd_BF_countReserved_79 rfl [] [0, 1, 2, 3, 4, 5, 6, 7, 8] [0, 1, 2, 3, 4, 5, 6, 7, 8] rfl (by decide) rfl (by decide) (by decide) (ws' := [(h, .inr (0, [.ref v, .int (nI fo), .ref ap, .ref aw, .ref ag, .ref av, .ref an, .int sz])), (ap, .inl (ww_g X 0, 60, .inl pl)), (aw, .inl (ww_g X 1, 60, .inl wr)), (ag, .inl (ww_g X 1, 60, .inl pg)), (av, .inl (ww_g X 0, 60, .inl pv)), (an, .inl (ww_g X 1, 60, .inl nt)), (v, .inr (1, [.ref vo, .ref vv])), (vo, .inl (ww_g X 0, 80, .inl ow)), (vv, .inl (ww_g X 0, 80, .inl vl))]) rfl rfl (by decide) ?_
        refine ww_iadd O dd_BF_countReserved_82 (v := nI (x + (px_tree (((px_ee pl wr 0) + x) + (2 * y))))) (nI_add _ _) ?_
        refine ww_iload_n O dd_BF_countReserved_83 3 rfl ?_
        refine ww_callSN O (cc_DE_treeBlocks _ _ _ (px_ee pl wr 0) (by omega)) ln_BF_72 ls_DE_treeBlocks_I_I (by rw [hR]; decide) (by rw [hR]; decide) (by rw [hR]; decide) rfl (Nat.le_of_ble_eq_true rfl) dd_BF_countReserved_84 rfl [] [0, 1, 2, 3, 4, 5, 6, 7, 8] [0, 1, 2, 3, 4, 5, 6, 7, 8] rfl (by decide) rfl (by decide) (by decide) (ws' := [(h, .inr (0, [.ref v, .int (nI fo), .ref ap, .ref aw, .ref ag, .ref av, .ref an, .int sz])), (ap, .inl (ww_g X 0, 60, .inl pl)), (aw, .inl (ww_g X 1, 60, .inl wr)), (ag, .inl (ww_g X 1, 60, .inl pg)), (av, .inl (ww_g X 0, 60, .inl pv)), (an, .inl (ww_g X 1, 60, .inl nt)), (v, .inr (1, [.ref vo, .ref vv])), (vo, .inl (ww_g X 0, 80, .inl ow)), (vv, .inl (ww_g X 0, 80, .inl vl))]) rfl rfl (by decide) ?_
        have ht := px_tree_mono (show px_ee pl wr 0 ≤ px_ee pl wr 0 + x + 2 * y by omega)
        refine ww_isub O dd_BF_countReserved_87 (v := nI ((x + (px_tree (((px_ee pl wr 0) + x) + (2 * y)))) - (px_tree (px_ee pl wr 0)))) (pk_sub (by omega)) ?_
        rw [show px_res pl wr pg 0 = ((x + (px_tree (((px_ee pl wr 0) + x) + (2 * y)))) - (px_tree (px_ee pl wr 0))) from by unfold px_res; rw [← hx1, ← hy1]] at F
        exact F.i dd_BF_countReserved_88
      · refine ww_aload_n O dd_BF_countReserved_12 0 rfl ?_
        refine ww_get O ci_BF rfl 4 (by decide) lf_BF_19 rfl dd_BF_countReserved_13 0 rfl rfl ?_
        refine ww_iload_n O dd_BF_countReserved_16 3 rfl ?_
        refine ww_zald O dd_BF_countReserved_17 3 rfl (by omega) (by decide) rfl ?_
        refine ww_if_eq O dd_BF_countReserved_18 (tgt := 35) rfl (fun h18 => ?_) (fun h18 => ?_)
        · refine ww_aload_n O dd_BF_countReserved_35 0 rfl ?_
          refine ww_get O ci_BF rfl 4 (by decide) lf_BF_19 rfl dd_BF_countReserved_36 0 rfl rfl ?_
          refine ww_iload_n O dd_BF_countReserved_39 3 rfl ?_
          refine ww_zald O dd_BF_countReserved_40 3 rfl (by omega) (by decide) rfl ?_
          refine ww_if_eq O dd_BF_countReserved_41 (tgt := 56) rfl (fun h41 => ?_) (fun h41 => ?_)
          · refine ww_iinc O dd_BF_countReserved_56 3 rfl (v := nI (b + 1)) (nI_add _ 1) (by rw [hn]; decide) rfl (L' := [(0, .ref h), (1, .int (nI x)), (2, .int (nI y)), (3, .int (nI (b + 1)))]) rfl ?_
            refine ww_goto O dd_BF_countReserved_59 (tgt := 6) rfl ?_
            exact ih (b + 1) x y (by omega) (by omega) (px_c0f h3 (by simp [px_on, h18])) (px_c0f h4 (by simp [px_on, h18]))
          · exact absurd h18 h41
        · refine ww_aload_n O dd_BF_countReserved_21 0 rfl ?_
          refine ww_iload_n O dd_BF_countReserved_22 3 rfl ?_
          refine ww_callV (q0 := 0) (ci := 0) O (cc_BF_isHole _ _ _ h v fo ap aw ag av an vo vv sz pl wr pg pv nt ow vl b (by omega)) lc_BF_55 lx_BF_isHole_I_Z rfl rfl rfl (by rw [hR]; decide) (by rw [hR]; decide) (by rw [hR]; decide) rfl (Nat.le_of_ble_eq_true rfl) dd_BF_countReserved_23 rfl [0, 1, 2, 3, 4, 5, 6, 7, 8] [] [0, 1, 2, 3, 4, 5, 6, 7, 8] rfl (by decide) rfl (by decide) (by decide) (ws' := [(h, .inr (0, [.ref v, .int (nI fo), .ref ap, .ref aw, .ref ag, .ref av, .ref an, .int sz])), (ap, .inl (ww_g X 0, 60, .inl pl)), (aw, .inl (ww_g X 1, 60, .inl wr)), (ag, .inl (ww_g X 1, 60, .inl pg)), (av, .inl (ww_g X 0, 60, .inl pv)), (an, .inl (ww_g X 1, 60, .inl nt)), (v, .inr (1, [.ref vo, .ref vv])), (vo, .inl (ww_g X 0, 80, .inl ow)), (vv, .inl (ww_g X 0, 80, .inl vl))]) rfl rfl (by decide) ?_
          refine ww_if_eqB O dd_BF_countReserved_26 (tgt := 35) rfl (fun h26 => ?_) (fun h26 => ?_)
          · refine ww_aload_n O dd_BF_countReserved_35 0 rfl ?_
            refine ww_get O ci_BF rfl 4 (by decide) lf_BF_19 rfl dd_BF_countReserved_36 0 rfl rfl ?_
            refine ww_iload_n O dd_BF_countReserved_39 3 rfl ?_
            refine ww_zald O dd_BF_countReserved_40 3 rfl (by omega) (by decide) rfl ?_
            refine ww_if_eq O dd_BF_countReserved_41 (tgt := 56) rfl (fun h41 => ?_) (fun h41 => ?_)
            · exact absurd h41 h18
            · refine ww_aload_n O dd_BF_countReserved_44 0 rfl ?_
              refine ww_get O ci_BF rfl 3 (by decide) lf_BF_15 rfl dd_BF_countReserved_45 0 rfl rfl ?_
              refine ww_iload_n O dd_BF_countReserved_48 3 rfl ?_
              refine ww_zald O dd_BF_countReserved_49 2 rfl (by omega) (by decide) rfl ?_
              refine ww_if_ne O dd_BF_countReserved_50 (tgt := 56) rfl (fun h50 => ?_) (fun h50 => ?_)
              · refine ww_iinc O dd_BF_countReserved_56 3 rfl (v := nI (b + 1)) (nI_add _ 1) (by rw [hn]; decide) rfl (L' := [(0, .ref h), (1, .int (nI x)), (2, .int (nI y)), (3, .int (nI (b + 1)))]) rfl ?_
                refine ww_goto O dd_BF_countReserved_59 (tgt := 6) rfl ?_
                exact ih (b + 1) x y (by omega) (by omega) (px_c0f h3 (by simp [px_on, h18, h26, h50])) (px_c0f h4 (by simp [px_on, h18, h26, h50]))
              · refine ww_iinc O dd_BF_countReserved_53 2 rfl (v := nI (y + 1)) (nI_add _ 1) (by rw [hn]; decide) rfl (L' := [(0, .ref h), (1, .int (nI x)), (2, .int (nI (y + 1))), (3, .int (nI b))]) rfl ?_
                refine ww_iinc O dd_BF_countReserved_56 3 rfl (v := nI (b + 1)) (nI_add _ 1) (by rw [hn]; decide) rfl (L' := [(0, .ref h), (1, .int (nI x)), (2, .int (nI (y + 1))), (3, .int (nI (b + 1)))]) rfl ?_
                refine ww_goto O dd_BF_countReserved_59 (tgt := 6) rfl ?_
                exact ih (b + 1) x (y + 1) (by omega) (by omega) (px_c0f h3 (by simp [px_on, h18, h26, h50])) (px_c0t h4 (by simp [px_on, h18, h26, h50]))
          · refine ww_iinc O dd_BF_countReserved_29 1 rfl (v := nI (x + 1)) (nI_add _ 1) (by rw [hn]; decide) rfl (L' := [(0, .ref h), (1, .int (nI (x + 1))), (2, .int (nI y)), (3, .int (nI b))]) rfl ?_
            refine ww_goto O dd_BF_countReserved_32 (tgt := 56) rfl ?_
            refine ww_iinc O dd_BF_countReserved_56 3 rfl (v := nI (b + 1)) (nI_add _ 1) (by rw [hn]; decide) rfl (L' := [(0, .ref h), (1, .int (nI (x + 1))), (2, .int (nI y)), (3, .int (nI (b + 1)))]) rfl ?_
            refine ww_goto O dd_BF_countReserved_59 (tgt := 6) rfl ?_
            exact ih (b + 1) (x + 1) y (by omega) (by omega) (px_c0t h3 (by simp [px_on, h18, h26])) (px_c0f h4 (by simp [px_on, h18, h26]))
  refine ww_iconst O dd_BF_countReserved_0 (v := nI 0) rfl ?_
  refine ww_istore_n O dd_BF_countReserved_1 (by rw [hn]; decide) rfl (L' := [(0, .ref h), (1, .int (nI 0))]) rfl ?_
  refine ww_iconst O dd_BF_countReserved_2 (v := nI 0) rfl ?_
  refine ww_istore_n O dd_BF_countReserved_3 (by rw [hn]; decide) rfl (L' := [(0, .ref h), (1, .int (nI 0)), (2, .int (nI 0))]) rfl ?_
  refine ww_iconst O dd_BF_countReserved_4 (v := nI 0) rfl ?_
  refine ww_istore_n O dd_BF_countReserved_5 (by rw [hn]; decide) rfl (L' := [(0, .ref h), (1, .int (nI 0)), (2, .int (nI 0)), (3, .int (nI 0))]) rfl ?_
  exact loop 60 0 0 0 (by omega) (by omega) rfl rfl
set_option maxRecDepth 4000 in
theorem cc_BF_endOfRow (l : Launch) (D : va_G) (g : Nat → ClassId) (h : Nat) (v : Nat) (fo : Nat) (ap : Nat) (aw : Nat) (ag : Nat) (av : Nat) (an : Nat) (vo : Nat) (vv : Nat) (sz : Int32) (pl : Nat → Int32) (wr : Nat → Int32) (pg : Nat → Int32) (pv : Nat → Int32) (nt : Nat → Int32) (ow : Nat → Int32) (vl : Nat → Int32) (a : Nat) (e : Nat) (only : Bool) (ha : a ≤ e) (he : e ≤ 60) : ww_ct l D g yy_BF_endOfRow bb_BF_endOfRow 5 (some .int) (ww_rm 2) [.ref h, .int (nI a), .int (nI e), .int (px_b only)] [(h, .inr (0, [.ref v, .int (nI fo), .ref ap, .ref aw, .ref ag, .ref av, .ref an, .int sz])), (ap, .inl (g 0, 60, .inl pl)), (aw, .inl (g 1, 60, .inl wr)), (ag, .inl (g 1, 60, .inl pg)), (av, .inl (g 0, 60, .inl pv)), (an, .inl (g 1, 60, .inl nt)), (v, .inr (1, [.ref vo, .ref vv])), (vo, .inl (g 0, 80, .inl ow)), (vv, .inl (g 0, 80, .inl vl))] (some (.int (nI (px_er (fun j => px_hole pl j && (px_on pg j || !only)) (e - a) a)))) [(h, .inr (0, [.ref v, .int (nI fo), .ref ap, .ref aw, .ref ag, .ref av, .ref an, .int sz])), (ap, .inl (g 0, 60, .inl pl)), (aw, .inl (g 1, 60, .inl wr)), (ag, .inl (g 1, 60, .inl pg)), (av, .inl (g 0, 60, .inl pv)), (an, .inl (g 1, 60, .inl nt)), (v, .inr (1, [.ref vo, .ref vv])), (vo, .inl (g 0, 80, .inl ow)), (vv, .inl (g 0, 80, .inl vl))] := by
  refine ww_start (by decide +kernel) rfl rfl (Nat.le_of_ble_eq_true rfl) (L0 := [(0, .ref h), (1, .int (nI a)), (2, .int (nI e)), (3, .int (px_b only))]) rfl ?_
  intro X O hl hD hg hR hn F
  subst hl hD hg
  have loop : ∀ (k b : Nat), e ≤ b + k → a ≤ b → b ≤ e → px_er (fun j => px_hole pl j && (px_on pg j || !only)) (e - b) b = px_er (fun j => px_hole pl j && (px_on pg j || !only)) (e - a) a → ww_at X 0 0 3 [(0, .ref h), (1, .int (nI a)), (2, .int (nI e)), (3, .int (px_b only)), (4, .int (nI b))] [] [(h, .inr (0, [.ref v, .int (nI fo), .ref ap, .ref aw, .ref ag, .ref av, .ref an, .int sz])), (ap, .inl (ww_g X 0, 60, .inl pl)), (aw, .inl (ww_g X 1, 60, .inl wr)), (ag, .inl (ww_g X 1, 60, .inl pg)), (av, .inl (ww_g X 0, 60, .inl pv)), (an, .inl (ww_g X 1, 60, .inl nt)), (v, .inr (1, [.ref vo, .ref vv])), (vo, .inl (ww_g X 0, 80, .inl ow)), (vv, .inl (ww_g X 0, 80, .inl vl))] := by
    intro k
    induction k with
    | zero =>
      intro b h1 h2 h3 h4
      refine ww_iload O dd_BF_endOfRow_3 4 rfl ?_
      refine ww_iload_n O dd_BF_endOfRow_5 2 rfl ?_
      refine ww_icmp_geN O dd_BF_endOfRow_6 (tgt := 38) rfl (by omega) (by omega) (fun h6 => ?_) (fun h6 => ?_)
      · refine ww_iload O dd_BF_endOfRow_38 4 rfl ?_
        rw [← h4, px_er_s, if_neg (fun z => by omega)] at F
        exact F.i dd_BF_endOfRow_40
      · exfalso; omega
    | succ k ih =>
      intro b h1 h2 h3 h4
      refine ww_iload O dd_BF_endOfRow_3 4 rfl ?_
      refine ww_iload_n O dd_BF_endOfRow_5 2 rfl ?_
      refine ww_icmp_geN O dd_BF_endOfRow_6 (tgt := 38) rfl (by omega) (by omega) (fun h6 => ?_) (fun h6 => ?_)
      · refine ww_iload O dd_BF_endOfRow_38 4 rfl ?_
        rw [← h4, px_er_s, if_neg (fun z => by omega)] at F
        exact F.i dd_BF_endOfRow_40
      · refine ww_aload_n O dd_BF_endOfRow_9 0 rfl ?_
        refine ww_iload O dd_BF_endOfRow_10 4 rfl ?_
        refine ww_callV (q0 := 0) (ci := 0) O (cc_BF_isHole _ _ _ h v fo ap aw ag av an vo vv sz pl wr pg pv nt ow vl b (by omega)) lc_BF_55 lx_BF_isHole_I_Z rfl rfl rfl (by rw [hR]; decide) (by rw [hR]; decide) (by rw [hR]; decide) rfl (Nat.le_of_ble_eq_true rfl) dd_BF_endOfRow_12 rfl [0, 1, 2, 3, 4, 5, 6, 7, 8] [] [0, 1, 2, 3, 4, 5, 6, 7, 8] rfl (by decide) rfl (by decide) (by decide) (ws' := [(h, .inr (0, [.ref v, .int (nI fo), .ref ap, .ref aw, .ref ag, .ref av, .ref an, .int sz])), (ap, .inl (ww_g X 0, 60, .inl pl)), (aw, .inl (ww_g X 1, 60, .inl wr)), (ag, .inl (ww_g X 1, 60, .inl pg)), (av, .inl (ww_g X 0, 60, .inl pv)), (an, .inl (ww_g X 1, 60, .inl nt)), (v, .inr (1, [.ref vo, .ref vv])), (vo, .inl (ww_g X 0, 80, .inl ow)), (vv, .inl (ww_g X 0, 80, .inl vl))]) rfl rfl (by decide) ?_
        refine ww_if_eqB O dd_BF_endOfRow_15 (tgt := 38) rfl (fun h15 => ?_) (fun h15 => ?_)
        · refine ww_iload O dd_BF_endOfRow_38 4 rfl ?_
          rw [← h4, px_er_s, if_neg (fun z => by simp [h15] at z)] at F
          exact F.i dd_BF_endOfRow_40
        · refine ww_aload_n O dd_BF_endOfRow_18 0 rfl ?_
          refine ww_get O ci_BF rfl 4 (by decide) lf_BF_19 rfl dd_BF_endOfRow_19 0 rfl rfl ?_
          refine ww_iload O dd_BF_endOfRow_22 4 rfl ?_
          refine ww_zald O dd_BF_endOfRow_24 3 rfl (by omega) (by decide) rfl ?_
          refine ww_if_ne O dd_BF_endOfRow_25 (tgt := 32) rfl (fun h25 => ?_) (fun h25 => ?_)
          · refine ww_iinc O dd_BF_endOfRow_32 4 rfl (v := nI (b + 1)) (nI_add _ 1) (by rw [hn]; decide) rfl (L' := [(0, .ref h), (1, .int (nI a)), (2, .int (nI e)), (3, .int (px_b only)), (4, .int (nI (b + 1)))]) rfl ?_
            refine ww_goto O dd_BF_endOfRow_35 (tgt := 3) rfl ?_
            exact ih (b + 1) (by omega) (by omega) (by omega) (by rw [← h4, px_er_s (b := b), if_pos ⟨by omega, by simp [px_on, h15, h25]⟩, show e - b - 1 = e - (b + 1) by omega])
          · refine ww_iload_n O dd_BF_endOfRow_28 3 rfl ?_
            refine ww_if_neB O dd_BF_endOfRow_29 (tgt := 38) rfl (fun h29 => ?_) (fun h29 => ?_)
            · refine ww_iload O dd_BF_endOfRow_38 4 rfl ?_
              rw [← h4, px_er_s, if_neg (fun z => by simp [px_on, h15, h25, h29] at z)] at F
              exact F.i dd_BF_endOfRow_40
            · refine ww_iinc O dd_BF_endOfRow_32 4 rfl (v := nI (b + 1)) (nI_add _ 1) (by rw [hn]; decide) rfl (L' := [(0, .ref h), (1, .int (nI a)), (2, .int (nI e)), (3, .int (px_b only)), (4, .int (nI (b + 1)))]) rfl ?_
              refine ww_goto O dd_BF_endOfRow_35 (tgt := 3) rfl ?_
              exact ih (b + 1) (by omega) (by omega) (by omega) (by rw [← h4, px_er_s (b := b), if_pos ⟨by omega, by simp [px_on, h15, h25, h29]⟩, show e - b - 1 = e - (b + 1) by omega])
  refine ww_iload_n O dd_BF_endOfRow_0 1 rfl ?_
  refine ww_istore O dd_BF_endOfRow_1 (by rw [hn]; decide) rfl (L' := [(0, .ref h), (1, .int (nI a)), (2, .int (nI e)), (3, .int (px_b only)), (4, .int (nI a))]) rfl ?_
  exact loop e a (by omega) (by omega) (by omega) rfl
end
section
theorem lc_BF_95 : ww_site "DelayedExtents$BlockFile" 95 yy_VO_isUntaken bb_VO_isUntaken 2 (some .boolean) 1 := ⟨List.mem_filter.mpr ⟨List.mem_of_getElem? (i := 370) (by decide +kernel), by decide +kernel⟩, List.mem_filter.mpr ⟨List.mem_of_getElem? (i := 367) (by decide +kernel), by decide +kernel⟩, List.mem_filter.mpr ⟨List.mem_of_getElem? (i := 27) (by decide +kernel), by decide +kernel⟩, by decide, by decide, by decide +kernel⟩
theorem lx_VO_isUntaken_I_Z : ww_virt yy_VO_isUntaken := ⟨List.mem_filter.mpr ⟨List.mem_of_getElem? (i := 368) (by decide +kernel), by decide +kernel⟩, List.mem_filter.mpr ⟨List.mem_of_getElem? (i := 369) (by decide +kernel), by decide +kernel⟩⟩
theorem lf_BF_36 : Cond.fieldLink "DelayedExtents$BlockFile" 36 "DelayedExtents$BlockFile" "firstOwner" "I" ∈ lw_good := List.mem_filter.mpr ⟨List.mem_of_getElem? (i := 73) (by decide +kernel), by decide +kernel⟩
theorem lc_BF_104 : ww_site "DelayedExtents$BlockFile" 104 yy_VO_take bb_VO_take 3 none 2 := ⟨List.mem_filter.mpr ⟨List.mem_of_getElem? (i := 389) (by decide +kernel), by decide +kernel⟩, List.mem_filter.mpr ⟨List.mem_of_getElem? (i := 386) (by decide +kernel), by decide +kernel⟩, List.mem_filter.mpr ⟨List.mem_of_getElem? (i := 27) (by decide +kernel), by decide +kernel⟩, by decide, by decide, by decide +kernel⟩
theorem lx_VO_take_II_V : ww_virt yy_VO_take := ⟨List.mem_filter.mpr ⟨List.mem_of_getElem? (i := 387) (by decide +kernel), by decide +kernel⟩, List.mem_filter.mpr ⟨List.mem_of_getElem? (i := 388) (by decide +kernel), by decide +kernel⟩⟩
theorem lc_BF_101 : ww_site "DelayedExtents$BlockFile" 101 yy_BF_mapTo bb_BF_mapTo 3 none 2 := ⟨List.mem_filter.mpr ⟨List.mem_of_getElem? (i := 385) (by decide +kernel), by decide +kernel⟩, List.mem_filter.mpr ⟨List.mem_of_getElem? (i := 382) (by decide +kernel), by decide +kernel⟩, List.mem_filter.mpr ⟨List.mem_of_getElem? (i := 29) (by decide +kernel), by decide +kernel⟩, by decide, by decide, by decide +kernel⟩
theorem lx_BF_mapTo_II_V : ww_virt yy_BF_mapTo := ⟨List.mem_filter.mpr ⟨List.mem_of_getElem? (i := 384) (by decide +kernel), by decide +kernel⟩, List.mem_filter.mpr ⟨List.mem_of_getElem? (i := 8) (by decide +kernel), by decide +kernel⟩⟩
theorem lc_BF_98 : ww_site "DelayedExtents$BlockFile" 98 yy_VO_bestRow bb_VO_bestRow 6 (some .int) 1 := ⟨List.mem_filter.mpr ⟨List.mem_of_getElem? (i := 374) (by decide +kernel), by decide +kernel⟩, List.mem_filter.mpr ⟨List.mem_of_getElem? (i := 371) (by decide +kernel), by decide +kernel⟩, List.mem_filter.mpr ⟨List.mem_of_getElem? (i := 27) (by decide +kernel), by decide +kernel⟩, by decide, by decide, by decide +kernel⟩
theorem lx_VO_bestRow_I_I : ww_virt yy_VO_bestRow := ⟨List.mem_filter.mpr ⟨List.mem_of_getElem? (i := 372) (by decide +kernel), by decide +kernel⟩, List.mem_filter.mpr ⟨List.mem_of_getElem? (i := 373) (by decide +kernel), by decide +kernel⟩⟩
theorem lc_BF_92 : ww_site "DelayedExtents$BlockFile" 92 yy_BF_placeBehind bb_BF_placeBehind 2 (some .int) 1 := ⟨List.mem_filter.mpr ⟨List.mem_of_getElem? (i := 366) (by decide +kernel), by decide +kernel⟩, List.mem_filter.mpr ⟨List.mem_of_getElem? (i := 363) (by decide +kernel), by decide +kernel⟩, List.mem_filter.mpr ⟨List.mem_of_getElem? (i := 29) (by decide +kernel), by decide +kernel⟩, by decide, by decide, by decide +kernel⟩
theorem lx_BF_placeBehind_I_I : ww_virt yy_BF_placeBehind := ⟨List.mem_filter.mpr ⟨List.mem_of_getElem? (i := 365) (by decide +kernel), by decide +kernel⟩, List.mem_filter.mpr ⟨List.mem_of_getElem? (i := 6) (by decide +kernel), by decide +kernel⟩⟩
theorem lc_BF_84 : ww_site "DelayedExtents$BlockFile" 84 yy_BF_endOfRow bb_BF_endOfRow 5 (some .int) 3 := ⟨List.mem_filter.mpr ⟨List.mem_of_getElem? (i := 358) (by decide +kernel), by decide +kernel⟩, List.mem_filter.mpr ⟨List.mem_of_getElem? (i := 355) (by decide +kernel), by decide +kernel⟩, List.mem_filter.mpr ⟨List.mem_of_getElem? (i := 29) (by decide +kernel), by decide +kernel⟩, by decide, by decide, by decide +kernel⟩
theorem lx_BF_endOfRow_IIZ_I : ww_virt yy_BF_endOfRow := ⟨List.mem_filter.mpr ⟨List.mem_of_getElem? (i := 357) (by decide +kernel), by decide +kernel⟩, List.mem_filter.mpr ⟨List.mem_of_getElem? (i := 4) (by decide +kernel), by decide +kernel⟩⟩
theorem lc_BF_88 : ww_site "DelayedExtents$BlockFile" 88 yy_BF_mapRow bb_BF_mapRow 5 none 2 := ⟨List.mem_filter.mpr ⟨List.mem_of_getElem? (i := 362) (by decide +kernel), by decide +kernel⟩, List.mem_filter.mpr ⟨List.mem_of_getElem? (i := 359) (by decide +kernel), by decide +kernel⟩, List.mem_filter.mpr ⟨List.mem_of_getElem? (i := 29) (by decide +kernel), by decide +kernel⟩, by decide, by decide, by decide +kernel⟩
theorem lx_BF_mapRow_II_V : ww_virt yy_BF_mapRow := ⟨List.mem_filter.mpr ⟨List.mem_of_getElem? (i := 361) (by decide +kernel), by decide +kernel⟩, List.mem_filter.mpr ⟨List.mem_of_getElem? (i := 5) (by decide +kernel), by decide +kernel⟩⟩
theorem lc_BF_107 : ww_site "DelayedExtents$BlockFile" 107 yy_VO_release bb_VO_release 2 none 1 := ⟨List.mem_filter.mpr ⟨List.mem_of_getElem? (i := 401) (by decide +kernel), by decide +kernel⟩, List.mem_filter.mpr ⟨List.mem_of_getElem? (i := 398) (by decide +kernel), by decide +kernel⟩, List.mem_filter.mpr ⟨List.mem_of_getElem? (i := 27) (by decide +kernel), by decide +kernel⟩, by decide, by decide, by decide +kernel⟩
theorem lx_VO_release_I_V : ww_virt yy_VO_release := ⟨List.mem_filter.mpr ⟨List.mem_of_getElem? (i := 399) (by decide +kernel), by decide +kernel⟩, List.mem_filter.mpr ⟨List.mem_of_getElem? (i := 400) (by decide +kernel), by decide +kernel⟩⟩
theorem lc_BF_110 : ww_site "DelayedExtents$BlockFile" 110 yy_BF_unmap bb_BF_unmap 2 none 1 := ⟨List.mem_filter.mpr ⟨List.mem_of_getElem? (i := 397) (by decide +kernel), by decide +kernel⟩, List.mem_filter.mpr ⟨List.mem_of_getElem? (i := 394) (by decide +kernel), by decide +kernel⟩, List.mem_filter.mpr ⟨List.mem_of_getElem? (i := 29) (by decide +kernel), by decide +kernel⟩, by decide, by decide, by decide +kernel⟩
theorem lx_BF_unmap_I_V : ww_virt yy_BF_unmap := ⟨List.mem_filter.mpr ⟨List.mem_of_getElem? (i := 396) (by decide +kernel), by decide +kernel⟩, List.mem_filter.mpr ⟨List.mem_of_getElem? (i := 9) (by decide +kernel), by decide +kernel⟩⟩
theorem lc_BF_116 : ww_site "DelayedExtents$BlockFile" 116 yy_VO_setValue bb_VO_setValue 3 none 2 := ⟨List.mem_filter.mpr ⟨List.mem_of_getElem? (i := 442) (by decide +kernel), by decide +kernel⟩, List.mem_filter.mpr ⟨List.mem_of_getElem? (i := 439) (by decide +kernel), by decide +kernel⟩, List.mem_filter.mpr ⟨List.mem_of_getElem? (i := 27) (by decide +kernel), by decide +kernel⟩, by decide, by decide, by decide +kernel⟩
theorem lx_VO_setValue_II_V : ww_virt yy_VO_setValue := ⟨List.mem_filter.mpr ⟨List.mem_of_getElem? (i := 440) (by decide +kernel), by decide +kernel⟩, List.mem_filter.mpr ⟨List.mem_of_getElem? (i := 441) (by decide +kernel), by decide +kernel⟩⟩
theorem lc_BF_113 : ww_site "DelayedExtents$BlockFile" 113 yy_BF_writePage bb_BF_writePage 2 none 1 := ⟨List.mem_filter.mpr ⟨List.mem_of_getElem? (i := 438) (by decide +kernel), by decide +kernel⟩, List.mem_filter.mpr ⟨List.mem_of_getElem? (i := 435) (by decide +kernel), by decide +kernel⟩, List.mem_filter.mpr ⟨List.mem_of_getElem? (i := 29) (by decide +kernel), by decide +kernel⟩, by decide, by decide, by decide +kernel⟩
theorem lx_BF_writePage_I_V : ww_virt yy_BF_writePage := ⟨List.mem_filter.mpr ⟨List.mem_of_getElem? (i := 437) (by decide +kernel), by decide +kernel⟩, List.mem_filter.mpr ⟨List.mem_of_getElem? (i := 10) (by decide +kernel), by decide +kernel⟩⟩
theorem lf_BF_25 : Cond.fieldLink "DelayedExtents$BlockFile" 25 "DelayedExtents$BlockFile" "notedHoles" "[Z" ∈ lw_good := List.mem_filter.mpr ⟨List.mem_of_getElem? (i := 78) (by decide +kernel), by decide +kernel⟩
set_option maxRecDepth 4000 in
theorem cc_BF_pb_m1 (l : Launch) (D : va_G) (g : Nat → ClassId) (h : Nat) (v : Nat) (fo : Nat) (ap : Nat) (aw : Nat) (ag : Nat) (av : Nat) (an : Nat) (vo : Nat) (vv : Nat) (sz : Int32) (pl : Nat → Int32) (wr : Nat → Int32) (pg : Nat → Int32) (pv : Nat → Int32) (nt : Nat → Int32) (ow : Nat → Int32) (vl : Nat → Int32)  : ww_ct l D g yy_BF_placeBehind bb_BF_placeBehind 2 (some .int) (ww_rm 2) [.ref h, .int (-1)] [(h, .inr (0, [.ref v, .int (nI fo), .ref ap, .ref aw, .ref ag, .ref av, .ref an, .int sz])), (ap, .inl (g 0, 60, .inl pl)), (aw, .inl (g 1, 60, .inl wr)), (ag, .inl (g 1, 60, .inl pg)), (av, .inl (g 0, 60, .inl pv)), (an, .inl (g 1, 60, .inl nt)), (v, .inr (1, [.ref vo, .ref vv])), (vo, .inl (g 0, 80, .inl ow)), (vv, .inl (g 0, 80, .inl vl))] (some (.int (-1))) [(h, .inr (0, [.ref v, .int (nI fo), .ref ap, .ref aw, .ref ag, .ref av, .ref an, .int sz])), (ap, .inl (g 0, 60, .inl pl)), (aw, .inl (g 1, 60, .inl wr)), (ag, .inl (g 1, 60, .inl pg)), (av, .inl (g 0, 60, .inl pv)), (an, .inl (g 1, 60, .inl nt)), (v, .inr (1, [.ref vo, .ref vv])), (vo, .inl (g 0, 80, .inl ow)), (vv, .inl (g 0, 80, .inl vl))] := by
  refine ww_start (by decide +kernel) rfl rfl (Nat.le_of_ble_eq_true rfl) (L0 := [(0, .ref h), (1, .int (-1))]) rfl ?_
  intro X O hl hD hg hR hn F
  subst hl hD hg
  refine ww_iload_n O dd_BF_placeBehind_0 1 rfl ?_
  refine ww_if_lt O dd_BF_placeBehind_1 (tgt := 12) rfl (fun h1 => ?_) (fun h1 => ?_)
  · refine ww_iconst O dd_BF_placeBehind_12 (v := (-1)) rfl ?_
    exact F.i dd_BF_placeBehind_13
  · exact absurd (by decide) h1
set_option maxRecDepth 4000 in
theorem cc_BF_placeBehind (l : Launch) (D : va_G) (g : Nat → ClassId) (h : Nat) (v : Nat) (fo : Nat) (ap : Nat) (aw : Nat) (ag : Nat) (av : Nat) (an : Nat) (vo : Nat) (vv : Nat) (sz : Int32) (pl : Nat → Int32) (wr : Nat → Int32) (pg : Nat → Int32) (pv : Nat → Int32) (nt : Nat → Int32) (ow : Nat → Int32) (vl : Nat → Int32) (b : Nat) (hb : b < 60) : ww_ct l D g yy_BF_placeBehind bb_BF_placeBehind 2 (some .int) (ww_rm 2) [.ref h, .int (nI b)] [(h, .inr (0, [.ref v, .int (nI fo), .ref ap, .ref aw, .ref ag, .ref av, .ref an, .int sz])), (ap, .inl (g 0, 60, .inl pl)), (aw, .inl (g 1, 60, .inl wr)), (ag, .inl (g 1, 60, .inl pg)), (av, .inl (g 0, 60, .inl pv)), (an, .inl (g 1, 60, .inl nt)), (v, .inr (1, [.ref vo, .ref vv])), (vo, .inl (g 0, 80, .inl ow)), (vv, .inl (g 0, 80, .inl vl))] (some (.int (px_cand false pl (b + 1)))) [(h, .inr (0, [.ref v, .int (nI fo), .ref ap, .ref aw, .ref ag, .ref av, .ref an, .int sz])), (ap, .inl (g 0, 60, .inl pl)), (aw, .inl (g 1, 60, .inl wr)), (ag, .inl (g 1, 60, .inl pg)), (av, .inl (g 0, 60, .inl pv)), (an, .inl (g 1, 60, .inl nt)), (v, .inr (1, [.ref vo, .ref vv])), (vo, .inl (g 0, 80, .inl ow)), (vv, .inl (g 0, 80, .inl vl))] := by
  refine ww_start (by decide +kernel) rfl rfl (Nat.le_of_ble_eq_true rfl) (L0 := [(0, .ref h), (1, .int (nI b))]) rfl ?_
  intro X O hl hD hg hR hn F
  subst hl hD hg
  refine ww_iload_n O dd_BF_placeBehind_0 1 rfl ?_
  refine ww_if_ltN O dd_BF_placeBehind_1 (tgt := 12) rfl (by omega) (fun h1 => ?_) (fun h1 => ?_)
  · exfalso; omega
  · refine ww_aload_n O dd_BF_placeBehind_4 0 rfl ?_
    refine ww_iload_n O dd_BF_placeBehind_5 1 rfl ?_
    refine ww_callV (q0 := 0) (ci := 0) O (cc_BF_isHole _ _ _ h v fo ap aw ag av an vo vv sz pl wr pg pv nt ow vl b (by omega)) lc_BF_55 lx_BF_isHole_I_Z rfl rfl rfl (by rw [hR]; decide) (by rw [hR]; decide) (by rw [hR]; decide) rfl (Nat.le_of_ble_eq_true rfl) dd_BF_placeBehind_6 rfl [0, 1, 2, 3, 4, 5, 6, 7, 8] [] [0, 1, 2, 3, 4, 5, 6, 7, 8] rfl (by decide) rfl (by decide) (by decide) (ws' := [(h, .inr (0, [.ref v, .int (nI fo), .ref ap, .ref aw, .ref ag, .ref av, .ref an, .int sz])), (ap, .inl (ww_g X 0, 60, .inl pl)), (aw, .inl (ww_g X 1, 60, .inl wr)), (ag, .inl (ww_g X 1, 60, .inl pg)), (av, .inl (ww_g X 0, 60, .inl pv)), (an, .inl (ww_g X 1, 60, .inl nt)), (v, .inr (1, [.ref vo, .ref vv])), (vo, .inl (ww_g X 0, 80, .inl ow)), (vv, .inl (ww_g X 0, 80, .inl vl))]) rfl rfl (by decide) ?_
    refine ww_if_eqB O dd_BF_placeBehind_9 (tgt := 14) rfl (fun h9 => ?_) (fun h9 => ?_)
    · refine ww_aload_n O dd_BF_placeBehind_14 0 rfl ?_
      refine ww_get O ci_BF rfl 2 (by decide) lf_BF_9 rfl dd_BF_placeBehind_15 0 rfl rfl ?_
      refine ww_iload_n O dd_BF_placeBehind_18 1 rfl ?_
      refine ww_iald O dd_BF_placeBehind_19 1 rfl (by omega) (by decide) rfl ?_
      refine ww_iconst O dd_BF_placeBehind_20 (v := nI 1) rfl ?_
      refine ww_iadd O dd_BF_placeBehind_21 (v := (pl b) + (nI 1)) rfl ?_
      rw [show px_cand false pl (b + 1) = pl b + nI 1 from by unfold px_cand; simp [h9]; rfl] at F
      exact F.i dd_BF_placeBehind_22
    · refine ww_iconst O dd_BF_placeBehind_12 (v := (-1)) rfl ?_
      rw [show px_cand false pl (b + 1) = -1 from by unfold px_cand; simp [h9]] at F
      exact F.i dd_BF_placeBehind_13
set_option maxRecDepth 4000 in
theorem cc_BF_mapTo (l : Launch) (D : va_G) (g : Nat → ClassId) (h : Nat) (v : Nat) (fo : Nat) (ap : Nat) (aw : Nat) (ag : Nat) (av : Nat) (an : Nat) (vo : Nat) (vv : Nat) (sz : Int32) (pl : Nat → Int32) (wr : Nat → Int32) (pg : Nat → Int32) (pv : Nat → Int32) (nt : Nat → Int32) (ow : Nat → Int32) (vl : Nat → Int32) (b : Nat) (x : Int32) (hb : b < 60) : ww_ct l D g yy_BF_mapTo bb_BF_mapTo 3 none (ww_rm 2) [.ref h, .int (nI b), .int x] [(h, .inr (0, [.ref v, .int (nI fo), .ref ap, .ref aw, .ref ag, .ref av, .ref an, .int sz])), (ap, .inl (g 0, 60, .inl pl)), (aw, .inl (g 1, 60, .inl wr)), (ag, .inl (g 1, 60, .inl pg)), (av, .inl (g 0, 60, .inl pv)), (an, .inl (g 1, 60, .inl nt)), (v, .inr (1, [.ref vo, .ref vv])), (vo, .inl (g 0, 80, .inl ow)), (vv, .inl (g 0, 80, .inl vl))] none [(h, .inr (0, [.ref v, .int (nI fo), .ref ap, .ref aw, .ref ag, .ref av, .ref an, .int sz])), (ap, .inl (g 0, 60, .inl (if px_un ow x = true then upd pl b x else pl))), (aw, .inl (g 1, 60, .inl wr)), (ag, .inl (g 1, 60, .inl pg)), (av, .inl (g 0, 60, .inl pv)), (an, .inl (g 1, 60, .inl nt)), (v, .inr (1, [.ref vo, .ref vv])), (vo, .inl (g 0, 80, .inl (if px_un ow x = true then upd ow x.toNatClampNeg (nI (fo + b)) else ow))), (vv, .inl (g 0, 80, .inl vl))] := by
  refine ww_start (by decide +kernel) rfl trivial (Nat.le_of_ble_eq_true rfl) (L0 := [(0, .ref h), (1, .int (nI b)), (2, .int x)]) rfl ?_
  intro X O hl hD hg hR hn F
  subst hl hD hg
  refine ww_aload_n O dd_BF_mapTo_0 0 rfl ?_
  refine ww_get O ci_BF rfl 0 (by decide) lf_BF_32 rfl dd_BF_mapTo_1 0 rfl rfl ?_
  refine ww_iload_n O dd_BF_mapTo_4 2 rfl ?_
  refine ww_callV (q0 := 6) (ci := 1) O (cc_VO_isUntaken _ _ _ v vo vv ow vl x ) lc_BF_95 lx_VO_isUntaken_I_Z rfl rfl rfl (by rw [hR]; decide) (by rw [hR]; decide) (by rw [hR]; decide) rfl (Nat.le_of_ble_eq_true rfl) dd_BF_mapTo_5 rfl [6, 7, 8] [0, 1, 2, 3, 4, 5] [0, 1, 2, 3, 4, 5, 6, 7, 8] rfl (by decide) rfl (by decide) (by decide) (ws' := [(h, .inr (0, [.ref v, .int (nI fo), .ref ap, .ref aw, .ref ag, .ref av, .ref an, .int sz])), (ap, .inl (ww_g X 0, 60, .inl pl)), (aw, .inl (ww_g X 1, 60, .inl wr)), (ag, .inl (ww_g X 1, 60, .inl pg)), (av, .inl (ww_g X 0, 60, .inl pv)), (an, .inl (ww_g X 1, 60, .inl nt)), (v, .inr (1, [.ref vo, .ref vv])), (vo, .inl (ww_g X 0, 80, .inl ow)), (vv, .inl (ww_g X 0, 80, .inl vl))]) rfl rfl (by decide) ?_
  refine ww_if_eqB O dd_BF_mapTo_8 (tgt := 32) rfl (fun h8 => ?_) (fun h8 => ?_)
  · rw [if_neg (by rw [h8]; decide), if_neg (by rw [h8]; decide)] at F
    exact F.v dd_BF_mapTo_32
  · rw [if_pos h8, if_pos h8] at F
    obtain ⟨p, hp, rfl, ho⟩ := px_un_spec h8
    rw [nI_clamp (show p < 2 ^ 31 by omega)] at F
    refine ww_aload_n O dd_BF_mapTo_11 0 rfl ?_
    refine ww_get O ci_BF rfl 2 (by decide) lf_BF_9 rfl dd_BF_mapTo_12 0 rfl rfl ?_
    refine ww_iload_n O dd_BF_mapTo_15 1 rfl ?_
    refine ww_iload_n O dd_BF_mapTo_16 2 rfl ?_
    refine ww_iast O dd_BF_mapTo_17 1 rfl (by omega) (by decide) (ws' := [(h, .inr (0, [.ref v, .int (nI fo), .ref ap, .ref aw, .ref ag, .ref av, .ref an, .int sz])), (ap, .inl (ww_g X 0, 60, .inl (upd pl b (nI p)))), (aw, .inl (ww_g X 1, 60, .inl wr)), (ag, .inl (ww_g X 1, 60, .inl pg)), (av, .inl (ww_g X 0, 60, .inl pv)), (an, .inl (ww_g X 1, 60, .inl nt)), (v, .inr (1, [.ref vo, .ref vv])), (vo, .inl (ww_g X 0, 80, .inl ow)), (vv, .inl (ww_g X 0, 80, .inl vl))]) rfl ?_
    refine ww_aload_n O dd_BF_mapTo_18 0 rfl ?_
    refine ww_get O ci_BF rfl 0 (by decide) lf_BF_32 rfl dd_BF_mapTo_19 0 rfl rfl ?_
    refine ww_iload_n O dd_BF_mapTo_22 2 rfl ?_
    refine ww_aload_n O dd_BF_mapTo_23 0 rfl ?_
    refine ww_get O ci_BF rfl 1 (by decide) lf_BF_36 rfl dd_BF_mapTo_24 0 rfl rfl ?_
    refine ww_iload_n O dd_BF_mapTo_27 1 rfl ?_
    refine ww_iadd O dd_BF_mapTo_28 (v := nI (fo + b)) (nI_add _ _) ?_
    refine ww_callV (q0 := 6) (ci := 1) O (cc_VO_take _ _ _ v vo vv ow vl p (nI (fo + b)) (by omega)) lc_BF_104 lx_VO_take_II_V rfl rfl rfl (by rw [hR]; decide) (by rw [hR]; decide) (by rw [hR]; decide) rfl (Nat.le_of_ble_eq_true rfl) dd_BF_mapTo_29 rfl [6, 7, 8] [0, 1, 2, 3, 4, 5] [0, 1, 2, 3, 4, 5, 6, 7, 8] rfl (by decide) rfl (by decide) (by decide) (ws' := [(h, .inr (0, [.ref v, .int (nI fo), .ref ap, .ref aw, .ref ag, .ref av, .ref an, .int sz])), (ap, .inl (ww_g X 0, 60, .inl (upd pl b (nI p)))), (aw, .inl (ww_g X 1, 60, .inl wr)), (ag, .inl (ww_g X 1, 60, .inl pg)), (av, .inl (ww_g X 0, 60, .inl pv)), (an, .inl (ww_g X 1, 60, .inl nt)), (v, .inr (1, [.ref vo, .ref vv])), (vo, .inl (ww_g X 0, 80, .inl (upd ow p (nI (fo + b))))), (vv, .inl (ww_g X 0, 80, .inl vl))]) rfl rfl (by decide) ?_
    exact F.v dd_BF_mapTo_32
set_option maxRecDepth 4000 in
theorem cc_BF_mapRow (l : Launch) (D : va_G) (g : Nat → ClassId) (h : Nat) (v : Nat) (fo : Nat) (ap : Nat) (aw : Nat) (ag : Nat) (av : Nat) (an : Nat) (vo : Nat) (vv : Nat) (sz : Int32) (pl : Nat → Int32) (wr : Nat → Int32) (pg : Nat → Int32) (pv : Nat → Int32) (nt : Nat → Int32) (ow : Nat → Int32) (vl : Nat → Int32) (a : Nat) (e : Nat) (ha : a ≤ e) (he : e ≤ 60) : ww_ct l D g yy_BF_mapRow bb_BF_mapRow 5 none (ww_rm 3) [.ref h, .int (nI a), .int (nI e)] [(h, .inr (0, [.ref v, .int (nI fo), .ref ap, .ref aw, .ref ag, .ref av, .ref an, .int sz])), (ap, .inl (g 0, 60, .inl pl)), (aw, .inl (g 1, 60, .inl wr)), (ag, .inl (g 1, 60, .inl pg)), (av, .inl (g 0, 60, .inl pv)), (an, .inl (g 1, 60, .inl nt)), (v, .inr (1, [.ref vo, .ref vv])), (vo, .inl (g 0, 80, .inl ow)), (vv, .inl (g 0, 80, .inl vl))] none [(h, .inr (0, [.ref v, .int (nI fo), .ref ap, .ref aw, .ref ag, .ref av, .ref an, .int sz])), (ap, .inl (g 0, 60, .inl ((px_mr fo (e - a) a (px_cand (a == 0) pl a) pl ow).1))), (aw, .inl (g 1, 60, .inl wr)), (ag, .inl (g 1, 60, .inl pg)), (av, .inl (g 0, 60, .inl pv)), (an, .inl (g 1, 60, .inl nt)), (v, .inr (1, [.ref vo, .ref vv])), (vo, .inl (g 0, 80, .inl ((px_mr fo (e - a) a (px_cand (a == 0) pl a) pl ow).2))), (vv, .inl (g 0, 80, .inl vl))] := by
  refine ww_start (by decide +kernel) rfl trivial (Nat.le_of_ble_eq_true rfl) (L0 := [(0, .ref h), (1, .int (nI a)), (2, .int (nI e))]) rfl ?_
  intro X O hl hD hg hR hn F
  subst hl hD hg
  generalize hT : px_mr fo (e - a) a (px_cand (a == 0) pl a) pl ow = T at F
  have loop : ∀ (k b : Nat) (x : Int32) (pl2 ow2 : Nat → Int32), e ≤ b + k → a ≤ b → b ≤ e → px_mr fo (e - b) b x pl2 ow2 = T → ww_at X 0 0 11 [(0, .ref h), (1, .int (nI a)), (2, .int (nI e)), (3, .int x), (4, .int (nI b))] [] [(h, .inr (0, [.ref v, .int (nI fo), .ref ap, .ref aw, .ref ag, .ref av, .ref an, .int sz])), (ap, .inl (ww_g X 0, 60, .inl pl2)), (aw, .inl (ww_g X 1, 60, .inl wr)), (ag, .inl (ww_g X 1, 60, .inl pg)), (av, .inl (ww_g X 0, 60, .inl pv)), (an, .inl (ww_g X 1, 60, .inl nt)), (v, .inr (1, [.ref vo, .ref vv])), (vo, .inl (ww_g X 0, 80, .inl ow2)), (vv, .inl (ww_g X 0, 80, .inl vl))] := by
    intro k
    induction k with
    | zero =>
      intro b x pl2 ow2 h1 h2 h3 h4
      refine ww_iload O dd_BF_mapRow_11 4 rfl ?_
      refine ww_iload_n O dd_BF_mapRow_13 2 rfl ?_
      refine ww_icmp_geN O dd_BF_mapRow_14 (tgt := 56) rfl (by omega) (by omega) (fun h14 => ?_) (fun h14 => ?_)
      · rw [show e - b = 0 by omega] at h4
        subst h4
        exact F.v dd_BF_mapRow_56
      · exfalso; omega
    | succ k ih =>
      intro b x pl2 ow2 h1 h2 h3 h4
      refine ww_iload O dd_BF_mapRow_11 4 rfl ?_
      refine ww_iload_n O dd_BF_mapRow_13 2 rfl ?_
      refine ww_icmp_geN O dd_BF_mapRow_14 (tgt := 56) rfl (by omega) (by omega) (fun h14 => ?_) (fun h14 => ?_)
      · rw [show e - b = 0 by omega] at h4
        subst h4
        exact F.v dd_BF_mapRow_56
      · refine ww_aload_n O dd_BF_mapRow_17 0 rfl ?_
        refine ww_get O ci_BF rfl 0 (by decide) lf_BF_32 rfl dd_BF_mapRow_18 0 rfl rfl ?_
        refine ww_iload_n O dd_BF_mapRow_21 3 rfl ?_
        refine ww_callV (q0 := 6) (ci := 1) O (cc_VO_isUntaken _ _ _ v vo vv ow2 vl x ) lc_BF_95 lx_VO_isUntaken_I_Z rfl rfl rfl (by rw [hR]; decide) (by rw [hR]; decide) (by rw [hR]; decide) rfl (Nat.le_of_ble_eq_true rfl) dd_BF_mapRow_22 rfl [6, 7, 8] [0, 1, 2, 3, 4, 5] [0, 1, 2, 3, 4, 5, 6, 7, 8] rfl (by decide) rfl (by decide) (by decide) (ws' := [(h, .inr (0, [.ref v, .int (nI fo), .ref ap, .ref aw, .ref ag, .ref av, .ref an, .int sz])), (ap, .inl (ww_g X 0, 60, .inl pl2)), (aw, .inl (ww_g X 1, 60, .inl wr)), (ag, .inl (ww_g X 1, 60, .inl pg)), (av, .inl (ww_g X 0, 60, .inl pv)), (an, .inl (ww_g X 1, 60, .inl nt)), (v, .inr (1, [.ref vo, .ref vv])), (vo, .inl (ww_g X 0, 80, .inl ow2)), (vv, .inl (ww_g X 0, 80, .inl vl))]) rfl rfl (by decide) ?_
        refine ww_if_neB O dd_BF_mapRow_25 (tgt := 40) rfl (fun h25 => ?_) (fun h25 => ?_)
        · refine ww_aload_n O dd_BF_mapRow_40 0 rfl ?_
          refine ww_iload O dd_BF_mapRow_41 4 rfl ?_
          refine ww_iload_n O dd_BF_mapRow_43 3 rfl ?_
          refine ww_callV (q0 := 0) (ci := 0) O (cc_BF_mapTo _ _ _ h v fo ap aw ag av an vo vv sz pl2 wr pg pv nt ow2 vl b x (by omega)) lc_BF_101 lx_BF_mapTo_II_V rfl rfl rfl (by rw [hR]; decide) (by rw [hR]; decide) (by rw [hR]; decide) rfl (Nat.le_of_ble_eq_true rfl) dd_BF_mapRow_44 rfl [0, 1, 2, 3, 4, 5, 6, 7, 8] [] [0, 1, 2, 3, 4, 5, 6, 7, 8] rfl (by decide) rfl (by decide) (by decide) (ws' := [(h, .inr (0, [.ref v, .int (nI fo), .ref ap, .ref aw, .ref ag, .ref av, .ref an, .int sz])), (ap, .inl (ww_g X 0, 60, .inl (if px_un ow2 x = true then upd pl2 b x else pl2))), (aw, .inl (ww_g X 1, 60, .inl wr)), (ag, .inl (ww_g X 1, 60, .inl pg)), (av, .inl (ww_g X 0, 60, .inl pv)), (an, .inl (ww_g X 1, 60, .inl nt)), (v, .inr (1, [.ref vo, .ref vv])), (vo, .inl (ww_g X 0, 80, .inl (if px_un ow2 x = true then upd ow2 x.toNatClampNeg (nI (fo + b)) else ow2))), (vv, .inl (ww_g X 0, 80, .inl vl))]) rfl rfl (by decide) ?_
          refine ww_iinc O dd_BF_mapRow_47 3 rfl (v := x + 1) rfl (by rw [hn]; decide) rfl (L' := [(0, .ref h), (1, .int (nI a)), (2, .int (nI e)), (3, .int (x + 1)), (4, .int (nI b))]) rfl ?_
          refine ww_iinc O dd_BF_mapRow_50 4 rfl (v := nI (b + 1)) (nI_add _ 1) (by rw [hn]; decide) rfl (L' := [(0, .ref h), (1, .int (nI a)), (2, .int (nI e)), (3, .int (x + 1)), (4, .int (nI (b + 1)))]) rfl ?_
          refine ww_goto O dd_BF_mapRow_53 (tgt := 11) rfl ?_
          exact ih (b + 1) _ _ _ (by omega) (by omega) (by omega) ((px_mr_s (by omega) (if_pos h25)).symm.trans h4)
        · refine ww_aload_n O dd_BF_mapRow_28 0 rfl ?_
          refine ww_get O ci_BF rfl 0 (by decide) lf_BF_32 rfl dd_BF_mapRow_29 0 rfl rfl ?_
          refine ww_iload_n O dd_BF_mapRow_32 2 rfl ?_
          refine ww_iload O dd_BF_mapRow_33 4 rfl ?_
          refine ww_isub O dd_BF_mapRow_35 (v := nI (e - b)) (pk_sub (by omega)) ?_
          refine ww_callV (q0 := 6) (ci := 1) O (cc_VO_bestRow _ _ _ v vo vv ow2 vl (e - b) (by omega) (by omega)) lc_BF_98 lx_VO_bestRow_I_I rfl rfl rfl (by rw [hR]; decide) (by rw [hR]; decide) (by rw [hR]; decide) rfl (Nat.le_of_ble_eq_true rfl) dd_BF_mapRow_36 rfl [6, 7, 8] [0, 1, 2, 3, 4, 5] [0, 1, 2, 3, 4, 5, 6, 7, 8] rfl (by decide) rfl (by decide) (by decide) (ws' := [(h, .inr (0, [.ref v, .int (nI fo), .ref ap, .ref aw, .ref ag, .ref av, .ref an, .int sz])), (ap, .inl (ww_g X 0, 60, .inl pl2)), (aw, .inl (ww_g X 1, 60, .inl wr)), (ag, .inl (ww_g X 1, 60, .inl pg)), (av, .inl (ww_g X 0, 60, .inl pv)), (an, .inl (ww_g X 1, 60, .inl nt)), (v, .inr (1, [.ref vo, .ref vv])), (vo, .inl (ww_g X 0, 80, .inl ow2)), (vv, .inl (ww_g X 0, 80, .inl vl))]) rfl rfl (by decide) ?_
          refine ww_istore_n O dd_BF_mapRow_39 (by rw [hn]; decide) rfl (L' := [(0, .ref h), (1, .int (nI a)), (2, .int (nI e)), (3, .int (px_best ow2 (e - b))), (4, .int (nI b))]) rfl ?_
          refine ww_aload_n O dd_BF_mapRow_40 0 rfl ?_
          refine ww_iload O dd_BF_mapRow_41 4 rfl ?_
          refine ww_iload_n O dd_BF_mapRow_43 3 rfl ?_
          refine ww_callV (q0 := 0) (ci := 0) O (cc_BF_mapTo _ _ _ h v fo ap aw ag av an vo vv sz pl2 wr pg pv nt ow2 vl b (px_best ow2 (e - b)) (by omega)) lc_BF_101 lx_BF_mapTo_II_V rfl rfl rfl (by rw [hR]; decide) (by rw [hR]; decide) (by rw [hR]; decide) rfl (Nat.le_of_ble_eq_true rfl) dd_BF_mapRow_44 rfl [0, 1, 2, 3, 4, 5, 6, 7, 8] [] [0, 1, 2, 3, 4, 5, 6, 7, 8] rfl (by decide) rfl (by decide) (by decide) (ws' := [(h, .inr (0, [.ref v, .int (nI fo), .ref ap, .ref aw, .ref ag, .ref av, .ref an, .int sz])), (ap, .inl (ww_g X 0, 60, .inl (if px_un ow2 (px_best ow2 (e - b)) = true then upd pl2 b (px_best ow2 (e - b)) else pl2))), (aw, .inl (ww_g X 1, 60, .inl wr)), (ag, .inl (ww_g X 1, 60, .inl pg)), (av, .inl (ww_g X 0, 60, .inl pv)), (an, .inl (ww_g X 1, 60, .inl nt)), (v, .inr (1, [.ref vo, .ref vv])), (vo, .inl (ww_g X 0, 80, .inl (if px_un ow2 (px_best ow2 (e - b)) = true then upd ow2 (px_best ow2 (e - b)).toNatClampNeg (nI (fo + b)) else ow2))), (vv, .inl (ww_g X 0, 80, .inl vl))]) rfl rfl (by decide) ?_
          refine ww_iinc O dd_BF_mapRow_47 3 rfl (v := (px_best ow2 (e - b)) + 1) rfl (by rw [hn]; decide) rfl (L' := [(0, .ref h), (1, .int (nI a)), (2, .int (nI e)), (3, .int ((px_best ow2 (e - b)) + 1)), (4, .int (nI b))]) rfl ?_
          refine ww_iinc O dd_BF_mapRow_50 4 rfl (v := nI (b + 1)) (nI_add _ 1) (by rw [hn]; decide) rfl (L' := [(0, .ref h), (1, .int (nI a)), (2, .int (nI e)), (3, .int ((px_best ow2 (e - b)) + 1)), (4, .int (nI (b + 1)))]) rfl ?_
          refine ww_goto O dd_BF_mapRow_53 (tgt := 11) rfl ?_
          exact ih (b + 1) _ _ _ (by omega) (by omega) (by omega) ((px_mr_s (by omega) (if_neg (by rw [h25]; decide))).symm.trans h4)
  by_cases ha0 : a = 0
  · subst ha0
    rw [px_cand_0] at hT
    refine ww_aload_n O dd_BF_mapRow_0 0 rfl ?_
    refine ww_iload_n O dd_BF_mapRow_1 1 rfl ?_
    refine ww_iconst O dd_BF_mapRow_2 (v := nI 1) rfl ?_
    refine ww_isub O dd_BF_mapRow_3 (v := (-1)) rfl ?_
    refine ww_callV (q0 := 0) (ci := 0) O (cc_BF_pb_m1 _ _ _ h v fo ap aw ag av an vo vv sz pl wr pg pv nt ow vl ) lc_BF_92 lx_BF_placeBehind_I_I rfl rfl rfl (by rw [hR]; decide) (by rw [hR]; decide) (by rw [hR]; decide) rfl (Nat.le_of_ble_eq_true rfl) dd_BF_mapRow_4 rfl [0, 1, 2, 3, 4, 5, 6, 7, 8] [] [0, 1, 2, 3, 4, 5, 6, 7, 8] rfl (by decide) rfl (by decide) (by decide) (ws' := [(h, .inr (0, [.ref v, .int (nI fo), .ref ap, .ref aw, .ref ag, .ref av, .ref an, .int sz])), (ap, .inl (ww_g X 0, 60, .inl pl)), (aw, .inl (ww_g X 1, 60, .inl wr)), (ag, .inl (ww_g X 1, 60, .inl pg)), (av, .inl (ww_g X 0, 60, .inl pv)), (an, .inl (ww_g X 1, 60, .inl nt)), (v, .inr (1, [.ref vo, .ref vv])), (vo, .inl (ww_g X 0, 80, .inl ow)), (vv, .inl (ww_g X 0, 80, .inl vl))]) rfl rfl (by decide) ?_
    refine ww_istore_n O dd_BF_mapRow_7 (by rw [hn]; decide) rfl (L' := [(0, .ref h), (1, .int (nI 0)), (2, .int (nI e)), (3, .int (-1))]) rfl ?_
    refine ww_iload_n O dd_BF_mapRow_8 1 rfl ?_
    refine ww_istore O dd_BF_mapRow_9 (by rw [hn]; decide) rfl (L' := [(0, .ref h), (1, .int (nI 0)), (2, .int (nI e)), (3, .int (-1)), (4, .int (nI 0))]) rfl ?_
    exact loop e 0 (-1) pl ow (by omega) (by omega) (by omega) hT
  · rw [px_cand_p (by omega)] at hT
    refine ww_aload_n O dd_BF_mapRow_0 0 rfl ?_
    refine ww_iload_n O dd_BF_mapRow_1 1 rfl ?_
    refine ww_iconst O dd_BF_mapRow_2 (v := nI 1) rfl ?_
    refine ww_isub O dd_BF_mapRow_3 (v := nI (a - 1)) (pk_sub (by omega)) ?_
    refine ww_callV (q0 := 0) (ci := 0) O (cc_BF_placeBehind _ _ _ h v fo ap aw ag av an vo vv sz pl wr pg pv nt ow vl (a - 1) (by omega)) lc_BF_92 lx_BF_placeBehind_I_I rfl rfl rfl (by rw [hR]; decide) (by rw [hR]; decide) (by rw [hR]; decide) rfl (Nat.le_of_ble_eq_true rfl) dd_BF_mapRow_4 rfl [0, 1, 2, 3, 4, 5, 6, 7, 8] [] [0, 1, 2, 3, 4, 5, 6, 7, 8] rfl (by decide) rfl (by decide) (by decide) (ws' := [(h, .inr (0, [.ref v, .int (nI fo), .ref ap, .ref aw, .ref ag, .ref av, .ref an, .int sz])), (ap, .inl (ww_g X 0, 60, .inl pl)), (aw, .inl (ww_g X 1, 60, .inl wr)), (ag, .inl (ww_g X 1, 60, .inl pg)), (av, .inl (ww_g X 0, 60, .inl pv)), (an, .inl (ww_g X 1, 60, .inl nt)), (v, .inr (1, [.ref vo, .ref vv])), (vo, .inl (ww_g X 0, 80, .inl ow)), (vv, .inl (ww_g X 0, 80, .inl vl))]) rfl rfl (by decide) ?_
    rw [show a - 1 + 1 = a by omega]
    refine ww_istore_n O dd_BF_mapRow_7 (by rw [hn]; decide) rfl (L' := [(0, .ref h), (1, .int (nI a)), (2, .int (nI e)), (3, .int (px_cand false pl a))]) rfl ?_
    refine ww_iload_n O dd_BF_mapRow_8 1 rfl ?_
    refine ww_istore O dd_BF_mapRow_9 (by rw [hn]; decide) rfl (L' := [(0, .ref h), (1, .int (nI a)), (2, .int (nI e)), (3, .int (px_cand false pl a)), (4, .int (nI a))]) rfl ?_
    exact loop e a _ pl ow (by omega) (by omega) (by omega) hT
set_option maxRecDepth 4000 in
theorem cc_BF_mapHoles (l : Launch) (D : va_G) (g : Nat → ClassId) (h : Nat) (v : Nat) (fo : Nat) (ap : Nat) (aw : Nat) (ag : Nat) (av : Nat) (an : Nat) (vo : Nat) (vv : Nat) (sz : Int32) (pl : Nat → Int32) (wr : Nat → Int32) (pg : Nat → Int32) (pv : Nat → Int32) (nt : Nat → Int32) (ow : Nat → Int32) (vl : Nat → Int32) (a : Nat) (e : Nat) (only : Bool) (ha : a ≤ e) (he : e ≤ 60) : ww_ct l D g yy_BF_mapHoles bb_BF_mapHoles 6 none (ww_rm 4) [.ref h, .int (nI a), .int (nI e), .int (px_b only)] [(h, .inr (0, [.ref v, .int (nI fo), .ref ap, .ref aw, .ref ag, .ref av, .ref an, .int sz])), (ap, .inl (g 0, 60, .inl pl)), (aw, .inl (g 1, 60, .inl wr)), (ag, .inl (g 1, 60, .inl pg)), (av, .inl (g 0, 60, .inl pv)), (an, .inl (g 1, 60, .inl nt)), (v, .inr (1, [.ref vo, .ref vv])), (vo, .inl (g 0, 80, .inl ow)), (vv, .inl (g 0, 80, .inl vl))] none [(h, .inr (0, [.ref v, .int (nI fo), .ref ap, .ref aw, .ref ag, .ref av, .ref an, .int sz])), (ap, .inl (g 0, 60, .inl ((px_mh fo 0 (fun j => px_on pg j || !only) 60 a e pl ow).1))), (aw, .inl (g 1, 60, .inl wr)), (ag, .inl (g 1, 60, .inl pg)), (av, .inl (g 0, 60, .inl pv)), (an, .inl (g 1, 60, .inl nt)), (v, .inr (1, [.ref vo, .ref vv])), (vo, .inl (g 0, 80, .inl ((px_mh fo 0 (fun j => px_on pg j || !only) 60 a e pl ow).2))), (vv, .inl (g 0, 80, .inl vl))] := by
  refine ww_start (by decide +kernel) rfl trivial (Nat.le_of_ble_eq_true rfl) (L0 := [(0, .ref h), (1, .int (nI a)), (2, .int (nI e)), (3, .int (px_b only))]) rfl ?_
  intro X O hl hD hg hR hn F
  subst hl hD hg
  generalize hT : px_mh fo 0 (fun j => px_on pg j || !only) 60 a e pl ow = T at F
  have loop : ∀ (k b : Nat) (pl2 ow2 : Nat → Int32), e ≤ b + k → b ≤ 61 → px_mh fo 0 (fun j => px_on pg j || !only) k b e pl2 ow2 = T → ww_at X 0 0 3 [(0, .ref h), (1, .int (nI a)), (2, .int (nI e)), (3, .int (px_b only)), (4, .int (nI b))] [] [(h, .inr (0, [.ref v, .int (nI fo), .ref ap, .ref aw, .ref ag, .ref av, .ref an, .int sz])), (ap, .inl (ww_g X 0, 60, .inl pl2)), (aw, .inl (ww_g X 1, 60, .inl wr)), (ag, .inl (ww_g X 1, 60, .inl pg)), (av, .inl (ww_g X 0, 60, .inl pv)), (an, .inl (ww_g X 1, 60, .inl nt)), (v, .inr (1, [.ref vo, .ref vv])), (vo, .inl (ww_g X 0, 80, .inl ow2)), (vv, .inl (ww_g X 0, 80, .inl vl))] := by
    intro k
    induction k with
    | zero =>
      intro b pl2 ow2 h1 h2 h4
      refine ww_iload O dd_BF_mapHoles_3 4 rfl ?_
      refine ww_iload_n O dd_BF_mapHoles_5 2 rfl ?_
      refine ww_icmp_geN O dd_BF_mapHoles_6 (tgt := 36) rfl (by omega) (by omega) (fun h6 => ?_) (fun h6 => ?_)
      · rw [px_mh_e (by omega)] at h4
        subst h4
        exact F.v dd_BF_mapHoles_36
      · exfalso; omega
    | succ k ih =>
      intro b pl2 ow2 h1 h2 h4
      refine ww_iload O dd_BF_mapHoles_3 4 rfl ?_
      refine ww_iload_n O dd_BF_mapHoles_5 2 rfl ?_
      refine ww_icmp_geN O dd_BF_mapHoles_6 (tgt := 36) rfl (by omega) (by omega) (fun h6 => ?_) (fun h6 => ?_)
      · rw [px_mh_e (by omega)] at h4
        subst h4
        exact F.v dd_BF_mapHoles_36
      · refine ww_aload_n O dd_BF_mapHoles_9 0 rfl ?_
        refine ww_iload O dd_BF_mapHoles_10 4 rfl ?_
        refine ww_iload_n O dd_BF_mapHoles_12 2 rfl ?_
        refine ww_iload_n O dd_BF_mapHoles_13 3 rfl ?_
        refine ww_callV (q0 := 0) (ci := 0) O (cc_BF_endOfRow _ _ _ h v fo ap aw ag av an vo vv sz pl2 wr pg pv nt ow2 vl b e only (by omega) (by omega)) lc_BF_84 lx_BF_endOfRow_IIZ_I rfl rfl rfl (by rw [hR]; decide) (by rw [hR]; decide) (by rw [hR]; decide) rfl (Nat.le_of_ble_eq_true rfl) dd_BF_mapHoles_14 rfl [0, 1, 2, 3, 4, 5, 6, 7, 8] [] [0, 1, 2, 3, 4, 5, 6, 7, 8] rfl (by decide) rfl (by decide) (by decide) (ws' := [(h, .inr (0, [.ref v, .int (nI fo), .ref ap, .ref aw, .ref ag, .ref av, .ref an, .int sz])), (ap, .inl (ww_g X 0, 60, .inl pl2)), (aw, .inl (ww_g X 1, 60, .inl wr)), (ag, .inl (ww_g X 1, 60, .inl pg)), (av, .inl (ww_g X 0, 60, .inl pv)), (an, .inl (ww_g X 1, 60, .inl nt)), (v, .inr (1, [.ref vo, .ref vv])), (vo, .inl (ww_g X 0, 80, .inl ow2)), (vv, .inl (ww_g X 0, 80, .inl vl))]) rfl rfl (by decide) ?_
        have hr1 := px_er_le (fun j => px_hole pl2 j && (px_on pg j || !only)) (e - b) b
        rw [px_mh, if_pos (by omega)] at h4
        generalize px_er (fun j => px_hole pl2 j && (px_on pg j || !only)) (e - b) b = r at hr1 h4 ⊢
        refine ww_istore O dd_BF_mapHoles_17 (by rw [hn]; decide) rfl (L' := [(0, .ref h), (1, .int (nI a)), (2, .int (nI e)), (3, .int (px_b only)), (4, .int (nI b)), (5, .int (nI r))]) rfl ?_
        refine ww_aload_n O dd_BF_mapHoles_19 0 rfl ?_
        refine ww_iload O dd_BF_mapHoles_20 4 rfl ?_
        refine ww_iload O dd_BF_mapHoles_22 5 rfl ?_
        refine ww_callV (q0 := 0) (ci := 0) O (cc_BF_mapRow _ _ _ h v fo ap aw ag av an vo vv sz pl2 wr pg pv nt ow2 vl b r (by omega) (by omega)) lc_BF_88 lx_BF_mapRow_II_V rfl rfl rfl (by rw [hR]; decide) (by rw [hR]; decide) (by rw [hR]; decide) rfl (Nat.le_of_ble_eq_true rfl) dd_BF_mapHoles_24 rfl [0, 1, 2, 3, 4, 5, 6, 7, 8] [] [0, 1, 2, 3, 4, 5, 6, 7, 8] rfl (by decide) rfl (by decide) (by decide) (ws' := [(h, .inr (0, [.ref v, .int (nI fo), .ref ap, .ref aw, .ref ag, .ref av, .ref an, .int sz])), (ap, .inl (ww_g X 0, 60, .inl ((px_mr fo (r - b) b (px_cand (b == 0) pl2 b) pl2 ow2).1))), (aw, .inl (ww_g X 1, 60, .inl wr)), (ag, .inl (ww_g X 1, 60, .inl pg)), (av, .inl (ww_g X 0, 60, .inl pv)), (an, .inl (ww_g X 1, 60, .inl nt)), (v, .inr (1, [.ref vo, .ref vv])), (vo, .inl (ww_g X 0, 80, .inl ((px_mr fo (r - b) b (px_cand (b == 0) pl2 b) pl2 ow2).2))), (vv, .inl (ww_g X 0, 80, .inl vl))]) rfl rfl (by decide) ?_
        refine ww_iload O dd_BF_mapHoles_27 5 rfl ?_
        refine ww_iconst O dd_BF_mapHoles_29 (v := nI 1) rfl ?_
        refine ww_iadd O dd_BF_mapHoles_30 (v := nI (r + 1)) (nI_add _ _) ?_
        refine ww_istore O dd_BF_mapHoles_31 (by rw [hn]; decide) rfl (L' := [(0, .ref h), (1, .int (nI a)), (2, .int (nI e)), (3, .int (px_b only)), (4, .int (nI (r + 1))), (5, .int (nI r))]) rfl ?_
        refine ww_goto O dd_BF_mapHoles_33 (tgt := 3) rfl ?_
        refine ww_sub [0, 1, 2, 3, 4] rfl ?_
        exact ih (r + 1) _ _ (by omega) (by omega) h4
  refine ww_iload_n O dd_BF_mapHoles_0 1 rfl ?_
  refine ww_istore O dd_BF_mapHoles_1 (by rw [hn]; decide) rfl (L' := [(0, .ref h), (1, .int (nI a)), (2, .int (nI e)), (3, .int (px_b only)), (4, .int (nI a))]) rfl ?_
  exact loop 60 a pl ow (by omega) (by omega) hT
set_option maxRecDepth 4000 in
theorem cc_BF_unmap (l : Launch) (D : va_G) (g : Nat → ClassId) (h : Nat) (v : Nat) (fo : Nat) (ap : Nat) (aw : Nat) (ag : Nat) (av : Nat) (an : Nat) (vo : Nat) (vv : Nat) (sz : Int32) (pl : Nat → Int32) (wr : Nat → Int32) (pg : Nat → Int32) (pv : Nat → Int32) (nt : Nat → Int32) (ow : Nat → Int32) (vl : Nat → Int32) (b : Nat) (p : Nat) (hb : b < 60) (hp : p < 80) (hq : pl b = nI p) : ww_ct l D g yy_BF_unmap bb_BF_unmap 2 none (ww_rm 2) [.ref h, .int (nI b)] [(h, .inr (0, [.ref v, .int (nI fo), .ref ap, .ref aw, .ref ag, .ref av, .ref an, .int sz])), (ap, .inl (g 0, 60, .inl pl)), (aw, .inl (g 1, 60, .inl wr)), (ag, .inl (g 1, 60, .inl pg)), (av, .inl (g 0, 60, .inl pv)), (an, .inl (g 1, 60, .inl nt)), (v, .inr (1, [.ref vo, .ref vv])), (vo, .inl (g 0, 80, .inl ow)), (vv, .inl (g 0, 80, .inl vl))] none [(h, .inr (0, [.ref v, .int (nI fo), .ref ap, .ref aw, .ref ag, .ref av, .ref an, .int sz])), (ap, .inl (g 0, 60, .inl (upd pl b (-1)))), (aw, .inl (g 1, 60, .inl (upd wr b (nI 0)))), (ag, .inl (g 1, 60, .inl pg)), (av, .inl (g 0, 60, .inl pv)), (an, .inl (g 1, 60, .inl nt)), (v, .inr (1, [.ref vo, .ref vv])), (vo, .inl (g 0, 80, .inl (upd ow p (-1)))), (vv, .inl (g 0, 80, .inl vl))] := by
  refine ww_start (by decide +kernel) rfl trivial (Nat.le_of_ble_eq_true rfl) (L0 := [(0, .ref h), (1, .int (nI b))]) rfl ?_
  intro X O hl hD hg hR hn F
  subst hl hD hg
  refine ww_aload_n O dd_BF_unmap_0 0 rfl ?_
  refine ww_get O ci_BF rfl 0 (by decide) lf_BF_32 rfl dd_BF_unmap_1 0 rfl rfl ?_
  refine ww_aload_n O dd_BF_unmap_4 0 rfl ?_
  refine ww_get O ci_BF rfl 2 (by decide) lf_BF_9 rfl dd_BF_unmap_5 0 rfl rfl ?_
  refine ww_iload_n O dd_BF_unmap_8 1 rfl ?_
  refine ww_iald O dd_BF_unmap_9 1 rfl (by omega) (by decide) rfl ?_
  rw [hq]
  refine ww_callV (q0 := 6) (ci := 1) O (cc_VO_release _ _ _ v vo vv ow vl p (by omega)) lc_BF_107 lx_VO_release_I_V rfl rfl rfl (by rw [hR]; decide) (by rw [hR]; decide) (by rw [hR]; decide) rfl (Nat.le_of_ble_eq_true rfl) dd_BF_unmap_10 rfl [6, 7, 8] [0, 1, 2, 3, 4, 5] [0, 1, 2, 3, 4, 5, 6, 7, 8] rfl (by decide) rfl (by decide) (by decide) (ws' := [(h, .inr (0, [.ref v, .int (nI fo), .ref ap, .ref aw, .ref ag, .ref av, .ref an, .int sz])), (ap, .inl (ww_g X 0, 60, .inl pl)), (aw, .inl (ww_g X 1, 60, .inl wr)), (ag, .inl (ww_g X 1, 60, .inl pg)), (av, .inl (ww_g X 0, 60, .inl pv)), (an, .inl (ww_g X 1, 60, .inl nt)), (v, .inr (1, [.ref vo, .ref vv])), (vo, .inl (ww_g X 0, 80, .inl (upd ow p (-1)))), (vv, .inl (ww_g X 0, 80, .inl vl))]) rfl rfl (by decide) ?_
  refine ww_aload_n O dd_BF_unmap_13 0 rfl ?_
  refine ww_get O ci_BF rfl 2 (by decide) lf_BF_9 rfl dd_BF_unmap_14 0 rfl rfl ?_
  refine ww_iload_n O dd_BF_unmap_17 1 rfl ?_
  refine ww_iconst O dd_BF_unmap_18 (v := (-1)) rfl ?_
  refine ww_iast O dd_BF_unmap_19 1 rfl (by omega) (by decide) (ws' := [(h, .inr (0, [.ref v, .int (nI fo), .ref ap, .ref aw, .ref ag, .ref av, .ref an, .int sz])), (ap, .inl (ww_g X 0, 60, .inl (upd pl b (-1)))), (aw, .inl (ww_g X 1, 60, .inl wr)), (ag, .inl (ww_g X 1, 60, .inl pg)), (av, .inl (ww_g X 0, 60, .inl pv)), (an, .inl (ww_g X 1, 60, .inl nt)), (v, .inr (1, [.ref vo, .ref vv])), (vo, .inl (ww_g X 0, 80, .inl (upd ow p (-1)))), (vv, .inl (ww_g X 0, 80, .inl vl))]) rfl ?_
  refine ww_aload_n O dd_BF_unmap_20 0 rfl ?_
  refine ww_get O ci_BF rfl 3 (by decide) lf_BF_15 rfl dd_BF_unmap_21 0 rfl rfl ?_
  refine ww_iload_n O dd_BF_unmap_24 1 rfl ?_
  refine ww_iconst O dd_BF_unmap_25 (v := nI 0) rfl ?_
  refine ww_zast O dd_BF_unmap_26 2 rfl (by omega) (by decide) rfl (ws' := [(h, .inr (0, [.ref v, .int (nI fo), .ref ap, .ref aw, .ref ag, .ref av, .ref an, .int sz])), (ap, .inl (ww_g X 0, 60, .inl (upd pl b (-1)))), (aw, .inl (ww_g X 1, 60, .inl (upd wr b (nI 0)))), (ag, .inl (ww_g X 1, 60, .inl pg)), (av, .inl (ww_g X 0, 60, .inl pv)), (an, .inl (ww_g X 1, 60, .inl nt)), (v, .inr (1, [.ref vo, .ref vv])), (vo, .inl (ww_g X 0, 80, .inl (upd ow p (-1)))), (vv, .inl (ww_g X 0, 80, .inl vl))]) rfl ?_
  exact F.v dd_BF_unmap_27
set_option maxRecDepth 4000 in
theorem cc_BF_makeHoles (l : Launch) (D : va_G) (g : Nat → ClassId) (h : Nat) (v : Nat) (fo : Nat) (ap : Nat) (aw : Nat) (ag : Nat) (av : Nat) (an : Nat) (vo : Nat) (vv : Nat) (sz : Int32) (pl : Nat → Int32) (wr : Nat → Int32) (pg : Nat → Int32) (pv : Nat → Int32) (nt : Nat → Int32) (ow : Nat → Int32) (vl : Nat → Int32) (a : Nat) (e : Nat) (hr : px_rng pl 0 60) (ha : a ≤ e) (he : e ≤ 60) : ww_ct l D g yy_BF_makeHoles bb_BF_makeHoles 5 (some .int) (ww_rm 3) [.ref h, .int (nI a), .int (nI e)] [(h, .inr (0, [.ref v, .int (nI fo), .ref ap, .ref aw, .ref ag, .ref av, .ref an, .int sz])), (ap, .inl (g 0, 60, .inl pl)), (aw, .inl (g 1, 60, .inl wr)), (ag, .inl (g 1, 60, .inl pg)), (av, .inl (g 0, 60, .inl pv)), (an, .inl (g 1, 60, .inl nt)), (v, .inr (1, [.ref vo, .ref vv])), (vo, .inl (g 0, 80, .inl ow)), (vv, .inl (g 0, 80, .inl vl))] (some (.int (nI (px_cnt (fun j => !px_hole pl j) a (e - a))))) [(h, .inr (0, [.ref v, .int (nI fo), .ref ap, .ref aw, .ref ag, .ref av, .ref an, .int sz])), (ap, .inl (g 0, 60, .inl (px_fill pl a (e - a) (-1)))), (aw, .inl (g 1, 60, .inl (px_cut (fun j => !px_hole pl j) wr a (e - a) (nI 0)))), (ag, .inl (g 1, 60, .inl (px_fill pg a (e - a) (nI 0)))), (av, .inl (g 0, 60, .inl pv)), (an, .inl (g 1, 60, .inl nt)), (v, .inr (1, [.ref vo, .ref vv])), (vo, .inl (g 0, 80, .inl (px_rel (fun _ => true) pl (e - a) a ow))), (vv, .inl (g 0, 80, .inl vl))] := by
  refine ww_start (by decide +kernel) rfl rfl (Nat.le_of_ble_eq_true rfl) (L0 := [(0, .ref h), (1, .int (nI a)), (2, .int (nI e))]) rfl ?_
  intro X O hl hD hg hR hn F
  subst hl hD hg
  generalize hT : px_rel (fun _ => true) pl (e - a) a ow = T at F
  have loop : ∀ (k b n : Nat) (ow2 : Nat → Int32), e ≤ b + k → a ≤ b → b ≤ e → n = px_cnt (fun j => !px_hole pl j) a (b - a) → px_rel (fun _ => true) pl (e - b) b ow2 = T → ww_at X 0 0 5 [(0, .ref h), (1, .int (nI a)), (2, .int (nI e)), (3, .int (nI n)), (4, .int (nI b))] [] [(h, .inr (0, [.ref v, .int (nI fo), .ref ap, .ref aw, .ref ag, .ref av, .ref an, .int sz])), (ap, .inl (ww_g X 0, 60, .inl (px_fill pl a (b - a) (-1)))), (aw, .inl (ww_g X 1, 60, .inl (px_cut (fun j => !px_hole pl j) wr a (b - a) (nI 0)))), (ag, .inl (ww_g X 1, 60, .inl (px_fill pg a (b - a) (nI 0)))), (av, .inl (ww_g X 0, 60, .inl pv)), (an, .inl (ww_g X 1, 60, .inl nt)), (v, .inr (1, [.ref vo, .ref vv])), (vo, .inl (ww_g X 0, 80, .inl ow2)), (vv, .inl (ww_g X 0, 80, .inl vl))] := by
    intro k
    induction k with
    | zero =>
      intro b n ow2 h1 h2 h3 h5 h4
      refine ww_iload O dd_BF_makeHoles_5 4 rfl ?_
      refine ww_iload_n O dd_BF_makeHoles_7 2 rfl ?_
      refine ww_icmp_geN O dd_BF_makeHoles_8 (tgt := 41) rfl (by omega) (by omega) (fun h8 => ?_) (fun h8 => ?_)
      · refine ww_iload_n O dd_BF_makeHoles_41 3 rfl ?_
        have eb : b = e := by omega
        subst eb
        rw [Nat.sub_self] at h4
        subst h4
        subst h5
        exact F.i dd_BF_makeHoles_42
      · exfalso; omega
    | succ k ih =>
      intro b n ow2 h1 h2 h3 h5 h4
      refine ww_iload O dd_BF_makeHoles_5 4 rfl ?_
      refine ww_iload_n O dd_BF_makeHoles_7 2 rfl ?_
      refine ww_icmp_geN O dd_BF_makeHoles_8 (tgt := 41) rfl (by omega) (by omega) (fun h8 => ?_) (fun h8 => ?_)
      · refine ww_iload_n O dd_BF_makeHoles_41 3 rfl ?_
        have eb : b = e := by omega
        subst eb
        rw [Nat.sub_self] at h4
        subst h4
        subst h5
        exact F.i dd_BF_makeHoles_42
      · refine ww_aload_n O dd_BF_makeHoles_11 0 rfl ?_
        refine ww_iload O dd_BF_makeHoles_12 4 rfl ?_
        refine ww_callV (q0 := 0) (ci := 0) O (cc_BF_dropPage _ _ _ h v fo ap aw ag av an vo vv sz (px_fill pl a (b - a) (-1)) (px_cut (fun j => !px_hole pl j) wr a (b - a) (nI 0)) (px_fill pg a (b - a) (nI 0)) pv nt ow2 vl b (by omega)) lc_BF_51 lx_BF_dropPage_I_V rfl rfl rfl (by rw [hR]; decide) (by rw [hR]; decide) (by rw [hR]; decide) rfl (Nat.le_of_ble_eq_true rfl) dd_BF_makeHoles_14 rfl [0, 1, 2, 3, 4, 5, 6, 7, 8] [] [0, 1, 2, 3, 4, 5, 6, 7, 8] rfl (by decide) rfl (by decide) (by decide) (ws' := [(h, .inr (0, [.ref v, .int (nI fo), .ref ap, .ref aw, .ref ag, .ref av, .ref an, .int sz])), (ap, .inl (ww_g X 0, 60, .inl (px_fill pl a (b - a) (-1)))), (aw, .inl (ww_g X 1, 60, .inl (px_cut (fun j => !px_hole pl j) wr a (b - a) (nI 0)))), (ag, .inl (ww_g X 1, 60, .inl (upd (px_fill pg a (b - a) (nI 0)) b (nI 0)))), (av, .inl (ww_g X 0, 60, .inl pv)), (an, .inl (ww_g X 1, 60, .inl nt)), (v, .inr (1, [.ref vo, .ref vv])), (vo, .inl (ww_g X 0, 80, .inl ow2)), (vv, .inl (ww_g X 0, 80, .inl vl))]) rfl rfl (by decide) ?_
        refine ww_aload_n O dd_BF_makeHoles_17 0 rfl ?_
        refine ww_iload O dd_BF_makeHoles_18 4 rfl ?_
        refine ww_callV (q0 := 0) (ci := 0) O (cc_BF_isHole _ _ _ h v fo ap aw ag av an vo vv sz (px_fill pl a (b - a) (-1)) (px_cut (fun j => !px_hole pl j) wr a (b - a) (nI 0)) (upd (px_fill pg a (b - a) (nI 0)) b (nI 0)) pv nt ow2 vl b (by omega)) lc_BF_55 lx_BF_isHole_I_Z rfl rfl rfl (by rw [hR]; decide) (by rw [hR]; decide) (by rw [hR]; decide) rfl (Nat.le_of_ble_eq_true rfl) dd_BF_makeHoles_20 rfl [0, 1, 2, 3, 4, 5, 6, 7, 8] [] [0, 1, 2, 3, 4, 5, 6, 7, 8] rfl (by decide) rfl (by decide) (by decide) (ws' := [(h, .inr (0, [.ref v, .int (nI fo), .ref ap, .ref aw, .ref ag, .ref av, .ref an, .int sz])), (ap, .inl (ww_g X 0, 60, .inl (px_fill pl a (b - a) (-1)))), (aw, .inl (ww_g X 1, 60, .inl (px_cut (fun j => !px_hole pl j) wr a (b - a) (nI 0)))), (ag, .inl (ww_g X 1, 60, .inl (upd (px_fill pg a (b - a) (nI 0)) b (nI 0)))), (av, .inl (ww_g X 0, 60, .inl pv)), (an, .inl (ww_g X 1, 60, .inl nt)), (v, .inr (1, [.ref vo, .ref vv])), (vo, .inl (ww_g X 0, 80, .inl ow2)), (vv, .inl (ww_g X 0, 80, .inl vl))]) rfl rfl (by decide) ?_
        rw [px_hole_fl (by omega)]
        refine ww_if_neB O dd_BF_makeHoles_23 (tgt := 35) rfl (fun h23 => ?_) (fun h23 => ?_)
        · refine ww_iinc O dd_BF_makeHoles_35 4 rfl (v := nI (b + 1)) (nI_add _ 1) (by rw [hn]; decide) rfl (L' := [(0, .ref h), (1, .int (nI a)), (2, .int (nI e)), (3, .int (nI n)), (4, .int (nI (b + 1)))]) rfl ?_
          refine ww_goto O dd_BF_makeHoles_38 (tgt := 5) rfl ?_
          rw [px_fill_sa h2, px_fill_same (f := pl) h2 (by simpa [px_hole] using h23), px_cut_f (f := wr) h2 (by simp [h23])]
          exact ih (b + 1) n _ (by omega) (by omega) (by omega) (px_caf h2 h5 (by simp [h23])) (by rw [← h4, px_rel_s (b := b) (by omega), if_neg (by simp [h23])])
        · refine ww_aload_n O dd_BF_makeHoles_26 0 rfl ?_
          refine ww_iload O dd_BF_makeHoles_27 4 rfl ?_
          obtain ⟨p, hp, hq⟩ : ∃ p, p < 80 ∧ pl b = nI p := by
            rcases hr b (by omega) (by omega) with h | h
            · simp [px_hole, h] at h23
            · exact h
          refine ww_callV (q0 := 0) (ci := 0) O (cc_BF_unmap _ _ _ h v fo ap aw ag av an vo vv sz (px_fill pl a (b - a) (-1)) (px_cut (fun j => !px_hole pl j) wr a (b - a) (nI 0)) (upd (px_fill pg a (b - a) (nI 0)) b (nI 0)) pv nt ow2 vl b p (by omega) (by omega) (by rw [px_fill_o (by omega)]; exact hq)) lc_BF_110 lx_BF_unmap_I_V rfl rfl rfl (by rw [hR]; decide) (by rw [hR]; decide) (by rw [hR]; decide) rfl (Nat.le_of_ble_eq_true rfl) dd_BF_makeHoles_29 rfl [0, 1, 2, 3, 4, 5, 6, 7, 8] [] [0, 1, 2, 3, 4, 5, 6, 7, 8] rfl (by decide) rfl (by decide) (by decide) (ws' := [(h, .inr (0, [.ref v, .int (nI fo), .ref ap, .ref aw, .ref ag, .ref av, .ref an, .int sz])), (ap, .inl (ww_g X 0, 60, .inl (upd (px_fill pl a (b - a) (-1)) b (-1)))), (aw, .inl (ww_g X 1, 60, .inl (upd (px_cut (fun j => !px_hole pl j) wr a (b - a) (nI 0)) b (nI 0)))), (ag, .inl (ww_g X 1, 60, .inl (upd (px_fill pg a (b - a) (nI 0)) b (nI 0)))), (av, .inl (ww_g X 0, 60, .inl pv)), (an, .inl (ww_g X 1, 60, .inl nt)), (v, .inr (1, [.ref vo, .ref vv])), (vo, .inl (ww_g X 0, 80, .inl (upd ow2 p (-1)))), (vv, .inl (ww_g X 0, 80, .inl vl))]) rfl rfl (by decide) ?_
          refine ww_iinc O dd_BF_makeHoles_32 3 rfl (v := nI (n + 1)) (nI_add _ 1) (by rw [hn]; decide) rfl (L' := [(0, .ref h), (1, .int (nI a)), (2, .int (nI e)), (3, .int (nI (n + 1))), (4, .int (nI b))]) rfl ?_
          refine ww_iinc O dd_BF_makeHoles_35 4 rfl (v := nI (b + 1)) (nI_add _ 1) (by rw [hn]; decide) rfl (L' := [(0, .ref h), (1, .int (nI a)), (2, .int (nI e)), (3, .int (nI (n + 1))), (4, .int (nI (b + 1)))]) rfl ?_
          refine ww_goto O dd_BF_makeHoles_38 (tgt := 5) rfl ?_
          rw [px_fill_sa h2, px_fill_sa h2, px_cut_t h2 (by simp [h23])]
          exact ih (b + 1) (n + 1) _ (by omega) (by omega) (by omega) (px_cat h2 h5 (by simp [h23])) (by rw [← h4, px_rel_s (b := b) (by omega), if_pos (by simp [h23]), hq, nI_clamp (by omega)])
  have h0 := loop e a 0 ow (by omega) (by omega) (by omega) (by rw [Nat.sub_self]; rfl) hT
  rw [Nat.sub_self, px_fill_0, px_fill_0, px_cut_0] at h0
  refine ww_iconst O dd_BF_makeHoles_0 (v := nI 0) rfl ?_
  refine ww_istore_n O dd_BF_makeHoles_1 (by rw [hn]; decide) rfl (L' := [(0, .ref h), (1, .int (nI a)), (2, .int (nI e)), (3, .int (nI 0))]) rfl ?_
  refine ww_iload_n O dd_BF_makeHoles_2 1 rfl ?_
  refine ww_istore O dd_BF_makeHoles_3 (by rw [hn]; decide) rfl (L' := [(0, .ref h), (1, .int (nI a)), (2, .int (nI e)), (3, .int (nI 0)), (4, .int (nI a))]) rfl ?_
  exact h0
set_option maxRecDepth 4000 in
theorem cc_BF_writePage (l : Launch) (D : va_G) (g : Nat → ClassId) (h : Nat) (v : Nat) (fo : Nat) (ap : Nat) (aw : Nat) (ag : Nat) (av : Nat) (an : Nat) (vo : Nat) (vv : Nat) (sz : Int32) (pl : Nat → Int32) (wr : Nat → Int32) (pg : Nat → Int32) (pv : Nat → Int32) (nt : Nat → Int32) (ow : Nat → Int32) (vl : Nat → Int32) (b : Nat) (hb : b < 60) (hr : pl b = -1 ∨ ∃ p, p < 80 ∧ pl b = nI p) : ww_ct l D g yy_BF_writePage bb_BF_writePage 2 none (ww_rm 2) [.ref h, .int (nI b)] [(h, .inr (0, [.ref v, .int (nI fo), .ref ap, .ref aw, .ref ag, .ref av, .ref an, .int sz])), (ap, .inl (g 0, 60, .inl pl)), (aw, .inl (g 1, 60, .inl wr)), (ag, .inl (g 1, 60, .inl pg)), (av, .inl (g 0, 60, .inl pv)), (an, .inl (g 1, 60, .inl nt)), (v, .inr (1, [.ref vo, .ref vv])), (vo, .inl (g 0, 80, .inl ow)), (vv, .inl (g 0, 80, .inl vl))] none [(h, .inr (0, [.ref v, .int (nI fo), .ref ap, .ref aw, .ref ag, .ref av, .ref an, .int sz])), (ap, .inl (g 0, 60, .inl pl)), (aw, .inl (g 1, 60, .inl (if px_hole pl b = true then wr else upd wr b (nI 1)))), (ag, .inl (g 1, 60, .inl (upd pg b (nI 0)))), (av, .inl (g 0, 60, .inl pv)), (an, .inl (g 1, 60, .inl nt)), (v, .inr (1, [.ref vo, .ref vv])), (vo, .inl (g 0, 80, .inl ow)), (vv, .inl (g 0, 80, .inl (if px_hole pl b = true then vl else upd vl (pl b).toNatClampNeg (pv b))))] := by
  refine ww_start (by decide +kernel) rfl trivial (Nat.le_of_ble_eq_true rfl) (L0 := [(0, .ref h), (1, .int (nI b))]) rfl ?_
  intro X O hl hD hg hR hn F
  subst hl hD hg
  refine ww_aload_n O dd_BF_writePage_0 0 rfl ?_
  refine ww_iload_n O dd_BF_writePage_1 1 rfl ?_
  refine ww_callV (q0 := 0) (ci := 0) O (cc_BF_isHole _ _ _ h v fo ap aw ag av an vo vv sz pl wr pg pv nt ow vl b (by omega)) lc_BF_55 lx_BF_isHole_I_Z rfl rfl rfl (by rw [hR]; decide) (by rw [hR]; decide) (by rw [hR]; decide) rfl (Nat.le_of_ble_eq_true rfl) dd_BF_writePage_2 rfl [0, 1, 2, 3, 4, 5, 6, 7, 8] [] [0, 1, 2, 3, 4, 5, 6, 7, 8] rfl (by decide) rfl (by decide) (by decide) (ws' := [(h, .inr (0, [.ref v, .int (nI fo), .ref ap, .ref aw, .ref ag, .ref av, .ref an, .int sz])), (ap, .inl (ww_g X 0, 60, .inl pl)), (aw, .inl (ww_g X 1, 60, .inl wr)), (ag, .inl (ww_g X 1, 60, .inl pg)), (av, .inl (ww_g X 0, 60, .inl pv)), (an, .inl (ww_g X 1, 60, .inl nt)), (v, .inr (1, [.ref vo, .ref vv])), (vo, .inl (ww_g X 0, 80, .inl ow)), (vv, .inl (ww_g X 0, 80, .inl vl))]) rfl rfl (by decide) ?_
  refine ww_if_neB O dd_BF_writePage_5 (tgt := 34) rfl (fun h5 => ?_) (fun h5 => ?_)
  · rw [if_pos h5, if_pos h5] at F
    refine ww_aload_n O dd_BF_writePage_34 0 rfl ?_
    refine ww_iload_n O dd_BF_writePage_35 1 rfl ?_
    refine ww_callV (q0 := 0) (ci := 0) O (cc_BF_dropPage _ _ _ h v fo ap aw ag av an vo vv sz pl wr pg pv nt ow vl b (by omega)) lc_BF_51 lx_BF_dropPage_I_V rfl rfl rfl (by rw [hR]; decide) (by rw [hR]; decide) (by rw [hR]; decide) rfl (Nat.le_of_ble_eq_true rfl) dd_BF_writePage_36 rfl [0, 1, 2, 3, 4, 5, 6, 7, 8] [] [0, 1, 2, 3, 4, 5, 6, 7, 8] rfl (by decide) rfl (by decide) (by decide) (ws' := [(h, .inr (0, [.ref v, .int (nI fo), .ref ap, .ref aw, .ref ag, .ref av, .ref an, .int sz])), (ap, .inl (ww_g X 0, 60, .inl pl)), (aw, .inl (ww_g X 1, 60, .inl wr)), (ag, .inl (ww_g X 1, 60, .inl (upd pg b (nI 0)))), (av, .inl (ww_g X 0, 60, .inl pv)), (an, .inl (ww_g X 1, 60, .inl nt)), (v, .inr (1, [.ref vo, .ref vv])), (vo, .inl (ww_g X 0, 80, .inl ow)), (vv, .inl (ww_g X 0, 80, .inl vl))]) rfl rfl (by decide) ?_
    exact F.v dd_BF_writePage_39
  · rw [if_neg (by rw [h5]; decide), if_neg (by rw [h5]; decide)] at F
    obtain ⟨p, hp, hq⟩ : ∃ p, p < 80 ∧ pl b = nI p := by
      rcases hr with h | h
      · simp [px_hole, h] at h5
      · exact h
    rw [hq, nI_clamp (show p < 2 ^ 31 by omega)] at F
    refine ww_aload_n O dd_BF_writePage_8 0 rfl ?_
    refine ww_get O ci_BF rfl 0 (by decide) lf_BF_32 rfl dd_BF_writePage_9 0 rfl rfl ?_
    refine ww_aload_n O dd_BF_writePage_12 0 rfl ?_
    refine ww_get O ci_BF rfl 2 (by decide) lf_BF_9 rfl dd_BF_writePage_13 0 rfl rfl ?_
    refine ww_iload_n O dd_BF_writePage_16 1 rfl ?_
    refine ww_iald O dd_BF_writePage_17 1 rfl (by omega) (by decide) rfl ?_
    refine ww_aload_n O dd_BF_writePage_18 0 rfl ?_
    refine ww_get O ci_BF rfl 5 (by decide) lf_BF_22 rfl dd_BF_writePage_19 0 rfl rfl ?_
    refine ww_iload_n O dd_BF_writePage_22 1 rfl ?_
    refine ww_iald O dd_BF_writePage_23 4 rfl (by omega) (by decide) rfl ?_
    rw [hq]
    refine ww_callV (q0 := 6) (ci := 1) O (cc_VO_setValue _ _ _ v vo vv ow vl p (pv b) (by omega)) lc_BF_116 lx_VO_setValue_II_V rfl rfl rfl (by rw [hR]; decide) (by rw [hR]; decide) (by rw [hR]; decide) rfl (Nat.le_of_ble_eq_true rfl) dd_BF_writePage_24 rfl [6, 7, 8] [0, 1, 2, 3, 4, 5] [0, 1, 2, 3, 4, 5, 6, 7, 8] rfl (by decide) rfl (by decide) (by decide) (ws' := [(h, .inr (0, [.ref v, .int (nI fo), .ref ap, .ref aw, .ref ag, .ref av, .ref an, .int sz])), (ap, .inl (ww_g X 0, 60, .inl pl)), (aw, .inl (ww_g X 1, 60, .inl wr)), (ag, .inl (ww_g X 1, 60, .inl pg)), (av, .inl (ww_g X 0, 60, .inl pv)), (an, .inl (ww_g X 1, 60, .inl nt)), (v, .inr (1, [.ref vo, .ref vv])), (vo, .inl (ww_g X 0, 80, .inl ow)), (vv, .inl (ww_g X 0, 80, .inl (upd vl p (pv b))))]) rfl rfl (by decide) ?_
    refine ww_aload_n O dd_BF_writePage_27 0 rfl ?_
    refine ww_get O ci_BF rfl 3 (by decide) lf_BF_15 rfl dd_BF_writePage_28 0 rfl rfl ?_
    refine ww_iload_n O dd_BF_writePage_31 1 rfl ?_
    refine ww_iconst O dd_BF_writePage_32 (v := nI 1) rfl ?_
    refine ww_zast O dd_BF_writePage_33 2 rfl (by omega) (by decide) rfl (ws' := [(h, .inr (0, [.ref v, .int (nI fo), .ref ap, .ref aw, .ref ag, .ref av, .ref an, .int sz])), (ap, .inl (ww_g X 0, 60, .inl pl)), (aw, .inl (ww_g X 1, 60, .inl (upd wr b (nI 1)))), (ag, .inl (ww_g X 1, 60, .inl pg)), (av, .inl (ww_g X 0, 60, .inl pv)), (an, .inl (ww_g X 1, 60, .inl nt)), (v, .inr (1, [.ref vo, .ref vv])), (vo, .inl (ww_g X 0, 80, .inl ow)), (vv, .inl (ww_g X 0, 80, .inl (upd vl p (pv b))))]) rfl ?_
    refine ww_aload_n O dd_BF_writePage_34 0 rfl ?_
    refine ww_iload_n O dd_BF_writePage_35 1 rfl ?_
    refine ww_callV (q0 := 0) (ci := 0) O (cc_BF_dropPage _ _ _ h v fo ap aw ag av an vo vv sz pl (upd wr b (nI 1)) pg pv nt ow (upd vl p (pv b)) b (by omega)) lc_BF_51 lx_BF_dropPage_I_V rfl rfl rfl (by rw [hR]; decide) (by rw [hR]; decide) (by rw [hR]; decide) rfl (Nat.le_of_ble_eq_true rfl) dd_BF_writePage_36 rfl [0, 1, 2, 3, 4, 5, 6, 7, 8] [] [0, 1, 2, 3, 4, 5, 6, 7, 8] rfl (by decide) rfl (by decide) (by decide) (ws' := [(h, .inr (0, [.ref v, .int (nI fo), .ref ap, .ref aw, .ref ag, .ref av, .ref an, .int sz])), (ap, .inl (ww_g X 0, 60, .inl pl)), (aw, .inl (ww_g X 1, 60, .inl (upd wr b (nI 1)))), (ag, .inl (ww_g X 1, 60, .inl (upd pg b (nI 0)))), (av, .inl (ww_g X 0, 60, .inl pv)), (an, .inl (ww_g X 1, 60, .inl nt)), (v, .inr (1, [.ref vo, .ref vv])), (vo, .inl (ww_g X 0, 80, .inl ow)), (vv, .inl (ww_g X 0, 80, .inl (upd vl p (pv b))))]) rfl rfl (by decide) ?_
    exact F.v dd_BF_writePage_39
set_option maxRecDepth 4000 in
theorem cc_BF_writePages (l : Launch) (D : va_G) (g : Nat → ClassId) (h : Nat) (v : Nat) (fo : Nat) (ap : Nat) (aw : Nat) (ag : Nat) (av : Nat) (an : Nat) (vo : Nat) (vv : Nat) (sz : Int32) (pl : Nat → Int32) (wr : Nat → Int32) (pg : Nat → Int32) (pv : Nat → Int32) (nt : Nat → Int32) (ow : Nat → Int32) (vl : Nat → Int32) (hr : px_rng pl 0 60) : ww_ct l D g yy_BF_writePages bb_BF_writePages 3 (some .int) (ww_rm 3) [.ref h] [(h, .inr (0, [.ref v, .int (nI fo), .ref ap, .ref aw, .ref ag, .ref av, .ref an, .int sz])), (ap, .inl (g 0, 60, .inl pl)), (aw, .inl (g 1, 60, .inl wr)), (ag, .inl (g 1, 60, .inl pg)), (av, .inl (g 0, 60, .inl pv)), (an, .inl (g 1, 60, .inl nt)), (v, .inr (1, [.ref vo, .ref vv])), (vo, .inl (g 0, 80, .inl ow)), (vv, .inl (g 0, 80, .inl vl))] (some (.int (nI (px_pp pg 0)))) [(h, .inr (0, [.ref v, .int (nI fo), .ref ap, .ref aw, .ref ag, .ref av, .ref an, .int sz])), (ap, .inl (g 0, 60, .inl pl)), (aw, .inl (g 1, 60, .inl (px_cut (fun j => px_on pg j && !px_hole pl j) wr 0 60 (nI 1)))), (ag, .inl (g 1, 60, .inl (px_fill pg 0 60 (nI 0)))), (av, .inl (g 0, 60, .inl pv)), (an, .inl (g 1, 60, .inl nt)), (v, .inr (1, [.ref vo, .ref vv])), (vo, .inl (g 0, 80, .inl ow)), (vv, .inl (g 0, 80, .inl (px_wv pl pg pv 60 0 vl)))] := by
  refine ww_start (by decide +kernel) rfl rfl (Nat.le_of_ble_eq_true rfl) (L0 := [(0, .ref h)]) rfl ?_
  intro X O hl hD hg hR hn F
  subst hl hD hg
  generalize hT : px_wv pl pg pv 60 0 vl = T at F
  have loop : ∀ (k b n : Nat) (vl2 : Nat → Int32), 60 ≤ b + k → b ≤ 60 → n = px_cnt (px_on pg) 0 b → px_wv pl pg pv (60 - b) b vl2 = T → ww_at X 0 0 4 [(0, .ref h), (1, .int (nI n)), (2, .int (nI b))] [] [(h, .inr (0, [.ref v, .int (nI fo), .ref ap, .ref aw, .ref ag, .ref av, .ref an, .int sz])), (ap, .inl (ww_g X 0, 60, .inl pl)), (aw, .inl (ww_g X 1, 60, .inl (px_cut (fun j => px_on pg j && !px_hole pl j) wr 0 (b - 0) (nI 1)))), (ag, .inl (ww_g X 1, 60, .inl (px_fill pg 0 (b - 0) (nI 0)))), (av, .inl (ww_g X 0, 60, .inl pv)), (an, .inl (ww_g X 1, 60, .inl nt)), (v, .inr (1, [.ref vo, .ref vv])), (vo, .inl (ww_g X 0, 80, .inl ow)), (vv, .inl (ww_g X 0, 80, .inl vl2))] := by
    intro k
    induction k with
    | zero =>
      intro b n vl2 h1 h2 h5 h4
      refine ww_iload_n O dd_BF_writePages_4 2 rfl ?_
      refine ww_bipush O dd_BF_writePages_5 (v := nI 60) rfl ?_
      refine ww_icmp_geN O dd_BF_writePages_7 (tgt := 33) rfl (by omega) (by omega) (fun h7 => ?_) (fun h7 => ?_)
      · refine ww_iload_n O dd_BF_writePages_33 1 rfl ?_
        have eb : b = 60 := by omega
        subst eb
        rw [Nat.sub_self] at h4
        subst h4
        subst h5
        exact F.i dd_BF_writePages_34
      · exfalso; omega
    | succ k ih =>
      intro b n vl2 h1 h2 h5 h4
      refine ww_iload_n O dd_BF_writePages_4 2 rfl ?_
      refine ww_bipush O dd_BF_writePages_5 (v := nI 60) rfl ?_
      refine ww_icmp_geN O dd_BF_writePages_7 (tgt := 33) rfl (by omega) (by omega) (fun h7 => ?_) (fun h7 => ?_)
      · refine ww_iload_n O dd_BF_writePages_33 1 rfl ?_
        have eb : b = 60 := by omega
        subst eb
        rw [Nat.sub_self] at h4
        subst h4
        subst h5
        exact F.i dd_BF_writePages_34
      · refine ww_aload_n O dd_BF_writePages_10 0 rfl ?_
        refine ww_get O ci_BF rfl 4 (by decide) lf_BF_19 rfl dd_BF_writePages_11 0 rfl rfl ?_
        refine ww_iload_n O dd_BF_writePages_14 2 rfl ?_
        refine ww_zald O dd_BF_writePages_15 3 rfl (by omega) (by decide) rfl ?_
        rw [px_fill_o (by omega)]
        refine ww_if_eq O dd_BF_writePages_16 (tgt := 27) rfl (fun h16 => ?_) (fun h16 => ?_)
        · refine ww_iinc O dd_BF_writePages_27 2 rfl (v := nI (b + 1)) (nI_add _ 1) (by rw [hn]; decide) rfl (L' := [(0, .ref h), (1, .int (nI n)), (2, .int (nI (b + 1)))]) rfl ?_
          refine ww_goto O dd_BF_writePages_30 (tgt := 4) rfl ?_
          rw [px_fill_same (f := pg) (v := nI 0) (Nat.zero_le b) h16, px_cut_f (f := wr) (Nat.zero_le b) (by simp [px_on, h16])]
          exact ih (b + 1) n _ (by omega) (by omega) (px_c0f h5 (by simp [px_on, h16])) (by rw [← h4, px_wv_s (b := b) (by omega), if_neg (by simp [px_on, h16])])
        · refine ww_aload_n O dd_BF_writePages_19 0 rfl ?_
          refine ww_iload_n O dd_BF_writePages_20 2 rfl ?_
          refine ww_callV (q0 := 0) (ci := 0) O (cc_BF_writePage _ _ _ h v fo ap aw ag av an vo vv sz pl (px_cut (fun j => px_on pg j && !px_hole pl j) wr 0 (b - 0) (nI 1)) (px_fill pg 0 (b - 0) (nI 0)) pv nt ow vl2 b (by omega) (hr b (by omega) (by omega))) lc_BF_113 lx_BF_writePage_I_V rfl rfl rfl (by rw [hR]; decide) (by rw [hR]; decide) (by rw [hR]; decide) rfl (Nat.le_of_ble_eq_true rfl) dd_BF_writePages_21 rfl [0, 1, 2, 3, 4, 5, 6, 7, 8] [] [0, 1, 2, 3, 4, 5, 6, 7, 8] rfl (by decide) rfl (by decide) (by decide) (ws' := [(h, .inr (0, [.ref v, .int (nI fo), .ref ap, .ref aw, .ref ag, .ref av, .ref an, .int sz])), (ap, .inl (ww_g X 0, 60, .inl pl)), (aw, .inl (ww_g X 1, 60, .inl (if px_hole pl b = true then (px_cut (fun j => px_on pg j && !px_hole pl j) wr 0 (b - 0) (nI 1)) else upd (px_cut (fun j => px_on pg j && !px_hole pl j) wr 0 (b - 0) (nI 1)) b (nI 1)))), (ag, .inl (ww_g X 1, 60, .inl (upd (px_fill pg 0 (b - 0) (nI 0)) b (nI 0)))), (av, .inl (ww_g X 0, 60, .inl pv)), (an, .inl (ww_g X 1, 60, .inl nt)), (v, .inr (1, [.ref vo, .ref vv])), (vo, .inl (ww_g X 0, 80, .inl ow)), (vv, .inl (ww_g X 0, 80, .inl (if px_hole pl b = true then vl2 else upd vl2 (pl b).toNatClampNeg (pv b))))]) rfl rfl (by decide) ?_
          refine ww_iinc O dd_BF_writePages_24 1 rfl (v := nI (n + 1)) (nI_add _ 1) (by rw [hn]; decide) rfl (L' := [(0, .ref h), (1, .int (nI (n + 1))), (2, .int (nI b))]) rfl ?_
          refine ww_iinc O dd_BF_writePages_27 2 rfl (v := nI (b + 1)) (nI_add _ 1) (by rw [hn]; decide) rfl (L' := [(0, .ref h), (1, .int (nI (n + 1))), (2, .int (nI (b + 1)))]) rfl ?_
          refine ww_goto O dd_BF_writePages_30 (tgt := 4) rfl ?_
          rw [px_fill_sa (Nat.zero_le b)]
          by_cases hh : px_hole pl b = true
          · rw [if_pos hh, if_pos hh, px_cut_f (f := wr) (Nat.zero_le b) (by simp [hh])]
            exact ih (b + 1) (n + 1) _ (by omega) (by omega) (px_c0t h5 (by simp [px_on, h16])) (by rw [← h4, px_wv_s (b := b) (by omega), if_neg (by simp [hh])])
          · rw [if_neg hh, if_neg hh, px_cut_t (Nat.zero_le b) (by simp [px_on, h16, hh])]
            exact ih (b + 1) (n + 1) _ (by omega) (by omega) (px_c0t h5 (by simp [px_on, h16])) (by rw [← h4, px_wv_s (b := b) (by omega), if_pos (by simp [px_on, h16, hh])])
  have h0 := loop 60 0 0 vl (by omega) (by omega) rfl hT
  rw [Nat.sub_self, px_fill_0, px_cut_0] at h0
  refine ww_iconst O dd_BF_writePages_0 (v := nI 0) rfl ?_
  refine ww_istore_n O dd_BF_writePages_1 (by rw [hn]; decide) rfl (L' := [(0, .ref h), (1, .int (nI 0))]) rfl ?_
  refine ww_iconst O dd_BF_writePages_2 (v := nI 0) rfl ?_
  refine ww_istore_n O dd_BF_writePages_3 (by rw [hn]; decide) rfl (L' := [(0, .ref h), (1, .int (nI 0)), (2, .int (nI 0))]) rfl ?_
  exact h0
set_option maxRecDepth 4000 in
theorem cc_BF_noteHoles (l : Launch) (D : va_G) (g : Nat → ClassId) (h : Nat) (v : Nat) (fo : Nat) (ap : Nat) (aw : Nat) (ag : Nat) (av : Nat) (an : Nat) (vo : Nat) (vv : Nat) (sz : Int32) (pl : Nat → Int32) (wr : Nat → Int32) (pg : Nat → Int32) (pv : Nat → Int32) (nt : Nat → Int32) (ow : Nat → Int32) (vl : Nat → Int32)  : ww_ct l D g yy_BF_noteHoles bb_BF_noteHoles 2 none (ww_rm 2) [.ref h] [(h, .inr (0, [.ref v, .int (nI fo), .ref ap, .ref aw, .ref ag, .ref av, .ref an, .int sz])), (ap, .inl (g 0, 60, .inl pl)), (aw, .inl (g 1, 60, .inl wr)), (ag, .inl (g 1, 60, .inl pg)), (av, .inl (g 0, 60, .inl pv)), (an, .inl (g 1, 60, .inl nt)), (v, .inr (1, [.ref vo, .ref vv])), (vo, .inl (g 0, 80, .inl ow)), (vv, .inl (g 0, 80, .inl vl))] none [(h, .inr (0, [.ref v, .int (nI fo), .ref ap, .ref aw, .ref ag, .ref av, .ref an, .int sz])), (ap, .inl (g 0, 60, .inl pl)), (aw, .inl (g 1, 60, .inl wr)), (ag, .inl (g 1, 60, .inl pg)), (av, .inl (g 0, 60, .inl pv)), (an, .inl (g 1, 60, .inl (px_note pl nt 60))), (v, .inr (1, [.ref vo, .ref vv])), (vo, .inl (g 0, 80, .inl ow)), (vv, .inl (g 0, 80, .inl vl))] := by
  refine ww_start (by decide +kernel) rfl trivial (Nat.le_of_ble_eq_true rfl) (L0 := [(0, .ref h)]) rfl ?_
  intro X O hl hD hg hR hn F
  subst hl hD hg
  have loop : ∀ (k b : Nat), 60 ≤ b + k → b ≤ 60 → ww_at X 0 0 2 [(0, .ref h), (1, .int (nI b))] [] [(h, .inr (0, [.ref v, .int (nI fo), .ref ap, .ref aw, .ref ag, .ref av, .ref an, .int sz])), (ap, .inl (ww_g X 0, 60, .inl pl)), (aw, .inl (ww_g X 1, 60, .inl wr)), (ag, .inl (ww_g X 1, 60, .inl pg)), (av, .inl (ww_g X 0, 60, .inl pv)), (an, .inl (ww_g X 1, 60, .inl (px_note pl nt b))), (v, .inr (1, [.ref vo, .ref vv])), (vo, .inl (ww_g X 0, 80, .inl ow)), (vv, .inl (ww_g X 0, 80, .inl vl))] := by
    intro k
    induction k with
    | zero =>
      intro b h1 h2
      refine ww_iload_n O dd_BF_noteHoles_2 1 rfl ?_
      refine ww_bipush O dd_BF_noteHoles_3 (v := nI 60) rfl ?_
      refine ww_icmp_geN O dd_BF_noteHoles_5 (tgt := 25) rfl (by omega) (by omega) (fun h5 => ?_) (fun h5 => ?_)
      · have e : b = 60 := by omega
        subst e
        exact F.v dd_BF_noteHoles_25
      · exfalso; omega
    | succ k ih =>
      intro b h1 h2
      refine ww_iload_n O dd_BF_noteHoles_2 1 rfl ?_
      refine ww_bipush O dd_BF_noteHoles_3 (v := nI 60) rfl ?_
      refine ww_icmp_geN O dd_BF_noteHoles_5 (tgt := 25) rfl (by omega) (by omega) (fun h5 => ?_) (fun h5 => ?_)
      · have e : b = 60 := by omega
        subst e
        exact F.v dd_BF_noteHoles_25
      · refine ww_aload_n O dd_BF_noteHoles_8 0 rfl ?_
        refine ww_get O ci_BF rfl 6 (by decide) lf_BF_25 rfl dd_BF_noteHoles_9 0 rfl rfl ?_
        refine ww_iload_n O dd_BF_noteHoles_12 1 rfl ?_
        refine ww_aload_n O dd_BF_noteHoles_13 0 rfl ?_
        refine ww_iload_n O dd_BF_noteHoles_14 1 rfl ?_
        refine ww_callV (q0 := 0) (ci := 0) O (cc_BF_isHole _ _ _ h v fo ap aw ag av an vo vv sz pl wr pg pv (px_note pl nt b) ow vl b (by omega)) lc_BF_55 lx_BF_isHole_I_Z rfl rfl rfl (by rw [hR]; decide) (by rw [hR]; decide) (by rw [hR]; decide) rfl (Nat.le_of_ble_eq_true rfl) dd_BF_noteHoles_15 rfl [0, 1, 2, 3, 4, 5, 6, 7, 8] [] [0, 1, 2, 3, 4, 5, 6, 7, 8] rfl (by decide) rfl (by decide) (by decide) (ws' := [(h, .inr (0, [.ref v, .int (nI fo), .ref ap, .ref aw, .ref ag, .ref av, .ref an, .int sz])), (ap, .inl (ww_g X 0, 60, .inl pl)), (aw, .inl (ww_g X 1, 60, .inl wr)), (ag, .inl (ww_g X 1, 60, .inl pg)), (av, .inl (ww_g X 0, 60, .inl pv)), (an, .inl (ww_g X 1, 60, .inl (px_note pl nt b))), (v, .inr (1, [.ref vo, .ref vv])), (vo, .inl (ww_g X 0, 80, .inl ow)), (vv, .inl (ww_g X 0, 80, .inl vl))]) rfl rfl (by decide) ?_
        refine ww_zast O dd_BF_noteHoles_18 5 rfl (by omega) (by decide) (px_b_vn _) (ws' := [(h, .inr (0, [.ref v, .int (nI fo), .ref ap, .ref aw, .ref ag, .ref av, .ref an, .int sz])), (ap, .inl (ww_g X 0, 60, .inl pl)), (aw, .inl (ww_g X 1, 60, .inl wr)), (ag, .inl (ww_g X 1, 60, .inl pg)), (av, .inl (ww_g X 0, 60, .inl pv)), (an, .inl (ww_g X 1, 60, .inl (upd (px_note pl nt b) b (px_b (px_hole pl b))))), (v, .inr (1, [.ref vo, .ref vv])), (vo, .inl (ww_g X 0, 80, .inl ow)), (vv, .inl (ww_g X 0, 80, .inl vl))]) rfl ?_
        refine ww_iinc O dd_BF_noteHoles_19 1 rfl (v := nI (b + 1)) (nI_add _ 1) (by rw [hn]; decide) rfl (L' := [(0, .ref h), (1, .int (nI (b + 1)))]) rfl ?_
        refine ww_goto O dd_BF_noteHoles_22 (tgt := 2) rfl ?_
        rw [px_note_s]
        exact ih (b + 1) (by omega) (by omega)
  have h0 := loop 60 0 (by omega) (by omega)
  rw [px_note_0] at h0
  refine ww_iconst O dd_BF_noteHoles_0 (v := nI 0) rfl ?_
  refine ww_istore_n O dd_BF_noteHoles_1 (by rw [hn]; decide) rfl (L' := [(0, .ref h), (1, .int (nI 0))]) rfl ?_
  exact h0
set_option maxRecDepth 4000 in
theorem cc_BF_restoreHoles (l : Launch) (D : va_G) (g : Nat → ClassId) (h : Nat) (v : Nat) (fo : Nat) (ap : Nat) (aw : Nat) (ag : Nat) (av : Nat) (an : Nat) (vo : Nat) (vv : Nat) (sz : Int32) (pl : Nat → Int32) (wr : Nat → Int32) (pg : Nat → Int32) (pv : Nat → Int32) (nt : Nat → Int32) (ow : Nat → Int32) (vl : Nat → Int32) (hr : px_rng pl 0 60) : ww_ct l D g yy_BF_restoreHoles bb_BF_restoreHoles 2 none (ww_rm 3) [.ref h] [(h, .inr (0, [.ref v, .int (nI fo), .ref ap, .ref aw, .ref ag, .ref av, .ref an, .int sz])), (ap, .inl (g 0, 60, .inl pl)), (aw, .inl (g 1, 60, .inl wr)), (ag, .inl (g 1, 60, .inl pg)), (av, .inl (g 0, 60, .inl pv)), (an, .inl (g 1, 60, .inl nt)), (v, .inr (1, [.ref vo, .ref vv])), (vo, .inl (g 0, 80, .inl ow)), (vv, .inl (g 0, 80, .inl vl))] none [(h, .inr (0, [.ref v, .int (nI fo), .ref ap, .ref aw, .ref ag, .ref av, .ref an, .int sz])), (ap, .inl (g 0, 60, .inl (px_cut (px_on nt) pl 0 60 (-1)))), (aw, .inl (g 1, 60, .inl (px_cut (fun j => px_on nt j && !px_hole pl j) wr 0 60 (nI 0)))), (ag, .inl (g 1, 60, .inl pg)), (av, .inl (g 0, 60, .inl pv)), (an, .inl (g 1, 60, .inl nt)), (v, .inr (1, [.ref vo, .ref vv])), (vo, .inl (g 0, 80, .inl (px_rel (px_on nt) pl 60 0 ow))), (vv, .inl (g 0, 80, .inl vl))] := by
  refine ww_start (by decide +kernel) rfl trivial (Nat.le_of_ble_eq_true rfl) (L0 := [(0, .ref h)]) rfl ?_
  intro X O hl hD hg hR hn F
  subst hl hD hg
  generalize hT : px_rel (px_on nt) pl 60 0 ow = T at F
  have loop : ∀ (k b : Nat) (ow2 : Nat → Int32), 60 ≤ b + k → b ≤ 60 → px_rel (px_on nt) pl (60 - b) b ow2 = T → ww_at X 0 0 2 [(0, .ref h), (1, .int (nI b))] [] [(h, .inr (0, [.ref v, .int (nI fo), .ref ap, .ref aw, .ref ag, .ref av, .ref an, .int sz])), (ap, .inl (ww_g X 0, 60, .inl (px_cut (px_on nt) pl 0 (b - 0) (-1)))), (aw, .inl (ww_g X 1, 60, .inl (px_cut (fun j => px_on nt j && !px_hole pl j) wr 0 (b - 0) (nI 0)))), (ag, .inl (ww_g X 1, 60, .inl pg)), (av, .inl (ww_g X 0, 60, .inl pv)), (an, .inl (ww_g X 1, 60, .inl nt)), (v, .inr (1, [.ref vo, .ref vv])), (vo, .inl (ww_g X 0, 80, .inl ow2)), (vv, .inl (ww_g X 0, 80, .inl vl))] := by
    intro k
    induction k with
    | zero =>
      intro b ow2 h1 h2 h4
      refine ww_iload_n O dd_BF_restoreHoles_2 1 rfl ?_
      refine ww_bipush O dd_BF_restoreHoles_3 (v := nI 60) rfl ?_
      refine ww_icmp_geN O dd_BF_restoreHoles_5 (tgt := 36) rfl (by omega) (by omega) (fun h5 => ?_) (fun h5 => ?_)
      · have eb : b = 60 := by omega
        subst eb
        rw [Nat.sub_self] at h4
        subst h4
        exact F.v dd_BF_restoreHoles_36
      · exfalso; omega
    | succ k ih =>
      intro b ow2 h1 h2 h4
      refine ww_iload_n O dd_BF_restoreHoles_2 1 rfl ?_
      refine ww_bipush O dd_BF_restoreHoles_3 (v := nI 60) rfl ?_
      refine ww_icmp_geN O dd_BF_restoreHoles_5 (tgt := 36) rfl (by omega) (by omega) (fun h5 => ?_) (fun h5 => ?_)
      · have eb : b = 60 := by omega
        subst eb
        rw [Nat.sub_self] at h4
        subst h4
        exact F.v dd_BF_restoreHoles_36
      · refine ww_aload_n O dd_BF_restoreHoles_8 0 rfl ?_
        refine ww_get O ci_BF rfl 6 (by decide) lf_BF_25 rfl dd_BF_restoreHoles_9 0 rfl rfl ?_
        refine ww_iload_n O dd_BF_restoreHoles_12 1 rfl ?_
        refine ww_zald O dd_BF_restoreHoles_13 5 rfl (by omega) (by decide) rfl ?_
        refine ww_if_eq O dd_BF_restoreHoles_14 (tgt := 30) rfl (fun h14 => ?_) (fun h14 => ?_)
        · refine ww_iinc O dd_BF_restoreHoles_30 1 rfl (v := nI (b + 1)) (nI_add _ 1) (by rw [hn]; decide) rfl (L' := [(0, .ref h), (1, .int (nI (b + 1)))]) rfl ?_
          refine ww_goto O dd_BF_restoreHoles_33 (tgt := 2) rfl ?_
          rw [px_cut_f (f := pl) (Nat.zero_le b) (by simp [px_on, h14]), px_cut_f (f := wr) (Nat.zero_le b) (by simp [px_on, h14])]
          exact ih (b + 1) _ (by omega) (by omega) (by rw [← h4, px_rel_s (b := b) (by omega), if_neg (by simp [px_on, h14])])
        · refine ww_aload_n O dd_BF_restoreHoles_17 0 rfl ?_
          refine ww_iload_n O dd_BF_restoreHoles_18 1 rfl ?_
          refine ww_callV (q0 := 0) (ci := 0) O (cc_BF_isHole _ _ _ h v fo ap aw ag av an vo vv sz (px_cut (px_on nt) pl 0 (b - 0) (-1)) (px_cut (fun j => px_on nt j && !px_hole pl j) wr 0 (b - 0) (nI 0)) pg pv nt ow2 vl b (by omega)) lc_BF_55 lx_BF_isHole_I_Z rfl rfl rfl (by rw [hR]; decide) (by rw [hR]; decide) (by rw [hR]; decide) rfl (Nat.le_of_ble_eq_true rfl) dd_BF_restoreHoles_19 rfl [0, 1, 2, 3, 4, 5, 6, 7, 8] [] [0, 1, 2, 3, 4, 5, 6, 7, 8] rfl (by decide) rfl (by decide) (by decide) (ws' := [(h, .inr (0, [.ref v, .int (nI fo), .ref ap, .ref aw, .ref ag, .ref av, .ref an, .int sz])), (ap, .inl (ww_g X 0, 60, .inl (px_cut (px_on nt) pl 0 (b - 0) (-1)))), (aw, .inl (ww_g X 1, 60, .inl (px_cut (fun j => px_on nt j && !px_hole pl j) wr 0 (b - 0) (nI 0)))), (ag, .inl (ww_g X 1, 60, .inl pg)), (av, .inl (ww_g X 0, 60, .inl pv)), (an, .inl (ww_g X 1, 60, .inl nt)), (v, .inr (1, [.ref vo, .ref vv])), (vo, .inl (ww_g X 0, 80, .inl ow2)), (vv, .inl (ww_g X 0, 80, .inl vl))]) rfl rfl (by decide) ?_
          rw [px_hole_ct (by omega)]
          refine ww_if_neB O dd_BF_restoreHoles_22 (tgt := 30) rfl (fun h22 => ?_) (fun h22 => ?_)
          · refine ww_iinc O dd_BF_restoreHoles_30 1 rfl (v := nI (b + 1)) (nI_add _ 1) (by rw [hn]; decide) rfl (L' := [(0, .ref h), (1, .int (nI (b + 1)))]) rfl ?_
            refine ww_goto O dd_BF_restoreHoles_33 (tgt := 2) rfl ?_
            rw [px_cut_same (f := pl) (Nat.zero_le b) (by simpa [px_hole] using h22), px_cut_f (f := wr) (Nat.zero_le b) (by simp [h22])]
            exact ih (b + 1) _ (by omega) (by omega) (by rw [← h4, px_rel_s (b := b) (by omega), if_neg (by simp [h22])])
          · refine ww_aload_n O dd_BF_restoreHoles_25 0 rfl ?_
            refine ww_iload_n O dd_BF_restoreHoles_26 1 rfl ?_
            obtain ⟨p, hp, hq⟩ : ∃ p, p < 80 ∧ pl b = nI p := by
              rcases hr b (by omega) (by omega) with h | h
              · simp [px_hole, h] at h22
              · exact h
            refine ww_callV (q0 := 0) (ci := 0) O (cc_BF_unmap _ _ _ h v fo ap aw ag av an vo vv sz (px_cut (px_on nt) pl 0 (b - 0) (-1)) (px_cut (fun j => px_on nt j && !px_hole pl j) wr 0 (b - 0) (nI 0)) pg pv nt ow2 vl b p (by omega) (by omega) (by rw [px_cut_o (by omega)]; exact hq)) lc_BF_110 lx_BF_unmap_I_V rfl rfl rfl (by rw [hR]; decide) (by rw [hR]; decide) (by rw [hR]; decide) rfl (Nat.le_of_ble_eq_true rfl) dd_BF_restoreHoles_27 rfl [0, 1, 2, 3, 4, 5, 6, 7, 8] [] [0, 1, 2, 3, 4, 5, 6, 7, 8] rfl (by decide) rfl (by decide) (by decide) (ws' := [(h, .inr (0, [.ref v, .int (nI fo), .ref ap, .ref aw, .ref ag, .ref av, .ref an, .int sz])), (ap, .inl (ww_g X 0, 60, .inl (upd (px_cut (px_on nt) pl 0 (b - 0) (-1)) b (-1)))), (aw, .inl (ww_g X 1, 60, .inl (upd (px_cut (fun j => px_on nt j && !px_hole pl j) wr 0 (b - 0) (nI 0)) b (nI 0)))), (ag, .inl (ww_g X 1, 60, .inl pg)), (av, .inl (ww_g X 0, 60, .inl pv)), (an, .inl (ww_g X 1, 60, .inl nt)), (v, .inr (1, [.ref vo, .ref vv])), (vo, .inl (ww_g X 0, 80, .inl (upd ow2 p (-1)))), (vv, .inl (ww_g X 0, 80, .inl vl))]) rfl rfl (by decide) ?_
            refine ww_iinc O dd_BF_restoreHoles_30 1 rfl (v := nI (b + 1)) (nI_add _ 1) (by rw [hn]; decide) rfl (L' := [(0, .ref h), (1, .int (nI (b + 1)))]) rfl ?_
            refine ww_goto O dd_BF_restoreHoles_33 (tgt := 2) rfl ?_
            rw [px_cut_t (f := pl) (Nat.zero_le b) (by simp [px_on, h14]), px_cut_t (f := wr) (Nat.zero_le b) (by simp [px_on, h14, h22])]
            exact ih (b + 1) _ (by omega) (by omega) (by rw [← h4, px_rel_s (b := b) (by omega), if_pos (by simp [px_on, h14, h22]), hq, nI_clamp (by omega)])
  have h0 := loop 60 0 ow (by omega) (by omega) hT
  rw [Nat.sub_self, px_cut_0, px_cut_0] at h0
  refine ww_iconst O dd_BF_restoreHoles_0 (v := nI 0) rfl ?_
  refine ww_istore_n O dd_BF_restoreHoles_1 (by rw [hn]; decide) rfl (L' := [(0, .ref h), (1, .int (nI 0))]) rfl ?_
  exact h0
end
section
theorem lf_MO_35 : Cond.fieldLink "DelayedExtentsModel" 35 "DelayedExtentsModel" "code" "I" ∈ lw_good := List.mem_filter.mpr ⟨List.mem_of_getElem? (i := 502) (by decide +kernel), by decide +kernel⟩
theorem lf_MO_7 : Cond.fieldLink "DelayedExtentsModel" 7 "DelayedExtentsModel" "place" "[I" ∈ lw_good := List.mem_filter.mpr ⟨List.mem_of_getElem? (i := 503) (by decide +kernel), by decide +kernel⟩
theorem lf_MO_13 : Cond.fieldLink "DelayedExtentsModel" 13 "DelayedExtentsModel" "written" "[Z" ∈ lw_good := List.mem_filter.mpr ⟨List.mem_of_getElem? (i := 504) (by decide +kernel), by decide +kernel⟩
theorem lf_MO_39 : Cond.fieldLink "DelayedExtentsModel" 39 "DelayedExtentsModel" "length" "I" ∈ lw_good := List.mem_filter.mpr ⟨List.mem_of_getElem? (i := 512) (by decide +kernel), by decide +kernel⟩
theorem lf_MO_46 : Cond.fieldLink "DelayedExtentsModel" 46 "DelayedExtentsModel" "first" "I" ∈ lw_good := List.mem_filter.mpr ⟨List.mem_of_getElem? (i := 511) (by decide +kernel), by decide +kernel⟩
theorem lc_MO_42 : ww_site "DelayedExtentsModel" 42 yy_MO_goesOn bb_MO_goesOn 2 (some .boolean) 1 := ⟨List.mem_filter.mpr ⟨List.mem_of_getElem? (i := 569) (by decide +kernel), by decide +kernel⟩, List.mem_filter.mpr ⟨List.mem_of_getElem? (i := 566) (by decide +kernel), by decide +kernel⟩, List.mem_filter.mpr ⟨List.mem_of_getElem? (i := 30) (by decide +kernel), by decide +kernel⟩, by decide, by decide, by decide +kernel⟩
theorem lx_MO_goesOn_I_Z : ww_virt yy_MO_goesOn := ⟨List.mem_filter.mpr ⟨List.mem_of_getElem? (i := 568) (by decide +kernel), by decide +kernel⟩, List.mem_filter.mpr ⟨List.mem_of_getElem? (i := 15) (by decide +kernel), by decide +kernel⟩⟩
theorem lf_MO_17 : Cond.fieldLink "DelayedExtentsModel" 17 "DelayedExtentsModel" "paged" "[Z" ∈ lw_good := List.mem_filter.mpr ⟨List.mem_of_getElem? (i := 505) (by decide +kernel), by decide +kernel⟩
theorem lf_MO_26 : Cond.fieldLink "DelayedExtentsModel" 26 "DelayedExtentsModel" "owners" "[I" ∈ lw_good := List.mem_filter.mpr ⟨List.mem_of_getElem? (i := 508) (by decide +kernel), by decide +kernel⟩
theorem lc_MO_63 : ww_site "DelayedExtentsModel" 63 yy_MO_room bb_MO_room 3 (some .int) 1 := ⟨List.mem_filter.mpr ⟨List.mem_of_getElem? (i := 608) (by decide +kernel), by decide +kernel⟩, List.mem_filter.mpr ⟨List.mem_of_getElem? (i := 605) (by decide +kernel), by decide +kernel⟩, List.mem_filter.mpr ⟨List.mem_of_getElem? (i := 30) (by decide +kernel), by decide +kernel⟩, by decide, by decide, by decide +kernel⟩
theorem lx_MO_room_I_I : ww_virt yy_MO_room := ⟨List.mem_filter.mpr ⟨List.mem_of_getElem? (i := 607) (by decide +kernel), by decide +kernel⟩, List.mem_filter.mpr ⟨List.mem_of_getElem? (i := 22) (by decide +kernel), by decide +kernel⟩⟩
set_option maxRecDepth 4000 in
theorem cc_MO_thrown (l : Launch) (D : va_G) (g : Nat → ClassId) (m : Nat) (a1 : Nat) (a2 : Nat) (a3 : Nat) (a4 : Nat) (a5 : Nat) (a6 : Nat) (a7 : Nat) (a8 : Nat) (cd : Int32) (fi : Int32) (le : Int32) (pl : Nat → Int32) (wr : Nat → Int32) (pg : Nat → Int32) (pv : Nat → Int32) (sz : Nat → Int32) (ow : Nat → Int32) (vl : Nat → Int32) (bf : Nat → Int32)  : ww_ct l D g yy_MO_thrown bb_MO_thrown 1 (some .int) (ww_rm 1) [.ref m] [(m, .inr (3, [.int cd, .ref a1, .ref a2, .ref a3, .ref a4, .ref a5, .ref a6, .ref a7, .ref a8, .int fi, .int le])), (a1, .inl (g 0, 240, .inl pl)), (a2, .inl (g 1, 240, .inl wr)), (a3, .inl (g 1, 240, .inl pg)), (a4, .inl (g 0, 240, .inl pv)), (a5, .inl (g 0, 4, .inl sz)), (a6, .inl (g 0, 80, .inl ow)), (a7, .inl (g 0, 80, .inl vl)), (a8, .inl (g 0, 60, .inl bf))] (some (.int cd)) [(m, .inr (3, [.int cd, .ref a1, .ref a2, .ref a3, .ref a4, .ref a5, .ref a6, .ref a7, .ref a8, .int fi, .int le])), (a1, .inl (g 0, 240, .inl pl)), (a2, .inl (g 1, 240, .inl wr)), (a3, .inl (g 1, 240, .inl pg)), (a4, .inl (g 0, 240, .inl pv)), (a5, .inl (g 0, 4, .inl sz)), (a6, .inl (g 0, 80, .inl ow)), (a7, .inl (g 0, 80, .inl vl)), (a8, .inl (g 0, 60, .inl bf))] := by
  refine ww_start (by decide +kernel) rfl rfl (Nat.le_of_ble_eq_true rfl) (L0 := [(0, .ref m)]) rfl ?_
  intro X O hl hD hg hR hn F
  subst hl hD hg
  refine ww_aload_n O dd_MO_thrown_0 0 rfl ?_
  refine ww_get O ci_MO rfl 0 (by decide) lf_MO_35 rfl dd_MO_thrown_1 0 rfl rfl ?_
  exact F.i dd_MO_thrown_4
set_option maxRecDepth 4000 in
theorem cc_MO_noFile (l : Launch) (D : va_G) (g : Nat → ClassId) (x : Int32)  : ww_ct l D g yy_MO_noFile bb_MO_noFile 1 (some .boolean) (ww_rm 1) [.int x] [] (some (.int (px_b (px_nf x 3)))) [] := by
  refine ww_start (by decide +kernel) rfl (px_b_nar _) (Nat.le_of_ble_eq_true rfl) (L0 := [(0, .int x)]) rfl ?_
  intro X O hl hD hg hR hn F
  subst hl hD hg
  refine ww_iload_n O dd_MO_noFile_0 0 rfl ?_
  refine ww_if_lt O dd_MO_noFile_1 (tgt := 9) rfl (fun h1 => ?_) (fun h1 => ?_)
  · refine ww_iconst O dd_MO_noFile_9 (v := nI 1) rfl ?_
    refine ww_goto O dd_MO_noFile_10 (tgt := 14) rfl ?_
    rw [show px_nf x 3 = true from px_nf_t (Or.inl h1), px_b_t] at F
    exact F.i dd_MO_noFile_14
  · refine ww_iload_n O dd_MO_noFile_4 0 rfl ?_
    refine ww_iconst O dd_MO_noFile_5 (v := nI 3) rfl ?_
    refine ww_icmp_le O dd_MO_noFile_6 (tgt := 13) rfl (fun h6 => ?_) (fun h6 => ?_)
    · refine ww_iconst O dd_MO_noFile_13 (v := nI 0) rfl ?_
      rw [show px_nf x 3 = false from px_nf_f h1 h6, px_b_f] at F
      exact F.i dd_MO_noFile_14
    · refine ww_iconst O dd_MO_noFile_9 (v := nI 1) rfl ?_
      refine ww_goto O dd_MO_noFile_10 (tgt := 14) rfl ?_
      rw [show px_nf x 3 = true from px_nf_t (Or.inr h6), px_b_t] at F
      exact F.i dd_MO_noFile_14
set_option maxRecDepth 4000 in
theorem cc_MO_noBlock (l : Launch) (D : va_G) (g : Nat → ClassId) (x : Int32)  : ww_ct l D g yy_MO_noBlock bb_MO_noBlock 1 (some .boolean) (ww_rm 1) [.int x] [] (some (.int (px_b (px_nf x 59)))) [] := by
  refine ww_start (by decide +kernel) rfl (px_b_nar _) (Nat.le_of_ble_eq_true rfl) (L0 := [(0, .int x)]) rfl ?_
  intro X O hl hD hg hR hn F
  subst hl hD hg
  refine ww_iload_n O dd_MO_noBlock_0 0 rfl ?_
  refine ww_if_lt O dd_MO_noBlock_1 (tgt := 10) rfl (fun h1 => ?_) (fun h1 => ?_)
  · refine ww_iconst O dd_MO_noBlock_10 (v := nI 1) rfl ?_
    refine ww_goto O dd_MO_noBlock_11 (tgt := 15) rfl ?_
    rw [show px_nf x 59 = true from px_nf_t (Or.inl h1), px_b_t] at F
    exact F.i dd_MO_noBlock_15
  · refine ww_iload_n O dd_MO_noBlock_4 0 rfl ?_
    refine ww_bipush O dd_MO_noBlock_5 (v := nI 59) rfl ?_
    refine ww_icmp_le O dd_MO_noBlock_7 (tgt := 14) rfl (fun h7 => ?_) (fun h7 => ?_)
    · refine ww_iconst O dd_MO_noBlock_14 (v := nI 0) rfl ?_
      rw [show px_nf x 59 = false from px_nf_f h1 h7, px_b_f] at F
      exact F.i dd_MO_noBlock_15
    · refine ww_iconst O dd_MO_noBlock_10 (v := nI 1) rfl ?_
      refine ww_goto O dd_MO_noBlock_11 (tgt := 15) rfl ?_
      rw [show px_nf x 59 = true from px_nf_t (Or.inr h7), px_b_t] at F
      exact F.i dd_MO_noBlock_15
set_option maxRecDepth 4000 in
theorem cc_MO_goesOn (l : Launch) (D : va_G) (g : Nat → ClassId) (m : Nat) (a1 : Nat) (a2 : Nat) (a3 : Nat) (a4 : Nat) (a5 : Nat) (a6 : Nat) (a7 : Nat) (a8 : Nat) (cd : Int32) (fi : Int32) (le : Int32) (pl : Nat → Int32) (wr : Nat → Int32) (pg : Nat → Int32) (pv : Nat → Int32) (sz : Nat → Int32) (ow : Nat → Int32) (vl : Nat → Int32) (bf : Nat → Int32) (b : Nat) (hr : ∀ b, b < 240 → px_rg (pl b)) (hb : b < 240) : ww_ct l D g yy_MO_goesOn bb_MO_goesOn 2 (some .boolean) (ww_rm 1) [.ref m, .int (nI b)] [(m, .inr (3, [.int cd, .ref a1, .ref a2, .ref a3, .ref a4, .ref a5, .ref a6, .ref a7, .ref a8, .int fi, .int le])), (a1, .inl (g 0, 240, .inl pl)), (a2, .inl (g 1, 240, .inl wr)), (a3, .inl (g 1, 240, .inl pg)), (a4, .inl (g 0, 240, .inl pv)), (a5, .inl (g 0, 4, .inl sz)), (a6, .inl (g 0, 80, .inl ow)), (a7, .inl (g 0, 80, .inl vl)), (a8, .inl (g 0, 60, .inl bf))] (some (.int (px_b (px_gon pl wr b)))) [(m, .inr (3, [.int cd, .ref a1, .ref a2, .ref a3, .ref a4, .ref a5, .ref a6, .ref a7, .ref a8, .int fi, .int le])), (a1, .inl (g 0, 240, .inl pl)), (a2, .inl (g 1, 240, .inl wr)), (a3, .inl (g 1, 240, .inl pg)), (a4, .inl (g 0, 240, .inl pv)), (a5, .inl (g 0, 4, .inl sz)), (a6, .inl (g 0, 80, .inl ow)), (a7, .inl (g 0, 80, .inl vl)), (a8, .inl (g 0, 60, .inl bf))] := by
  refine ww_start (by decide +kernel) rfl (px_b_nar _) (Nat.le_of_ble_eq_true rfl) (L0 := [(0, .ref m), (1, .int (nI b))]) rfl ?_
  intro X O hl hD hg hR hn F
  subst hl hD hg
  refine ww_iload_n O dd_MO_goesOn_0 1 rfl ?_
  refine ww_bipush O dd_MO_goesOn_1 (v := nI 60) rfl ?_
  refine ww_irem O dd_MO_goesOn_3 (by decide) (v := nI (b % 60)) (pk_rem (by omega) (by decide) (by decide)) ?_
  refine ww_if_leN O dd_MO_goesOn_4 (tgt := 67) rfl (by omega) (fun h4 => ?_) (fun h4 => ?_)
  · refine ww_iconst O dd_MO_goesOn_67 (v := nI 0) rfl ?_
    rw [show px_gon pl wr b = false from by unfold px_gon; simp; omega, px_b_f] at F
    exact F.i dd_MO_goesOn_68
  · refine ww_aload_n O dd_MO_goesOn_7 0 rfl ?_
    refine ww_get O ci_MO rfl 1 (by decide) lf_MO_7 rfl dd_MO_goesOn_8 0 rfl rfl ?_
    refine ww_iload_n O dd_MO_goesOn_11 1 rfl ?_
    refine ww_iald O dd_MO_goesOn_12 1 rfl (by omega) (by decide) rfl ?_
    refine ww_if_lt O dd_MO_goesOn_13 (tgt := 67) rfl (fun h13 => ?_) (fun h13 => ?_)
    · refine ww_iconst O dd_MO_goesOn_67 (v := nI 0) rfl ?_
      rw [show px_gon pl wr b = false from by unfold px_gon; simp [(hr b (by omega)).lt h13], px_b_f] at F
      exact F.i dd_MO_goesOn_68
    · refine ww_aload_n O dd_MO_goesOn_16 0 rfl ?_
      refine ww_get O ci_MO rfl 1 (by decide) lf_MO_7 rfl dd_MO_goesOn_17 0 rfl rfl ?_
      refine ww_iload_n O dd_MO_goesOn_20 1 rfl ?_
      refine ww_iconst O dd_MO_goesOn_21 (v := nI 1) rfl ?_
      refine ww_isub O dd_MO_goesOn_22 (v := nI (b - 1)) (pk_sub (by omega)) ?_
      refine ww_iald O dd_MO_goesOn_23 1 rfl (by omega) (by decide) rfl ?_
      refine ww_if_lt O dd_MO_goesOn_24 (tgt := 67) rfl (fun h24 => ?_) (fun h24 => ?_)
      · refine ww_iconst O dd_MO_goesOn_67 (v := nI 0) rfl ?_
        rw [show px_gon pl wr b = false from by unfold px_gon; simp [(hr (b - 1) (by omega)).lt h24], px_b_f] at F
        exact F.i dd_MO_goesOn_68
      · refine ww_aload_n O dd_MO_goesOn_27 0 rfl ?_
        refine ww_get O ci_MO rfl 1 (by decide) lf_MO_7 rfl dd_MO_goesOn_28 0 rfl rfl ?_
        refine ww_iload_n O dd_MO_goesOn_31 1 rfl ?_
        refine ww_iald O dd_MO_goesOn_32 1 rfl (by omega) (by decide) rfl ?_
        refine ww_aload_n O dd_MO_goesOn_33 0 rfl ?_
        refine ww_get O ci_MO rfl 1 (by decide) lf_MO_7 rfl dd_MO_goesOn_34 0 rfl rfl ?_
        refine ww_iload_n O dd_MO_goesOn_37 1 rfl ?_
        refine ww_iconst O dd_MO_goesOn_38 (v := nI 1) rfl ?_
        refine ww_isub O dd_MO_goesOn_39 (v := nI (b - 1)) (pk_sub (by omega)) ?_
        refine ww_iald O dd_MO_goesOn_40 1 rfl (by omega) (by decide) rfl ?_
        refine ww_iconst O dd_MO_goesOn_41 (v := nI 1) rfl ?_
        refine ww_iadd O dd_MO_goesOn_42 (v := (pl (b - 1)) + (nI 1)) rfl ?_
        refine ww_icmp_ne O dd_MO_goesOn_43 (tgt := 67) rfl (fun h43 => ?_) (fun h43 => ?_)
        · refine ww_iconst O dd_MO_goesOn_67 (v := nI 0) rfl ?_
          rw [show px_gon pl wr b = false from by unfold px_gon; simp [px_go_f1 (wr := wr) h43], px_b_f] at F
          exact F.i dd_MO_goesOn_68
        · refine ww_aload_n O dd_MO_goesOn_46 0 rfl ?_
          refine ww_get O ci_MO rfl 2 (by decide) lf_MO_13 rfl dd_MO_goesOn_47 0 rfl rfl ?_
          refine ww_iload_n O dd_MO_goesOn_50 1 rfl ?_
          refine ww_zald O dd_MO_goesOn_51 2 rfl (by omega) (by decide) rfl ?_
          refine ww_aload_n O dd_MO_goesOn_52 0 rfl ?_
          refine ww_get O ci_MO rfl 2 (by decide) lf_MO_13 rfl dd_MO_goesOn_53 0 rfl rfl ?_
          refine ww_iload_n O dd_MO_goesOn_56 1 rfl ?_
          refine ww_iconst O dd_MO_goesOn_57 (v := nI 1) rfl ?_
          refine ww_isub O dd_MO_goesOn_58 (v := nI (b - 1)) (pk_sub (by omega)) ?_
          refine ww_zald O dd_MO_goesOn_59 2 rfl (by omega) (by decide) rfl ?_
          refine ww_icmp_ne O dd_MO_goesOn_60 (tgt := 67) rfl (fun h60 => ?_) (fun h60 => ?_)
          · refine ww_iconst O dd_MO_goesOn_67 (v := nI 0) rfl ?_
            rw [show px_gon pl wr b = false from by unfold px_gon; simp [px_go_f2 (pl := pl) h60], px_b_f] at F
            exact F.i dd_MO_goesOn_68
          · refine ww_iconst O dd_MO_goesOn_63 (v := nI 1) rfl ?_
            refine ww_goto O dd_MO_goesOn_64 (tgt := 68) rfl ?_
            rw [show px_gon pl wr b = true from by unfold px_gon; simp [h4, (hr b (by omega)).ge h13, (hr (b - 1) (by omega)).ge h24, px_go_iff.mpr ⟨h43, h60⟩], px_b_t] at F
            exact F.i dd_MO_goesOn_68
set_option maxRecDepth 4000 in
theorem cc_MO_tree (l : Launch) (D : va_G) (g : Nat → ClassId) (e : Nat) (he : e < 1000) : ww_ct l D g yy_MO_tree bb_MO_tree 1 (some .int) (ww_rm 1) [.int (nI e)] [] (some (.int (nI (px_tree e)))) [] := by
  refine ww_start (by decide +kernel) rfl rfl (Nat.le_of_ble_eq_true rfl) (L0 := [(0, .int (nI e))]) rfl ?_
  intro X O hl hD hg hR hn F
  subst hl hD hg
  refine ww_iload_n O dd_MO_tree_0 0 rfl ?_
  refine ww_iconst O dd_MO_tree_1 (v := nI 3) rfl ?_
  refine ww_icmp_gtN O dd_MO_tree_2 (tgt := 9) rfl (by omega) (by omega) (fun h2 => ?_) (fun h2 => ?_)
  · refine ww_iload_n O dd_MO_tree_9 0 rfl ?_
    refine ww_iconst O dd_MO_tree_10 (v := nI 3) rfl ?_
    refine ww_iadd O dd_MO_tree_11 (v := nI (e + 3)) (nI_add _ _) ?_
    refine ww_iconst O dd_MO_tree_12 (v := nI 4) rfl ?_
    refine ww_idiv O dd_MO_tree_13 (by decide) (v := nI ((e + 3) / 4)) (pk_div (by omega) (by decide) (by decide)) ?_
    rw [show px_tree e = ((e + 3) / 4) from by unfold px_tree; rw [if_neg (by omega)]] at F
    exact F.i dd_MO_tree_14
  · refine ww_iconst O dd_MO_tree_5 (v := nI 0) rfl ?_
    refine ww_goto O dd_MO_tree_6 (tgt := 14) rfl ?_
    rw [show px_tree e = 0 from by unfold px_tree; rw [if_pos (by omega)]] at F
    exact F.i dd_MO_tree_14
set_option maxRecDepth 4000 in
theorem cc_MO_extents (l : Launch) (D : va_G) (g : Nat → ClassId) (m : Nat) (a1 : Nat) (a2 : Nat) (a3 : Nat) (a4 : Nat) (a5 : Nat) (a6 : Nat) (a7 : Nat) (a8 : Nat) (cd : Int32) (fi : Int32) (le : Int32) (pl : Nat → Int32) (wr : Nat → Int32) (pg : Nat → Int32) (pv : Nat → Int32) (sz : Nat → Int32) (ow : Nat → Int32) (vl : Nat → Int32) (bf : Nat → Int32) (f : Nat) (s : Nat) (hr : ∀ b, b < 240 → px_rg (pl b)) (hf : f < 4) (hs : s < 100) : ww_ct l D g yy_MO_extents bb_MO_extents 6 (some .int) (ww_rm 2) [.ref m, .int (nI f), .int (nI s)] [(m, .inr (3, [.int cd, .ref a1, .ref a2, .ref a3, .ref a4, .ref a5, .ref a6, .ref a7, .ref a8, .int fi, .int le])), (a1, .inl (g 0, 240, .inl pl)), (a2, .inl (g 1, 240, .inl wr)), (a3, .inl (g 1, 240, .inl pg)), (a4, .inl (g 0, 240, .inl pv)), (a5, .inl (g 0, 4, .inl sz)), (a6, .inl (g 0, 80, .inl ow)), (a7, .inl (g 0, 80, .inl vl)), (a8, .inl (g 0, 60, .inl bf))] (some (.int (nI (px_rx pl wr s 60 (60 * f) 0 0 fi).1))) [(m, .inr (3, [.int cd, .ref a1, .ref a2, .ref a3, .ref a4, .ref a5, .ref a6, .ref a7, .ref a8, .int ((px_rx pl wr s 60 (60 * f) 0 0 fi).2.2), .int (nI (px_rx pl wr s 60 (60 * f) 0 0 fi).2.1)])), (a1, .inl (g 0, 240, .inl pl)), (a2, .inl (g 1, 240, .inl wr)), (a3, .inl (g 1, 240, .inl pg)), (a4, .inl (g 0, 240, .inl pv)), (a5, .inl (g 0, 4, .inl sz)), (a6, .inl (g 0, 80, .inl ow)), (a7, .inl (g 0, 80, .inl vl)), (a8, .inl (g 0, 60, .inl bf))] := by
  refine ww_start (by decide +kernel) rfl rfl (Nat.le_of_ble_eq_true rfl) (L0 := [(0, .ref m), (1, .int (nI f)), (2, .int (nI s))]) rfl ?_
  intro X O hl hD hg hR hn F
  subst hl hD hg
  generalize hT : px_rx pl wr s 60 (60 * f) 0 0 fi = T at F
  have loop : ∀ (k b n z : Nat) (fi2 : Int32), 60 * f + 60 ≤ b + k → 60 * f ≤ b → b ≤ 60 * f + 60 → n ≤ b - 60 * f → z ≤ 8 → px_rx pl wr s (60 * f + 60 - b) b n z fi2 = T → ww_at X 0 0 13 [(0, .ref m), (1, .int (nI f)), (2, .int (nI s)), (3, .int (nI n)), (4, .int (nI b))] [] [(m, .inr (3, [.int cd, .ref a1, .ref a2, .ref a3, .ref a4, .ref a5, .ref a6, .ref a7, .ref a8, .int fi2, .int (nI z)])), (a1, .inl (ww_g X 0, 240, .inl pl)), (a2, .inl (ww_g X 1, 240, .inl wr)), (a3, .inl (ww_g X 1, 240, .inl pg)), (a4, .inl (ww_g X 0, 240, .inl pv)), (a5, .inl (ww_g X 0, 4, .inl sz)), (a6, .inl (ww_g X 0, 80, .inl ow)), (a7, .inl (ww_g X 0, 80, .inl vl)), (a8, .inl (ww_g X 0, 60, .inl bf))] := by
    intro k
    induction k with
    | zero =>
      intro b n z fi2 h1 h2 h3 h5 h6 h4
      refine ww_iload O dd_MO_extents_13 4 rfl ?_
      refine ww_bipush O dd_MO_extents_15 (v := nI 60) rfl ?_
      refine ww_iload_n O dd_MO_extents_17 1 rfl ?_
      refine ww_imul O dd_MO_extents_18 (v := nI (60 * f)) (pk_mul _ _) ?_
      refine ww_bipush O dd_MO_extents_19 (v := nI 60) rfl ?_
      refine ww_iadd O dd_MO_extents_21 (v := nI ((60 * f) + 60)) (nI_add _ _) ?_
      refine ww_icmp_geN O dd_MO_extents_22 (tgt := 130) rfl (by omega) (by omega) (fun h22 => ?_) (fun h22 => ?_)
      · refine ww_iload_n O dd_MO_extents_130 3 rfl ?_
        rw [show 60 * f + 60 - b = 0 by omega] at h4
        subst h4
        exact F.i dd_MO_extents_131
      · exfalso; omega
    | succ k ih =>
      intro b n z fi2 h1 h2 h3 h5 h6 h4
      refine ww_iload O dd_MO_extents_13 4 rfl ?_
      refine ww_bipush O dd_MO_extents_15 (v := nI 60) rfl ?_
      refine ww_iload_n O dd_MO_extents_17 1 rfl ?_
      refine ww_imul O dd_MO_extents_18 (v := nI (60 * f)) (pk_mul _ _) ?_
      refine ww_bipush O dd_MO_extents_19 (v := nI 60) rfl ?_
      refine ww_iadd O dd_MO_extents_21 (v := nI ((60 * f) + 60)) (nI_add _ _) ?_
      refine ww_icmp_geN O dd_MO_extents_22 (tgt := 130) rfl (by omega) (by omega) (fun h22 => ?_) (fun h22 => ?_)
      · refine ww_iload_n O dd_MO_extents_130 3 rfl ?_
        rw [show 60 * f + 60 - b = 0 by omega] at h4
        subst h4
        exact F.i dd_MO_extents_131
      · refine ww_aload_n O dd_MO_extents_25 0 rfl ?_
        refine ww_get O ci_MO rfl 1 (by decide) lf_MO_7 rfl dd_MO_extents_26 0 rfl rfl ?_
        refine ww_iload O dd_MO_extents_29 4 rfl ?_
        refine ww_iald O dd_MO_extents_31 1 rfl (by omega) (by decide) rfl ?_
        refine ww_if_lt O dd_MO_extents_32 (tgt := 108) rfl (fun h32 => ?_) (fun h32 => ?_)
        · have hh := (hr b (by omega)).lt h32
          rw [px_rx_s (by omega), if_pos hh] at h4
          refine ww_aload_n O dd_MO_extents_108 0 rfl ?_
          refine ww_get O ci_MO rfl 10 (by decide) lf_MO_39 rfl dd_MO_extents_109 0 rfl rfl ?_
          refine ww_if_leN O dd_MO_extents_112 (tgt := 124) rfl (by omega) (fun h112 => ?_) (fun h112 => ?_)
          · refine ww_iinc O dd_MO_extents_124 4 rfl (v := nI (b + 1)) (nI_add _ 1) (by rw [hn]; decide) rfl (L' := [(0, .ref m), (1, .int (nI f)), (2, .int (nI s)), (3, .int (nI n)), (4, .int (nI (b + 1)))]) rfl ?_
            refine ww_goto O dd_MO_extents_127 (tgt := 13) rfl ?_
            rw [if_neg (by omega)] at h4
            exact ih (b + 1) n z fi2 (by omega) (by omega) (by omega) (by omega) (by omega) h4
          · refine ww_iload_n O dd_MO_extents_115 3 rfl ?_
            refine ww_iload_n O dd_MO_extents_116 2 rfl ?_
            refine ww_iconst O dd_MO_extents_117 (v := nI 1) rfl ?_
            refine ww_iadd O dd_MO_extents_118 (v := nI (s + 1)) (nI_add _ _) ?_
            refine ww_icmp_neN O dd_MO_extents_119 (tgt := 124) rfl (by omega) (by omega) (fun h119 => ?_) (fun h119 => ?_)
            · refine ww_iinc O dd_MO_extents_124 4 rfl (v := nI (b + 1)) (nI_add _ 1) (by rw [hn]; decide) rfl (L' := [(0, .ref m), (1, .int (nI f)), (2, .int (nI s)), (3, .int (nI n)), (4, .int (nI (b + 1)))]) rfl ?_
              refine ww_goto O dd_MO_extents_127 (tgt := 13) rfl ?_
              rw [if_neg (by omega)] at h4
              exact ih (b + 1) n z fi2 (by omega) (by omega) (by omega) (by omega) (by omega) h4
            · refine ww_iload_n O dd_MO_extents_122 3 rfl ?_
              rw [if_pos ⟨h112, by omega⟩] at h4
              subst h4
              exact F.i dd_MO_extents_123
        · have hh := (hr b (by omega)).ge h32
          rw [px_rx_s (by omega), if_neg (by rw [hh]; decide)] at h4
          refine ww_aload_n O dd_MO_extents_35 0 rfl ?_
          refine ww_get O ci_MO rfl 10 (by decide) lf_MO_39 rfl dd_MO_extents_36 0 rfl rfl ?_
          refine ww_if_leN O dd_MO_extents_39 (tgt := 64) rfl (by omega) (fun h39 => ?_) (fun h39 => ?_)
          · refine ww_iconst O dd_MO_extents_64 (v := nI 0) rfl ?_
            rw [if_neg (by omega)] at h4
            refine ww_istore O dd_MO_extents_65 (by rw [hn]; decide) rfl (L' := [(0, .ref m), (1, .int (nI f)), (2, .int (nI s)), (3, .int (nI n)), (4, .int (nI b)), (5, .int (nI 0))]) rfl ?_
            refine ww_iload O dd_MO_extents_67 5 rfl ?_
            refine ww_if_neN O dd_MO_extents_69 (tgt := 95) rfl (by omega) (fun h69 => ?_) (fun h69 => ?_)
            · exact absurd rfl h69
            · refine ww_iload_n O dd_MO_extents_72 3 rfl ?_
              refine ww_iload_n O dd_MO_extents_73 2 rfl ?_
              refine ww_iconst O dd_MO_extents_74 (v := nI 1) rfl ?_
              refine ww_iadd O dd_MO_extents_75 (v := nI (s + 1)) (nI_add _ _) ?_
              refine ww_icmp_neN O dd_MO_extents_76 (tgt := 81) rfl (by omega) (by omega) (fun h76 => ?_) (fun h76 => ?_)
              · refine ww_iinc O dd_MO_extents_81 3 rfl (v := nI (n + 1)) (nI_add _ 1) (by rw [hn]; decide) rfl (L' := [(0, .ref m), (1, .int (nI f)), (2, .int (nI s)), (3, .int (nI (n + 1))), (4, .int (nI b)), (5, .int (nI 0))]) rfl ?_
                refine ww_aload_n O dd_MO_extents_84 0 rfl ?_
                refine ww_iload O dd_MO_extents_85 4 rfl ?_
                refine ww_put O ci_MO cy_MO cy_MO_ok cn_MO rfl 9 (by decide) lf_MO_46 rfl rfl (ty := .int) (by decide +kernel) dd_MO_extents_87 0 rfl rfl rfl (Nat.le_of_ble_eq_true rfl) (ws' := [(m, .inr (3, [.int cd, .ref a1, .ref a2, .ref a3, .ref a4, .ref a5, .ref a6, .ref a7, .ref a8, .int (nI b), .int (nI z)])), (a1, .inl (ww_g X 0, 240, .inl pl)), (a2, .inl (ww_g X 1, 240, .inl wr)), (a3, .inl (ww_g X 1, 240, .inl pg)), (a4, .inl (ww_g X 0, 240, .inl pv)), (a5, .inl (ww_g X 0, 4, .inl sz)), (a6, .inl (ww_g X 0, 80, .inl ow)), (a7, .inl (ww_g X 0, 80, .inl vl)), (a8, .inl (ww_g X 0, 60, .inl bf))]) rfl ?_
                refine ww_aload_n O dd_MO_extents_90 0 rfl ?_
                refine ww_iconst O dd_MO_extents_91 (v := nI 0) rfl ?_
                refine ww_put O ci_MO cy_MO cy_MO_ok cn_MO rfl 10 (by decide) lf_MO_39 rfl rfl (ty := .int) (by decide +kernel) dd_MO_extents_92 0 rfl rfl rfl (Nat.le_of_ble_eq_true rfl) (ws' := [(m, .inr (3, [.int cd, .ref a1, .ref a2, .ref a3, .ref a4, .ref a5, .ref a6, .ref a7, .ref a8, .int (nI b), .int (nI 0)])), (a1, .inl (ww_g X 0, 240, .inl pl)), (a2, .inl (ww_g X 1, 240, .inl wr)), (a3, .inl (ww_g X 1, 240, .inl pg)), (a4, .inl (ww_g X 0, 240, .inl pv)), (a5, .inl (ww_g X 0, 4, .inl sz)), (a6, .inl (ww_g X 0, 80, .inl ow)), (a7, .inl (ww_g X 0, 80, .inl vl)), (a8, .inl (ww_g X 0, 60, .inl bf))]) rfl ?_
                refine ww_aload_n O dd_MO_extents_95 0 rfl ?_
                refine ww_dup O dd_MO_extents_96 rfl ?_
                refine ww_get O ci_MO rfl 10 (by decide) lf_MO_39 rfl dd_MO_extents_97 0 rfl rfl ?_
                refine ww_iconst O dd_MO_extents_100 (v := nI 1) rfl ?_
                refine ww_iadd O dd_MO_extents_101 (v := nI (0 + 1)) (nI_add _ _) ?_
                refine ww_put O ci_MO cy_MO cy_MO_ok cn_MO rfl 10 (by decide) lf_MO_39 rfl rfl (ty := .int) (by decide +kernel) dd_MO_extents_102 0 rfl rfl rfl (Nat.le_of_ble_eq_true rfl) (ws' := [(m, .inr (3, [.int cd, .ref a1, .ref a2, .ref a3, .ref a4, .ref a5, .ref a6, .ref a7, .ref a8, .int (nI b), .int (nI (0 + 1))])), (a1, .inl (ww_g X 0, 240, .inl pl)), (a2, .inl (ww_g X 1, 240, .inl wr)), (a3, .inl (ww_g X 1, 240, .inl pg)), (a4, .inl (ww_g X 0, 240, .inl pv)), (a5, .inl (ww_g X 0, 4, .inl sz)), (a6, .inl (ww_g X 0, 80, .inl ow)), (a7, .inl (ww_g X 0, 80, .inl vl)), (a8, .inl (ww_g X 0, 60, .inl bf))]) rfl ?_
                refine ww_goto O dd_MO_extents_105 (tgt := 124) rfl ?_
                refine ww_iinc O dd_MO_extents_124 4 rfl (v := nI (b + 1)) (nI_add _ 1) (by rw [hn]; decide) rfl (L' := [(0, .ref m), (1, .int (nI f)), (2, .int (nI s)), (3, .int (nI (n + 1))), (4, .int (nI (b + 1))), (5, .int (nI 0))]) rfl ?_
                refine ww_goto O dd_MO_extents_127 (tgt := 13) rfl ?_
                rw [if_neg (by omega)] at h4
                refine ww_sub [0, 1, 2, 3, 4] rfl ?_
                exact ih (b + 1) (n + 1) 1 (nI b) (by omega) (by omega) (by omega) (by omega) (by omega) h4
              · refine ww_iload_n O dd_MO_extents_79 3 rfl ?_
                rw [if_pos (by omega)] at h4
                subst h4
                exact F.i dd_MO_extents_80
          · refine ww_aload_n O dd_MO_extents_42 0 rfl ?_
            refine ww_get O ci_MO rfl 10 (by decide) lf_MO_39 rfl dd_MO_extents_43 0 rfl rfl ?_
            refine ww_bipush O dd_MO_extents_46 (v := nI 8) rfl ?_
            refine ww_icmp_geN O dd_MO_extents_48 (tgt := 64) rfl (by omega) (by omega) (fun h48 => ?_) (fun h48 => ?_)
            · refine ww_iconst O dd_MO_extents_64 (v := nI 0) rfl ?_
              rw [if_neg (by omega)] at h4
              refine ww_istore O dd_MO_extents_65 (by rw [hn]; decide) rfl (L' := [(0, .ref m), (1, .int (nI f)), (2, .int (nI s)), (3, .int (nI n)), (4, .int (nI b)), (5, .int (nI 0))]) rfl ?_
              refine ww_iload O dd_MO_extents_67 5 rfl ?_
              refine ww_if_neN O dd_MO_extents_69 (tgt := 95) rfl (by omega) (fun h69 => ?_) (fun h69 => ?_)
              · exact absurd rfl h69
              · refine ww_iload_n O dd_MO_extents_72 3 rfl ?_
                refine ww_iload_n O dd_MO_extents_73 2 rfl ?_
                refine ww_iconst O dd_MO_extents_74 (v := nI 1) rfl ?_
                refine ww_iadd O dd_MO_extents_75 (v := nI (s + 1)) (nI_add _ _) ?_
                refine ww_icmp_neN O dd_MO_extents_76 (tgt := 81) rfl (by omega) (by omega) (fun h76 => ?_) (fun h76 => ?_)
                · refine ww_iinc O dd_MO_extents_81 3 rfl (v := nI (n + 1)) (nI_add _ 1) (by rw [hn]; decide) rfl (L' := [(0, .ref m), (1, .int (nI f)), (2, .int (nI s)), (3, .int (nI (n + 1))), (4, .int (nI b)), (5, .int (nI 0))]) rfl ?_
                  refine ww_aload_n O dd_MO_extents_84 0 rfl ?_
                  refine ww_iload O dd_MO_extents_85 4 rfl ?_
                  refine ww_put O ci_MO cy_MO cy_MO_ok cn_MO rfl 9 (by decide) lf_MO_46 rfl rfl (ty := .int) (by decide +kernel) dd_MO_extents_87 0 rfl rfl rfl (Nat.le_of_ble_eq_true rfl) (ws' := [(m, .inr (3, [.int cd, .ref a1, .ref a2, .ref a3, .ref a4, .ref a5, .ref a6, .ref a7, .ref a8, .int (nI b), .int (nI z)])), (a1, .inl (ww_g X 0, 240, .inl pl)), (a2, .inl (ww_g X 1, 240, .inl wr)), (a3, .inl (ww_g X 1, 240, .inl pg)), (a4, .inl (ww_g X 0, 240, .inl pv)), (a5, .inl (ww_g X 0, 4, .inl sz)), (a6, .inl (ww_g X 0, 80, .inl ow)), (a7, .inl (ww_g X 0, 80, .inl vl)), (a8, .inl (ww_g X 0, 60, .inl bf))]) rfl ?_
                  refine ww_aload_n O dd_MO_extents_90 0 rfl ?_
                  refine ww_iconst O dd_MO_extents_91 (v := nI 0) rfl ?_
                  refine ww_put O ci_MO cy_MO cy_MO_ok cn_MO rfl 10 (by decide) lf_MO_39 rfl rfl (ty := .int) (by decide +kernel) dd_MO_extents_92 0 rfl rfl rfl (Nat.le_of_ble_eq_true rfl) (ws' := [(m, .inr (3, [.int cd, .ref a1, .ref a2, .ref a3, .ref a4, .ref a5, .ref a6, .ref a7, .ref a8, .int (nI b), .int (nI 0)])), (a1, .inl (ww_g X 0, 240, .inl pl)), (a2, .inl (ww_g X 1, 240, .inl wr)), (a3, .inl (ww_g X 1, 240, .inl pg)), (a4, .inl (ww_g X 0, 240, .inl pv)), (a5, .inl (ww_g X 0, 4, .inl sz)), (a6, .inl (ww_g X 0, 80, .inl ow)), (a7, .inl (ww_g X 0, 80, .inl vl)), (a8, .inl (ww_g X 0, 60, .inl bf))]) rfl ?_
                  refine ww_aload_n O dd_MO_extents_95 0 rfl ?_
                  refine ww_dup O dd_MO_extents_96 rfl ?_
                  refine ww_get O ci_MO rfl 10 (by decide) lf_MO_39 rfl dd_MO_extents_97 0 rfl rfl ?_
                  refine ww_iconst O dd_MO_extents_100 (v := nI 1) rfl ?_
                  refine ww_iadd O dd_MO_extents_101 (v := nI (0 + 1)) (nI_add _ _) ?_
                  refine ww_put O ci_MO cy_MO cy_MO_ok cn_MO rfl 10 (by decide) lf_MO_39 rfl rfl (ty := .int) (by decide +kernel) dd_MO_extents_102 0 rfl rfl rfl (Nat.le_of_ble_eq_true rfl) (ws' := [(m, .inr (3, [.int cd, .ref a1, .ref a2, .ref a3, .ref a4, .ref a5, .ref a6, .ref a7, .ref a8, .int (nI b), .int (nI (0 + 1))])), (a1, .inl (ww_g X 0, 240, .inl pl)), (a2, .inl (ww_g X 1, 240, .inl wr)), (a3, .inl (ww_g X 1, 240, .inl pg)), (a4, .inl (ww_g X 0, 240, .inl pv)), (a5, .inl (ww_g X 0, 4, .inl sz)), (a6, .inl (ww_g X 0, 80, .inl ow)), (a7, .inl (ww_g X 0, 80, .inl vl)), (a8, .inl (ww_g X 0, 60, .inl bf))]) rfl ?_
                  refine ww_goto O dd_MO_extents_105 (tgt := 124) rfl ?_
                  refine ww_iinc O dd_MO_extents_124 4 rfl (v := nI (b + 1)) (nI_add _ 1) (by rw [hn]; decide) rfl (L' := [(0, .ref m), (1, .int (nI f)), (2, .int (nI s)), (3, .int (nI (n + 1))), (4, .int (nI (b + 1))), (5, .int (nI 0))]) rfl ?_
                  refine ww_goto O dd_MO_extents_127 (tgt := 13) rfl ?_
                  rw [if_neg (by omega)] at h4
                  refine ww_sub [0, 1, 2, 3, 4] rfl ?_
                  exact ih (b + 1) (n + 1) 1 (nI b) (by omega) (by omega) (by omega) (by omega) (by omega) h4
                · refine ww_iload_n O dd_MO_extents_79 3 rfl ?_
                  rw [if_pos (by omega)] at h4
                  subst h4
                  exact F.i dd_MO_extents_80
            · refine ww_aload_n O dd_MO_extents_51 0 rfl ?_
              refine ww_iload O dd_MO_extents_52 4 rfl ?_
              refine ww_callV (q0 := 0) (ci := 3) O (cc_MO_goesOn _ _ _ m a1 a2 a3 a4 a5 a6 a7 a8 cd fi2 (nI z) pl wr pg pv sz ow vl bf b (by omega) (by omega)) lc_MO_42 lx_MO_goesOn_I_Z rfl rfl rfl (by rw [hR]; decide) (by rw [hR]; decide) (by rw [hR]; decide) rfl (Nat.le_of_ble_eq_true rfl) dd_MO_extents_54 rfl [0, 1, 2, 3, 4, 5, 6, 7, 8] [] [0, 1, 2, 3, 4, 5, 6, 7, 8] rfl (by decide) rfl (by decide) (by decide) (ws' := [(m, .inr (3, [.int cd, .ref a1, .ref a2, .ref a3, .ref a4, .ref a5, .ref a6, .ref a7, .ref a8, .int fi2, .int (nI z)])), (a1, .inl (ww_g X 0, 240, .inl pl)), (a2, .inl (ww_g X 1, 240, .inl wr)), (a3, .inl (ww_g X 1, 240, .inl pg)), (a4, .inl (ww_g X 0, 240, .inl pv)), (a5, .inl (ww_g X 0, 4, .inl sz)), (a6, .inl (ww_g X 0, 80, .inl ow)), (a7, .inl (ww_g X 0, 80, .inl vl)), (a8, .inl (ww_g X 0, 60, .inl bf))]) rfl rfl (by decide) ?_
              refine ww_if_eqB O dd_MO_extents_57 (tgt := 64) rfl (fun h57 => ?_) (fun h57 => ?_)
              · refine ww_iconst O dd_MO_extents_64 (v := nI 0) rfl ?_
                rw [if_neg (fun q => by rw [h57] at q; exact absurd q.2.2 (by decide))] at h4
                refine ww_istore O dd_MO_extents_65 (by rw [hn]; decide) rfl (L' := [(0, .ref m), (1, .int (nI f)), (2, .int (nI s)), (3, .int (nI n)), (4, .int (nI b)), (5, .int (nI 0))]) rfl ?_
                refine ww_iload O dd_MO_extents_67 5 rfl ?_
                refine ww_if_neN O dd_MO_extents_69 (tgt := 95) rfl (by omega) (fun h69 => ?_) (fun h69 => ?_)
                · exact absurd rfl h69
                · refine ww_iload_n O dd_MO_extents_72 3 rfl ?_
                  refine ww_iload_n O dd_MO_extents_73 2 rfl ?_
                  refine ww_iconst O dd_MO_extents_74 (v := nI 1) rfl ?_
                  refine ww_iadd O dd_MO_extents_75 (v := nI (s + 1)) (nI_add _ _) ?_
                  refine ww_icmp_neN O dd_MO_extents_76 (tgt := 81) rfl (by omega) (by omega) (fun h76 => ?_) (fun h76 => ?_)
                  · refine ww_iinc O dd_MO_extents_81 3 rfl (v := nI (n + 1)) (nI_add _ 1) (by rw [hn]; decide) rfl (L' := [(0, .ref m), (1, .int (nI f)), (2, .int (nI s)), (3, .int (nI (n + 1))), (4, .int (nI b)), (5, .int (nI 0))]) rfl ?_
                    refine ww_aload_n O dd_MO_extents_84 0 rfl ?_
                    refine ww_iload O dd_MO_extents_85 4 rfl ?_
                    refine ww_put O ci_MO cy_MO cy_MO_ok cn_MO rfl 9 (by decide) lf_MO_46 rfl rfl (ty := .int) (by decide +kernel) dd_MO_extents_87 0 rfl rfl rfl (Nat.le_of_ble_eq_true rfl) (ws' := [(m, .inr (3, [.int cd, .ref a1, .ref a2, .ref a3, .ref a4, .ref a5, .ref a6, .ref a7, .ref a8, .int (nI b), .int (nI z)])), (a1, .inl (ww_g X 0, 240, .inl pl)), (a2, .inl (ww_g X 1, 240, .inl wr)), (a3, .inl (ww_g X 1, 240, .inl pg)), (a4, .inl (ww_g X 0, 240, .inl pv)), (a5, .inl (ww_g X 0, 4, .inl sz)), (a6, .inl (ww_g X 0, 80, .inl ow)), (a7, .inl (ww_g X 0, 80, .inl vl)), (a8, .inl (ww_g X 0, 60, .inl bf))]) rfl ?_
                    refine ww_aload_n O dd_MO_extents_90 0 rfl ?_
                    refine ww_iconst O dd_MO_extents_91 (v := nI 0) rfl ?_
                    refine ww_put O ci_MO cy_MO cy_MO_ok cn_MO rfl 10 (by decide) lf_MO_39 rfl rfl (ty := .int) (by decide +kernel) dd_MO_extents_92 0 rfl rfl rfl (Nat.le_of_ble_eq_true rfl) (ws' := [(m, .inr (3, [.int cd, .ref a1, .ref a2, .ref a3, .ref a4, .ref a5, .ref a6, .ref a7, .ref a8, .int (nI b), .int (nI 0)])), (a1, .inl (ww_g X 0, 240, .inl pl)), (a2, .inl (ww_g X 1, 240, .inl wr)), (a3, .inl (ww_g X 1, 240, .inl pg)), (a4, .inl (ww_g X 0, 240, .inl pv)), (a5, .inl (ww_g X 0, 4, .inl sz)), (a6, .inl (ww_g X 0, 80, .inl ow)), (a7, .inl (ww_g X 0, 80, .inl vl)), (a8, .inl (ww_g X 0, 60, .inl bf))]) rfl ?_
                    refine ww_aload_n O dd_MO_extents_95 0 rfl ?_
                    refine ww_dup O dd_MO_extents_96 rfl ?_
                    refine ww_get O ci_MO rfl 10 (by decide) lf_MO_39 rfl dd_MO_extents_97 0 rfl rfl ?_
                    refine ww_iconst O dd_MO_extents_100 (v := nI 1) rfl ?_
                    refine ww_iadd O dd_MO_extents_101 (v := nI (0 + 1)) (nI_add _ _) ?_
                    refine ww_put O ci_MO cy_MO cy_MO_ok cn_MO rfl 10 (by decide) lf_MO_39 rfl rfl (ty := .int) (by decide +kernel) dd_MO_extents_102 0 rfl rfl rfl (Nat.le_of_ble_eq_true rfl) (ws' := [(m, .inr (3, [.int cd, .ref a1, .ref a2, .ref a3, .ref a4, .ref a5, .ref a6, .ref a7, .ref a8, .int (nI b), .int (nI (0 + 1))])), (a1, .inl (ww_g X 0, 240, .inl pl)), (a2, .inl (ww_g X 1, 240, .inl wr)), (a3, .inl (ww_g X 1, 240, .inl pg)), (a4, .inl (ww_g X 0, 240, .inl pv)), (a5, .inl (ww_g X 0, 4, .inl sz)), (a6, .inl (ww_g X 0, 80, .inl ow)), (a7, .inl (ww_g X 0, 80, .inl vl)), (a8, .inl (ww_g X 0, 60, .inl bf))]) rfl ?_
                    refine ww_goto O dd_MO_extents_105 (tgt := 124) rfl ?_
                    refine ww_iinc O dd_MO_extents_124 4 rfl (v := nI (b + 1)) (nI_add _ 1) (by rw [hn]; decide) rfl (L' := [(0, .ref m), (1, .int (nI f)), (2, .int (nI s)), (3, .int (nI (n + 1))), (4, .int (nI (b + 1))), (5, .int (nI 0))]) rfl ?_
                    refine ww_goto O dd_MO_extents_127 (tgt := 13) rfl ?_
                    rw [if_neg (by omega)] at h4
                    refine ww_sub [0, 1, 2, 3, 4] rfl ?_
                    exact ih (b + 1) (n + 1) 1 (nI b) (by omega) (by omega) (by omega) (by omega) (by omega) h4
                  · refine ww_iload_n O dd_MO_extents_79 3 rfl ?_
                    rw [if_pos (by omega)] at h4
                    subst h4
                    exact F.i dd_MO_extents_80
              · refine ww_iconst O dd_MO_extents_60 (v := nI 1) rfl ?_
                refine ww_goto O dd_MO_extents_61 (tgt := 65) rfl ?_
                rw [if_pos ⟨h39, h48, h57⟩] at h4
                refine ww_istore O dd_MO_extents_65 (by rw [hn]; decide) rfl (L' := [(0, .ref m), (1, .int (nI f)), (2, .int (nI s)), (3, .int (nI n)), (4, .int (nI b)), (5, .int (nI 1))]) rfl ?_
                refine ww_iload O dd_MO_extents_67 5 rfl ?_
                refine ww_if_neN O dd_MO_extents_69 (tgt := 95) rfl (by omega) (fun h69 => ?_) (fun h69 => ?_)
                · refine ww_aload_n O dd_MO_extents_95 0 rfl ?_
                  refine ww_dup O dd_MO_extents_96 rfl ?_
                  refine ww_get O ci_MO rfl 10 (by decide) lf_MO_39 rfl dd_MO_extents_97 0 rfl rfl ?_
                  refine ww_iconst O dd_MO_extents_100 (v := nI 1) rfl ?_
                  refine ww_iadd O dd_MO_extents_101 (v := nI (z + 1)) (nI_add _ _) ?_
                  refine ww_put O ci_MO cy_MO cy_MO_ok cn_MO rfl 10 (by decide) lf_MO_39 rfl rfl (ty := .int) (by decide +kernel) dd_MO_extents_102 0 rfl rfl rfl (Nat.le_of_ble_eq_true rfl) (ws' := [(m, .inr (3, [.int cd, .ref a1, .ref a2, .ref a3, .ref a4, .ref a5, .ref a6, .ref a7, .ref a8, .int fi2, .int (nI (z + 1))])), (a1, .inl (ww_g X 0, 240, .inl pl)), (a2, .inl (ww_g X 1, 240, .inl wr)), (a3, .inl (ww_g X 1, 240, .inl pg)), (a4, .inl (ww_g X 0, 240, .inl pv)), (a5, .inl (ww_g X 0, 4, .inl sz)), (a6, .inl (ww_g X 0, 80, .inl ow)), (a7, .inl (ww_g X 0, 80, .inl vl)), (a8, .inl (ww_g X 0, 60, .inl bf))]) rfl ?_
                  refine ww_goto O dd_MO_extents_105 (tgt := 124) rfl ?_
                  refine ww_iinc O dd_MO_extents_124 4 rfl (v := nI (b + 1)) (nI_add _ 1) (by rw [hn]; decide) rfl (L' := [(0, .ref m), (1, .int (nI f)), (2, .int (nI s)), (3, .int (nI n)), (4, .int (nI (b + 1))), (5, .int (nI 1))]) rfl ?_
                  refine ww_goto O dd_MO_extents_127 (tgt := 13) rfl ?_
                  refine ww_sub [0, 1, 2, 3, 4] rfl ?_
                  exact ih (b + 1) n (z + 1) fi2 (by omega) (by omega) (by omega) (by omega) (by omega) h4
                · exact absurd h69 (by decide)
  refine ww_iconst O dd_MO_extents_0 (v := nI 0) rfl ?_
  refine ww_istore_n O dd_MO_extents_1 (by rw [hn]; decide) rfl (L' := [(0, .ref m), (1, .int (nI f)), (2, .int (nI s)), (3, .int (nI 0))]) rfl ?_
  refine ww_aload_n O dd_MO_extents_2 0 rfl ?_
  refine ww_iconst O dd_MO_extents_3 (v := nI 0) rfl ?_
  refine ww_put O ci_MO cy_MO cy_MO_ok cn_MO rfl 10 (by decide) lf_MO_39 rfl rfl (ty := .int) (by decide +kernel) dd_MO_extents_4 0 rfl rfl rfl (Nat.le_of_ble_eq_true rfl) (ws' := [(m, .inr (3, [.int cd, .ref a1, .ref a2, .ref a3, .ref a4, .ref a5, .ref a6, .ref a7, .ref a8, .int fi, .int (nI 0)])), (a1, .inl (ww_g X 0, 240, .inl pl)), (a2, .inl (ww_g X 1, 240, .inl wr)), (a3, .inl (ww_g X 1, 240, .inl pg)), (a4, .inl (ww_g X 0, 240, .inl pv)), (a5, .inl (ww_g X 0, 4, .inl sz)), (a6, .inl (ww_g X 0, 80, .inl ow)), (a7, .inl (ww_g X 0, 80, .inl vl)), (a8, .inl (ww_g X 0, 60, .inl bf))]) rfl ?_
  refine ww_bipush O dd_MO_extents_7 (v := nI 60) rfl ?_
  refine ww_iload_n O dd_MO_extents_9 1 rfl ?_
  refine ww_imul O dd_MO_extents_10 (v := nI (60 * f)) (pk_mul _ _) ?_
  refine ww_istore O dd_MO_extents_11 (by rw [hn]; decide) rfl (L' := [(0, .ref m), (1, .int (nI f)), (2, .int (nI s)), (3, .int (nI 0)), (4, .int (nI (60 * f)))]) rfl ?_
  exact loop 60 (60 * f) 0 0 fi (by omega) (by omega) (by omega) (by omega) (by omega) (by rw [show 60 * f + 60 - 60 * f = 60 by omega]; exact hT)
set_option maxRecDepth 4000 in
theorem cc_MO_mappedOf (l : Launch) (D : va_G) (g : Nat → ClassId) (m : Nat) (a1 : Nat) (a2 : Nat) (a3 : Nat) (a4 : Nat) (a5 : Nat) (a6 : Nat) (a7 : Nat) (a8 : Nat) (cd : Int32) (fi : Int32) (le : Int32) (pl : Nat → Int32) (wr : Nat → Int32) (pg : Nat → Int32) (pv : Nat → Int32) (sz : Nat → Int32) (ow : Nat → Int32) (vl : Nat → Int32) (bf : Nat → Int32) (f : Nat) (hr : ∀ b, b < 240 → px_rg (pl b)) (hf : f < 4) : ww_ct l D g yy_MO_mappedOf bb_MO_mappedOf 4 (some .int) (ww_rm 1) [.ref m, .int (nI f)] [(m, .inr (3, [.int cd, .ref a1, .ref a2, .ref a3, .ref a4, .ref a5, .ref a6, .ref a7, .ref a8, .int fi, .int le])), (a1, .inl (g 0, 240, .inl pl)), (a2, .inl (g 1, 240, .inl wr)), (a3, .inl (g 1, 240, .inl pg)), (a4, .inl (g 0, 240, .inl pv)), (a5, .inl (g 0, 4, .inl sz)), (a6, .inl (g 0, 80, .inl ow)), (a7, .inl (g 0, 80, .inl vl)), (a8, .inl (g 0, 60, .inl bf))] (some (.int (nI (px_mm pl (60 * f))))) [(m, .inr (3, [.int cd, .ref a1, .ref a2, .ref a3, .ref a4, .ref a5, .ref a6, .ref a7, .ref a8, .int fi, .int le])), (a1, .inl (g 0, 240, .inl pl)), (a2, .inl (g 1, 240, .inl wr)), (a3, .inl (g 1, 240, .inl pg)), (a4, .inl (g 0, 240, .inl pv)), (a5, .inl (g 0, 4, .inl sz)), (a6, .inl (g 0, 80, .inl ow)), (a7, .inl (g 0, 80, .inl vl)), (a8, .inl (g 0, 60, .inl bf))] := by
  refine ww_start (by decide +kernel) rfl rfl (Nat.le_of_ble_eq_true rfl) (L0 := [(0, .ref m), (1, .int (nI f))]) rfl ?_
  intro X O hl hD hg hR hn F
  subst hl hD hg
  have loop : ∀ (k b n : Nat), 60 * f + 60 ≤ b + k → 60 * f ≤ b → b ≤ 60 * f + 60 → n = px_cnt (fun b => !px_hole pl b) (60 * f) (b - 60 * f) → ww_at X 0 0 7 [(0, .ref m), (1, .int (nI f)), (2, .int (nI n)), (3, .int (nI b))] [] [(m, .inr (3, [.int cd, .ref a1, .ref a2, .ref a3, .ref a4, .ref a5, .ref a6, .ref a7, .ref a8, .int fi, .int le])), (a1, .inl (ww_g X 0, 240, .inl pl)), (a2, .inl (ww_g X 1, 240, .inl wr)), (a3, .inl (ww_g X 1, 240, .inl pg)), (a4, .inl (ww_g X 0, 240, .inl pv)), (a5, .inl (ww_g X 0, 4, .inl sz)), (a6, .inl (ww_g X 0, 80, .inl ow)), (a7, .inl (ww_g X 0, 80, .inl vl)), (a8, .inl (ww_g X 0, 60, .inl bf))] := by
    intro k
    induction k with
    | zero =>
      intro b n h1 h2 h3 h4
      have hn9 := px_cnt_le (fun b => !px_hole pl b) (60 * f) (b - 60 * f)
      refine ww_iload_n O dd_MO_mappedOf_7 3 rfl ?_
      refine ww_bipush O dd_MO_mappedOf_8 (v := nI 60) rfl ?_
      refine ww_iload_n O dd_MO_mappedOf_10 1 rfl ?_
      refine ww_imul O dd_MO_mappedOf_11 (v := nI (60 * f)) (pk_mul _ _) ?_
      refine ww_bipush O dd_MO_mappedOf_12 (v := nI 60) rfl ?_
      refine ww_iadd O dd_MO_mappedOf_14 (v := nI ((60 * f) + 60)) (nI_add _ _) ?_
      refine ww_icmp_geN O dd_MO_mappedOf_15 (tgt := 41) rfl (by omega) (by omega) (fun h15 => ?_) (fun h15 => ?_)
      · refine ww_iload_n O dd_MO_mappedOf_41 2 rfl ?_
        rw [show px_mm pl (60 * f) = n from by rw [h4, show b - 60 * f = 60 by omega]; rfl] at F
        exact F.i dd_MO_mappedOf_42
      · exfalso; omega
    | succ k ih =>
      intro b n h1 h2 h3 h4
      have hn9 := px_cnt_le (fun b => !px_hole pl b) (60 * f) (b - 60 * f)
      refine ww_iload_n O dd_MO_mappedOf_7 3 rfl ?_
      refine ww_bipush O dd_MO_mappedOf_8 (v := nI 60) rfl ?_
      refine ww_iload_n O dd_MO_mappedOf_10 1 rfl ?_
      refine ww_imul O dd_MO_mappedOf_11 (v := nI (60 * f)) (pk_mul _ _) ?_
      refine ww_bipush O dd_MO_mappedOf_12 (v := nI 60) rfl ?_
      refine ww_iadd O dd_MO_mappedOf_14 (v := nI ((60 * f) + 60)) (nI_add _ _) ?_
      refine ww_icmp_geN O dd_MO_mappedOf_15 (tgt := 41) rfl (by omega) (by omega) (fun h15 => ?_) (fun h15 => ?_)
      · refine ww_iload_n O dd_MO_mappedOf_41 2 rfl ?_
        rw [show px_mm pl (60 * f) = n from by rw [h4, show b - 60 * f = 60 by omega]; rfl] at F
        exact F.i dd_MO_mappedOf_42
      · refine ww_aload_n O dd_MO_mappedOf_18 0 rfl ?_
        refine ww_get O ci_MO rfl 1 (by decide) lf_MO_7 rfl dd_MO_mappedOf_19 0 rfl rfl ?_
        refine ww_iload_n O dd_MO_mappedOf_22 3 rfl ?_
        refine ww_iald O dd_MO_mappedOf_23 1 rfl (by omega) (by decide) rfl ?_
        refine ww_if_lt O dd_MO_mappedOf_24 (tgt := 33) rfl (fun h24 => ?_) (fun h24 => ?_)
        · refine ww_iload_n O dd_MO_mappedOf_33 2 rfl ?_
          refine ww_istore_n O dd_MO_mappedOf_34 (by rw [hn]; decide) rfl (L' := [(0, .ref m), (1, .int (nI f)), (2, .int (nI n)), (3, .int (nI b))]) rfl ?_
          refine ww_iinc O dd_MO_mappedOf_35 3 rfl (v := nI (b + 1)) (nI_add _ 1) (by rw [hn]; decide) rfl (L' := [(0, .ref m), (1, .int (nI f)), (2, .int (nI n)), (3, .int (nI (b + 1)))]) rfl ?_
          refine ww_goto O dd_MO_mappedOf_38 (tgt := 7) rfl ?_
          exact ih (b + 1) n (by omega) (by omega) (by omega) (px_caf h2 h4 (by simp [px_on, (hr b (by omega)).lt h24]))
        · refine ww_iload_n O dd_MO_mappedOf_27 2 rfl ?_
          refine ww_iconst O dd_MO_mappedOf_28 (v := nI 1) rfl ?_
          refine ww_iadd O dd_MO_mappedOf_29 (v := nI (n + 1)) (nI_add _ _) ?_
          refine ww_goto O dd_MO_mappedOf_30 (tgt := 34) rfl ?_
          refine ww_istore_n O dd_MO_mappedOf_34 (by rw [hn]; decide) rfl (L' := [(0, .ref m), (1, .int (nI f)), (2, .int (nI (n + 1))), (3, .int (nI b))]) rfl ?_
          refine ww_iinc O dd_MO_mappedOf_35 3 rfl (v := nI (b + 1)) (nI_add _ 1) (by rw [hn]; decide) rfl (L' := [(0, .ref m), (1, .int (nI f)), (2, .int (nI (n + 1))), (3, .int (nI (b + 1)))]) rfl ?_
          refine ww_goto O dd_MO_mappedOf_38 (tgt := 7) rfl ?_
          exact ih (b + 1) (n + 1) (by omega) (by omega) (by omega) (px_cat h2 h4 (by simp [px_on, (hr b (by omega)).ge h24]))
  refine ww_iconst O dd_MO_mappedOf_0 (v := nI 0) rfl ?_
  refine ww_istore_n O dd_MO_mappedOf_1 (by rw [hn]; decide) rfl (L' := [(0, .ref m), (1, .int (nI f)), (2, .int (nI 0))]) rfl ?_
  refine ww_bipush O dd_MO_mappedOf_2 (v := nI 60) rfl ?_
  refine ww_iload_n O dd_MO_mappedOf_4 1 rfl ?_
  refine ww_imul O dd_MO_mappedOf_5 (v := nI (60 * f)) (pk_mul _ _) ?_
  refine ww_istore_n O dd_MO_mappedOf_6 (by rw [hn]; decide) rfl (L' := [(0, .ref m), (1, .int (nI f)), (2, .int (nI 0)), (3, .int (nI (60 * f)))]) rfl ?_
  exact loop 60 (60 * f) 0 (by omega) (by omega) (by omega) (by rw [Nat.sub_self]; rfl)
set_option maxRecDepth 4000 in
theorem cc_MO_pagesOf (l : Launch) (D : va_G) (g : Nat → ClassId) (m : Nat) (a1 : Nat) (a2 : Nat) (a3 : Nat) (a4 : Nat) (a5 : Nat) (a6 : Nat) (a7 : Nat) (a8 : Nat) (cd : Int32) (fi : Int32) (le : Int32) (pl : Nat → Int32) (wr : Nat → Int32) (pg : Nat → Int32) (pv : Nat → Int32) (sz : Nat → Int32) (ow : Nat → Int32) (vl : Nat → Int32) (bf : Nat → Int32) (f : Nat) (hf : f < 4) : ww_ct l D g yy_MO_pagesOf bb_MO_pagesOf 4 (some .int) (ww_rm 1) [.ref m, .int (nI f)] [(m, .inr (3, [.int cd, .ref a1, .ref a2, .ref a3, .ref a4, .ref a5, .ref a6, .ref a7, .ref a8, .int fi, .int le])), (a1, .inl (g 0, 240, .inl pl)), (a2, .inl (g 1, 240, .inl wr)), (a3, .inl (g 1, 240, .inl pg)), (a4, .inl (g 0, 240, .inl pv)), (a5, .inl (g 0, 4, .inl sz)), (a6, .inl (g 0, 80, .inl ow)), (a7, .inl (g 0, 80, .inl vl)), (a8, .inl (g 0, 60, .inl bf))] (some (.int (nI (px_pp pg (60 * f))))) [(m, .inr (3, [.int cd, .ref a1, .ref a2, .ref a3, .ref a4, .ref a5, .ref a6, .ref a7, .ref a8, .int fi, .int le])), (a1, .inl (g 0, 240, .inl pl)), (a2, .inl (g 1, 240, .inl wr)), (a3, .inl (g 1, 240, .inl pg)), (a4, .inl (g 0, 240, .inl pv)), (a5, .inl (g 0, 4, .inl sz)), (a6, .inl (g 0, 80, .inl ow)), (a7, .inl (g 0, 80, .inl vl)), (a8, .inl (g 0, 60, .inl bf))] := by
  refine ww_start (by decide +kernel) rfl rfl (Nat.le_of_ble_eq_true rfl) (L0 := [(0, .ref m), (1, .int (nI f))]) rfl ?_
  intro X O hl hD hg hR hn F
  subst hl hD hg
  have loop : ∀ (k b n : Nat), 60 * f + 60 ≤ b + k → 60 * f ≤ b → b ≤ 60 * f + 60 → n = px_cnt (px_on pg) (60 * f) (b - 60 * f) → ww_at X 0 0 7 [(0, .ref m), (1, .int (nI f)), (2, .int (nI n)), (3, .int (nI b))] [] [(m, .inr (3, [.int cd, .ref a1, .ref a2, .ref a3, .ref a4, .ref a5, .ref a6, .ref a7, .ref a8, .int fi, .int le])), (a1, .inl (ww_g X 0, 240, .inl pl)), (a2, .inl (ww_g X 1, 240, .inl wr)), (a3, .inl (ww_g X 1, 240, .inl pg)), (a4, .inl (ww_g X 0, 240, .inl pv)), (a5, .inl (ww_g X 0, 4, .inl sz)), (a6, .inl (ww_g X 0, 80, .inl ow)), (a7, .inl (ww_g X 0, 80, .inl vl)), (a8, .inl (ww_g X 0, 60, .inl bf))] := by
    intro k
    induction k with
    | zero =>
      intro b n h1 h2 h3 h4
      have hn9 := px_cnt_le (px_on pg) (60 * f) (b - 60 * f)
      refine ww_iload_n O dd_MO_pagesOf_7 3 rfl ?_
      refine ww_bipush O dd_MO_pagesOf_8 (v := nI 60) rfl ?_
      refine ww_iload_n O dd_MO_pagesOf_10 1 rfl ?_
      refine ww_imul O dd_MO_pagesOf_11 (v := nI (60 * f)) (pk_mul _ _) ?_
      refine ww_bipush O dd_MO_pagesOf_12 (v := nI 60) rfl ?_
      refine ww_iadd O dd_MO_pagesOf_14 (v := nI ((60 * f) + 60)) (nI_add _ _) ?_
      refine ww_icmp_geN O dd_MO_pagesOf_15 (tgt := 41) rfl (by omega) (by omega) (fun h15 => ?_) (fun h15 => ?_)
      · refine ww_iload_n O dd_MO_pagesOf_41 2 rfl ?_
        rw [show px_pp pg (60 * f) = n from by rw [h4, show b - 60 * f = 60 by omega]; rfl] at F
        exact F.i dd_MO_pagesOf_42
      · exfalso; omega
    | succ k ih =>
      intro b n h1 h2 h3 h4
      have hn9 := px_cnt_le (px_on pg) (60 * f) (b - 60 * f)
      refine ww_iload_n O dd_MO_pagesOf_7 3 rfl ?_
      refine ww_bipush O dd_MO_pagesOf_8 (v := nI 60) rfl ?_
      refine ww_iload_n O dd_MO_pagesOf_10 1 rfl ?_
      refine ww_imul O dd_MO_pagesOf_11 (v := nI (60 * f)) (pk_mul _ _) ?_
      refine ww_bipush O dd_MO_pagesOf_12 (v := nI 60) rfl ?_
      refine ww_iadd O dd_MO_pagesOf_14 (v := nI ((60 * f) + 60)) (nI_add _ _) ?_
      refine ww_icmp_geN O dd_MO_pagesOf_15 (tgt := 41) rfl (by omega) (by omega) (fun h15 => ?_) (fun h15 => ?_)
      · refine ww_iload_n O dd_MO_pagesOf_41 2 rfl ?_
        rw [show px_pp pg (60 * f) = n from by rw [h4, show b - 60 * f = 60 by omega]; rfl] at F
        exact F.i dd_MO_pagesOf_42
      · refine ww_aload_n O dd_MO_pagesOf_18 0 rfl ?_
        refine ww_get O ci_MO rfl 3 (by decide) lf_MO_17 rfl dd_MO_pagesOf_19 0 rfl rfl ?_
        refine ww_iload_n O dd_MO_pagesOf_22 3 rfl ?_
        refine ww_zald O dd_MO_pagesOf_23 3 rfl (by omega) (by decide) rfl ?_
        refine ww_if_eq O dd_MO_pagesOf_24 (tgt := 33) rfl (fun h24 => ?_) (fun h24 => ?_)
        · refine ww_iload_n O dd_MO_pagesOf_33 2 rfl ?_
          refine ww_istore_n O dd_MO_pagesOf_34 (by rw [hn]; decide) rfl (L' := [(0, .ref m), (1, .int (nI f)), (2, .int (nI n)), (3, .int (nI b))]) rfl ?_
          refine ww_iinc O dd_MO_pagesOf_35 3 rfl (v := nI (b + 1)) (nI_add _ 1) (by rw [hn]; decide) rfl (L' := [(0, .ref m), (1, .int (nI f)), (2, .int (nI n)), (3, .int (nI (b + 1)))]) rfl ?_
          refine ww_goto O dd_MO_pagesOf_38 (tgt := 7) rfl ?_
          exact ih (b + 1) n (by omega) (by omega) (by omega) (px_caf h2 h4 (by simp [px_on, h24]))
        · refine ww_iload_n O dd_MO_pagesOf_27 2 rfl ?_
          refine ww_iconst O dd_MO_pagesOf_28 (v := nI 1) rfl ?_
          refine ww_iadd O dd_MO_pagesOf_29 (v := nI (n + 1)) (nI_add _ _) ?_
          refine ww_goto O dd_MO_pagesOf_30 (tgt := 34) rfl ?_
          refine ww_istore_n O dd_MO_pagesOf_34 (by rw [hn]; decide) rfl (L' := [(0, .ref m), (1, .int (nI f)), (2, .int (nI (n + 1))), (3, .int (nI b))]) rfl ?_
          refine ww_iinc O dd_MO_pagesOf_35 3 rfl (v := nI (b + 1)) (nI_add _ 1) (by rw [hn]; decide) rfl (L' := [(0, .ref m), (1, .int (nI f)), (2, .int (nI (n + 1))), (3, .int (nI (b + 1)))]) rfl ?_
          refine ww_goto O dd_MO_pagesOf_38 (tgt := 7) rfl ?_
          exact ih (b + 1) (n + 1) (by omega) (by omega) (by omega) (px_cat h2 h4 (by simp [px_on, h24]))
  refine ww_iconst O dd_MO_pagesOf_0 (v := nI 0) rfl ?_
  refine ww_istore_n O dd_MO_pagesOf_1 (by rw [hn]; decide) rfl (L' := [(0, .ref m), (1, .int (nI f)), (2, .int (nI 0))]) rfl ?_
  refine ww_bipush O dd_MO_pagesOf_2 (v := nI 60) rfl ?_
  refine ww_iload_n O dd_MO_pagesOf_4 1 rfl ?_
  refine ww_imul O dd_MO_pagesOf_5 (v := nI (60 * f)) (pk_mul _ _) ?_
  refine ww_istore_n O dd_MO_pagesOf_6 (by rw [hn]; decide) rfl (L' := [(0, .ref m), (1, .int (nI f)), (2, .int (nI 0)), (3, .int (nI (60 * f)))]) rfl ?_
  exact loop 60 (60 * f) 0 (by omega) (by omega) (by omega) (by rw [Nat.sub_self]; rfl)
set_option maxRecDepth 4000 in
theorem cc_MO_map (l : Launch) (D : va_G) (g : Nat → ClassId) (m : Nat) (a1 : Nat) (a2 : Nat) (a3 : Nat) (a4 : Nat) (a5 : Nat) (a6 : Nat) (a7 : Nat) (a8 : Nat) (cd : Int32) (fi : Int32) (le : Int32) (pl : Nat → Int32) (wr : Nat → Int32) (pg : Nat → Int32) (pv : Nat → Int32) (sz : Nat → Int32) (ow : Nat → Int32) (vl : Nat → Int32) (bf : Nat → Int32) (b : Nat) (p : Nat) (hb : b < 240) (hp : p < 80) : ww_ct l D g yy_MO_map bb_MO_map 3 none (ww_rm 1) [.ref m, .int (nI b), .int (nI p)] [(m, .inr (3, [.int cd, .ref a1, .ref a2, .ref a3, .ref a4, .ref a5, .ref a6, .ref a7, .ref a8, .int fi, .int le])), (a1, .inl (g 0, 240, .inl pl)), (a2, .inl (g 1, 240, .inl wr)), (a3, .inl (g 1, 240, .inl pg)), (a4, .inl (g 0, 240, .inl pv)), (a5, .inl (g 0, 4, .inl sz)), (a6, .inl (g 0, 80, .inl ow)), (a7, .inl (g 0, 80, .inl vl)), (a8, .inl (g 0, 60, .inl bf))] none [(m, .inr (3, [.int cd, .ref a1, .ref a2, .ref a3, .ref a4, .ref a5, .ref a6, .ref a7, .ref a8, .int fi, .int le])), (a1, .inl (g 0, 240, .inl (upd pl b (nI p)))), (a2, .inl (g 1, 240, .inl (upd wr b (nI 0)))), (a3, .inl (g 1, 240, .inl pg)), (a4, .inl (g 0, 240, .inl pv)), (a5, .inl (g 0, 4, .inl sz)), (a6, .inl (g 0, 80, .inl (upd ow p (nI b)))), (a7, .inl (g 0, 80, .inl vl)), (a8, .inl (g 0, 60, .inl bf))] := by
  refine ww_start (by decide +kernel) rfl trivial (Nat.le_of_ble_eq_true rfl) (L0 := [(0, .ref m), (1, .int (nI b)), (2, .int (nI p))]) rfl ?_
  intro X O hl hD hg hR hn F
  subst hl hD hg
  refine ww_aload_n O dd_MO_map_0 0 rfl ?_
  refine ww_get O ci_MO rfl 1 (by decide) lf_MO_7 rfl dd_MO_map_1 0 rfl rfl ?_
  refine ww_iload_n O dd_MO_map_4 1 rfl ?_
  refine ww_iload_n O dd_MO_map_5 2 rfl ?_
  refine ww_iast O dd_MO_map_6 1 rfl (by omega) (by decide) (ws' := [(m, .inr (3, [.int cd, .ref a1, .ref a2, .ref a3, .ref a4, .ref a5, .ref a6, .ref a7, .ref a8, .int fi, .int le])), (a1, .inl (ww_g X 0, 240, .inl (upd pl b (nI p)))), (a2, .inl (ww_g X 1, 240, .inl wr)), (a3, .inl (ww_g X 1, 240, .inl pg)), (a4, .inl (ww_g X 0, 240, .inl pv)), (a5, .inl (ww_g X 0, 4, .inl sz)), (a6, .inl (ww_g X 0, 80, .inl ow)), (a7, .inl (ww_g X 0, 80, .inl vl)), (a8, .inl (ww_g X 0, 60, .inl bf))]) rfl ?_
  refine ww_aload_n O dd_MO_map_7 0 rfl ?_
  refine ww_get O ci_MO rfl 6 (by decide) lf_MO_26 rfl dd_MO_map_8 0 rfl rfl ?_
  refine ww_iload_n O dd_MO_map_11 2 rfl ?_
  refine ww_iload_n O dd_MO_map_12 1 rfl ?_
  refine ww_iast O dd_MO_map_13 6 rfl (by omega) (by decide) (ws' := [(m, .inr (3, [.int cd, .ref a1, .ref a2, .ref a3, .ref a4, .ref a5, .ref a6, .ref a7, .ref a8, .int fi, .int le])), (a1, .inl (ww_g X 0, 240, .inl (upd pl b (nI p)))), (a2, .inl (ww_g X 1, 240, .inl wr)), (a3, .inl (ww_g X 1, 240, .inl pg)), (a4, .inl (ww_g X 0, 240, .inl pv)), (a5, .inl (ww_g X 0, 4, .inl sz)), (a6, .inl (ww_g X 0, 80, .inl (upd ow p (nI b)))), (a7, .inl (ww_g X 0, 80, .inl vl)), (a8, .inl (ww_g X 0, 60, .inl bf))]) rfl ?_
  refine ww_aload_n O dd_MO_map_14 0 rfl ?_
  refine ww_get O ci_MO rfl 2 (by decide) lf_MO_13 rfl dd_MO_map_15 0 rfl rfl ?_
  refine ww_iload_n O dd_MO_map_18 1 rfl ?_
  refine ww_iconst O dd_MO_map_19 (v := nI 0) rfl ?_
  refine ww_zast O dd_MO_map_20 2 rfl (by omega) (by decide) rfl (ws' := [(m, .inr (3, [.int cd, .ref a1, .ref a2, .ref a3, .ref a4, .ref a5, .ref a6, .ref a7, .ref a8, .int fi, .int le])), (a1, .inl (ww_g X 0, 240, .inl (upd pl b (nI p)))), (a2, .inl (ww_g X 1, 240, .inl (upd wr b (nI 0)))), (a3, .inl (ww_g X 1, 240, .inl pg)), (a4, .inl (ww_g X 0, 240, .inl pv)), (a5, .inl (ww_g X 0, 4, .inl sz)), (a6, .inl (ww_g X 0, 80, .inl (upd ow p (nI b)))), (a7, .inl (ww_g X 0, 80, .inl vl)), (a8, .inl (ww_g X 0, 60, .inl bf))]) rfl ?_
  exact F.v dd_MO_map_21
set_option maxRecDepth 4000 in
theorem cc_MO_unmap (l : Launch) (D : va_G) (g : Nat → ClassId) (m : Nat) (a1 : Nat) (a2 : Nat) (a3 : Nat) (a4 : Nat) (a5 : Nat) (a6 : Nat) (a7 : Nat) (a8 : Nat) (cd : Int32) (fi : Int32) (le : Int32) (pl : Nat → Int32) (wr : Nat → Int32) (pg : Nat → Int32) (pv : Nat → Int32) (sz : Nat → Int32) (ow : Nat → Int32) (vl : Nat → Int32) (bf : Nat → Int32) (b : Nat) (hr : px_rg (pl b)) (hb : b < 240) : ww_ct l D g yy_MO_unmap bb_MO_unmap 2 none (ww_rm 1) [.ref m, .int (nI b)] [(m, .inr (3, [.int cd, .ref a1, .ref a2, .ref a3, .ref a4, .ref a5, .ref a6, .ref a7, .ref a8, .int fi, .int le])), (a1, .inl (g 0, 240, .inl pl)), (a2, .inl (g 1, 240, .inl wr)), (a3, .inl (g 1, 240, .inl pg)), (a4, .inl (g 0, 240, .inl pv)), (a5, .inl (g 0, 4, .inl sz)), (a6, .inl (g 0, 80, .inl ow)), (a7, .inl (g 0, 80, .inl vl)), (a8, .inl (g 0, 60, .inl bf))] none [(m, .inr (3, [.int cd, .ref a1, .ref a2, .ref a3, .ref a4, .ref a5, .ref a6, .ref a7, .ref a8, .int fi, .int le])), (a1, .inl (g 0, 240, .inl (upd pl b (-1)))), (a2, .inl (g 1, 240, .inl (upd wr b (nI 0)))), (a3, .inl (g 1, 240, .inl pg)), (a4, .inl (g 0, 240, .inl pv)), (a5, .inl (g 0, 4, .inl sz)), (a6, .inl (g 0, 80, .inl (if px_hole pl b = true then ow else upd ow (pl b).toNatClampNeg (-1)))), (a7, .inl (g 0, 80, .inl vl)), (a8, .inl (g 0, 60, .inl bf))] := by
  refine ww_start (by decide +kernel) rfl trivial (Nat.le_of_ble_eq_true rfl) (L0 := [(0, .ref m), (1, .int (nI b))]) rfl ?_
  intro X O hl hD hg hR hn F
  subst hl hD hg
  refine ww_aload_n O dd_MO_unmap_0 0 rfl ?_
  refine ww_get O ci_MO rfl 1 (by decide) lf_MO_7 rfl dd_MO_unmap_1 0 rfl rfl ?_
  refine ww_iload_n O dd_MO_unmap_4 1 rfl ?_
  refine ww_iald O dd_MO_unmap_5 1 rfl (by omega) (by decide) rfl ?_
  refine ww_if_lt O dd_MO_unmap_6 (tgt := 21) rfl (fun h6 => ?_) (fun h6 => ?_)
  · rw [if_pos (hr.lt h6)] at F
    refine ww_aload_n O dd_MO_unmap_21 0 rfl ?_
    refine ww_get O ci_MO rfl 1 (by decide) lf_MO_7 rfl dd_MO_unmap_22 0 rfl rfl ?_
    refine ww_iload_n O dd_MO_unmap_25 1 rfl ?_
    refine ww_iconst O dd_MO_unmap_26 (v := (-1)) rfl ?_
    refine ww_iast O dd_MO_unmap_27 1 rfl (by omega) (by decide) (ws' := [(m, .inr (3, [.int cd, .ref a1, .ref a2, .ref a3, .ref a4, .ref a5, .ref a6, .ref a7, .ref a8, .int fi, .int le])), (a1, .inl (ww_g X 0, 240, .inl (upd pl b (-1)))), (a2, .inl (ww_g X 1, 240, .inl wr)), (a3, .inl (ww_g X 1, 240, .inl pg)), (a4, .inl (ww_g X 0, 240, .inl pv)), (a5, .inl (ww_g X 0, 4, .inl sz)), (a6, .inl (ww_g X 0, 80, .inl ow)), (a7, .inl (ww_g X 0, 80, .inl vl)), (a8, .inl (ww_g X 0, 60, .inl bf))]) rfl ?_
    refine ww_aload_n O dd_MO_unmap_28 0 rfl ?_
    refine ww_get O ci_MO rfl 2 (by decide) lf_MO_13 rfl dd_MO_unmap_29 0 rfl rfl ?_
    refine ww_iload_n O dd_MO_unmap_32 1 rfl ?_
    refine ww_iconst O dd_MO_unmap_33 (v := nI 0) rfl ?_
    refine ww_zast O dd_MO_unmap_34 2 rfl (by omega) (by decide) rfl (ws' := [(m, .inr (3, [.int cd, .ref a1, .ref a2, .ref a3, .ref a4, .ref a5, .ref a6, .ref a7, .ref a8, .int fi, .int le])), (a1, .inl (ww_g X 0, 240, .inl (upd pl b (-1)))), (a2, .inl (ww_g X 1, 240, .inl (upd wr b (nI 0)))), (a3, .inl (ww_g X 1, 240, .inl pg)), (a4, .inl (ww_g X 0, 240, .inl pv)), (a5, .inl (ww_g X 0, 4, .inl sz)), (a6, .inl (ww_g X 0, 80, .inl ow)), (a7, .inl (ww_g X 0, 80, .inl vl)), (a8, .inl (ww_g X 0, 60, .inl bf))]) rfl ?_
    exact F.v dd_MO_unmap_35
  · have hh := hr.ge h6
    rw [if_neg (by rw [hh]; decide)] at F
    obtain ⟨p, hp, hq⟩ : ∃ p, p < 80 ∧ pl b = nI p := by
      rcases hr with h | h
      · simp [px_hole, h] at hh
      · exact h
    rw [hq, nI_clamp (show p < 2 ^ 31 by omega)] at F
    refine ww_aload_n O dd_MO_unmap_9 0 rfl ?_
    refine ww_get O ci_MO rfl 6 (by decide) lf_MO_26 rfl dd_MO_unmap_10 0 rfl rfl ?_
    refine ww_aload_n O dd_MO_unmap_13 0 rfl ?_
    refine ww_get O ci_MO rfl 1 (by decide) lf_MO_7 rfl dd_MO_unmap_14 0 rfl rfl ?_
    refine ww_iload_n O dd_MO_unmap_17 1 rfl ?_
    refine ww_iald O dd_MO_unmap_18 1 rfl (by omega) (by decide) rfl ?_
    rw [hq]
    refine ww_iconst O dd_MO_unmap_19 (v := (-1)) rfl ?_
    refine ww_iast O dd_MO_unmap_20 6 rfl (by omega) (by decide) (ws' := [(m, .inr (3, [.int cd, .ref a1, .ref a2, .ref a3, .ref a4, .ref a5, .ref a6, .ref a7, .ref a8, .int fi, .int le])), (a1, .inl (ww_g X 0, 240, .inl pl)), (a2, .inl (ww_g X 1, 240, .inl wr)), (a3, .inl (ww_g X 1, 240, .inl pg)), (a4, .inl (ww_g X 0, 240, .inl pv)), (a5, .inl (ww_g X 0, 4, .inl sz)), (a6, .inl (ww_g X 0, 80, .inl (upd ow p (-1)))), (a7, .inl (ww_g X 0, 80, .inl vl)), (a8, .inl (ww_g X 0, 60, .inl bf))]) rfl ?_
    refine ww_aload_n O dd_MO_unmap_21 0 rfl ?_
    refine ww_get O ci_MO rfl 1 (by decide) lf_MO_7 rfl dd_MO_unmap_22 0 rfl rfl ?_
    refine ww_iload_n O dd_MO_unmap_25 1 rfl ?_
    refine ww_iconst O dd_MO_unmap_26 (v := (-1)) rfl ?_
    refine ww_iast O dd_MO_unmap_27 1 rfl (by omega) (by decide) (ws' := [(m, .inr (3, [.int cd, .ref a1, .ref a2, .ref a3, .ref a4, .ref a5, .ref a6, .ref a7, .ref a8, .int fi, .int le])), (a1, .inl (ww_g X 0, 240, .inl (upd pl b (-1)))), (a2, .inl (ww_g X 1, 240, .inl wr)), (a3, .inl (ww_g X 1, 240, .inl pg)), (a4, .inl (ww_g X 0, 240, .inl pv)), (a5, .inl (ww_g X 0, 4, .inl sz)), (a6, .inl (ww_g X 0, 80, .inl (upd ow p (-1)))), (a7, .inl (ww_g X 0, 80, .inl vl)), (a8, .inl (ww_g X 0, 60, .inl bf))]) rfl ?_
    refine ww_aload_n O dd_MO_unmap_28 0 rfl ?_
    refine ww_get O ci_MO rfl 2 (by decide) lf_MO_13 rfl dd_MO_unmap_29 0 rfl rfl ?_
    refine ww_iload_n O dd_MO_unmap_32 1 rfl ?_
    refine ww_iconst O dd_MO_unmap_33 (v := nI 0) rfl ?_
    refine ww_zast O dd_MO_unmap_34 2 rfl (by omega) (by decide) rfl (ws' := [(m, .inr (3, [.int cd, .ref a1, .ref a2, .ref a3, .ref a4, .ref a5, .ref a6, .ref a7, .ref a8, .int fi, .int le])), (a1, .inl (ww_g X 0, 240, .inl (upd pl b (-1)))), (a2, .inl (ww_g X 1, 240, .inl (upd wr b (nI 0)))), (a3, .inl (ww_g X 1, 240, .inl pg)), (a4, .inl (ww_g X 0, 240, .inl pv)), (a5, .inl (ww_g X 0, 4, .inl sz)), (a6, .inl (ww_g X 0, 80, .inl (upd ow p (-1)))), (a7, .inl (ww_g X 0, 80, .inl vl)), (a8, .inl (ww_g X 0, 60, .inl bf))]) rfl ?_
    exact F.v dd_MO_unmap_35
set_option maxRecDepth 4000 in
theorem cc_MO_room (l : Launch) (D : va_G) (g : Nat → ClassId) (m : Nat) (a1 : Nat) (a2 : Nat) (a3 : Nat) (a4 : Nat) (a5 : Nat) (a6 : Nat) (a7 : Nat) (a8 : Nat) (cd : Int32) (fi : Int32) (le : Int32) (pl : Nat → Int32) (wr : Nat → Int32) (pg : Nat → Int32) (pv : Nat → Int32) (sz : Nat → Int32) (ow : Nat → Int32) (vl : Nat → Int32) (bf : Nat → Int32) (p : Nat) (ho : ∀ p, p < 80 → px_rq (ow p)) (hp : p ≤ 80) : ww_ct l D g yy_MO_room bb_MO_room 3 (some .int) (ww_rm 1) [.ref m, .int (nI p)] [(m, .inr (3, [.int cd, .ref a1, .ref a2, .ref a3, .ref a4, .ref a5, .ref a6, .ref a7, .ref a8, .int fi, .int le])), (a1, .inl (g 0, 240, .inl pl)), (a2, .inl (g 1, 240, .inl wr)), (a3, .inl (g 1, 240, .inl pg)), (a4, .inl (g 0, 240, .inl pv)), (a5, .inl (g 0, 4, .inl sz)), (a6, .inl (g 0, 80, .inl ow)), (a7, .inl (g 0, 80, .inl vl)), (a8, .inl (g 0, 60, .inl bf))] (some (.int (nI (px_room ow (80 - p) p)))) [(m, .inr (3, [.int cd, .ref a1, .ref a2, .ref a3, .ref a4, .ref a5, .ref a6, .ref a7, .ref a8, .int fi, .int le])), (a1, .inl (g 0, 240, .inl pl)), (a2, .inl (g 1, 240, .inl wr)), (a3, .inl (g 1, 240, .inl pg)), (a4, .inl (g 0, 240, .inl pv)), (a5, .inl (g 0, 4, .inl sz)), (a6, .inl (g 0, 80, .inl ow)), (a7, .inl (g 0, 80, .inl vl)), (a8, .inl (g 0, 60, .inl bf))] := by
  refine ww_start (by decide +kernel) rfl rfl (Nat.le_of_ble_eq_true rfl) (L0 := [(0, .ref m), (1, .int (nI p))]) rfl ?_
  intro X O hl hD hg hR hn F
  subst hl hD hg
  have loop : ∀ (k n : Nat), 80 ≤ p + n + k → p + n ≤ 80 → n + px_room ow (80 - (p + n)) (p + n) = px_room ow (80 - p) p → ww_at X 0 0 2 [(0, .ref m), (1, .int (nI p)), (2, .int (nI n))] [] [(m, .inr (3, [.int cd, .ref a1, .ref a2, .ref a3, .ref a4, .ref a5, .ref a6, .ref a7, .ref a8, .int fi, .int le])), (a1, .inl (ww_g X 0, 240, .inl pl)), (a2, .inl (ww_g X 1, 240, .inl wr)), (a3, .inl (ww_g X 1, 240, .inl pg)), (a4, .inl (ww_g X 0, 240, .inl pv)), (a5, .inl (ww_g X 0, 4, .inl sz)), (a6, .inl (ww_g X 0, 80, .inl ow)), (a7, .inl (ww_g X 0, 80, .inl vl)), (a8, .inl (ww_g X 0, 60, .inl bf))] := by
    intro k
    induction k with
    | zero =>
      intro n h1 h2 h4
      refine ww_iload_n O dd_MO_room_2 1 rfl ?_
      refine ww_iload_n O dd_MO_room_3 2 rfl ?_
      refine ww_iadd O dd_MO_room_4 (v := nI (p + n)) (nI_add _ _) ?_
      refine ww_bipush O dd_MO_room_5 (v := nI 80) rfl ?_
      refine ww_icmp_geN O dd_MO_room_7 (tgt := 27) rfl (by omega) (by omega) (fun h7 => ?_) (fun h7 => ?_)
      · refine ww_iload_n O dd_MO_room_27 2 rfl ?_
        rw [← h4, px_room_s, if_neg (fun z => by omega), Nat.add_zero] at F
        exact F.i dd_MO_room_28
      · exfalso; omega
    | succ k ih =>
      intro n h1 h2 h4
      refine ww_iload_n O dd_MO_room_2 1 rfl ?_
      refine ww_iload_n O dd_MO_room_3 2 rfl ?_
      refine ww_iadd O dd_MO_room_4 (v := nI (p + n)) (nI_add _ _) ?_
      refine ww_bipush O dd_MO_room_5 (v := nI 80) rfl ?_
      refine ww_icmp_geN O dd_MO_room_7 (tgt := 27) rfl (by omega) (by omega) (fun h7 => ?_) (fun h7 => ?_)
      · refine ww_iload_n O dd_MO_room_27 2 rfl ?_
        rw [← h4, px_room_s, if_neg (fun z => by omega), Nat.add_zero] at F
        exact F.i dd_MO_room_28
      · refine ww_aload_n O dd_MO_room_10 0 rfl ?_
        refine ww_get O ci_MO rfl 6 (by decide) lf_MO_26 rfl dd_MO_room_11 0 rfl rfl ?_
        refine ww_iload_n O dd_MO_room_14 1 rfl ?_
        refine ww_iload_n O dd_MO_room_15 2 rfl ?_
        refine ww_iadd O dd_MO_room_16 (v := nI (p + n)) (nI_add _ _) ?_
        refine ww_iald O dd_MO_room_17 6 rfl (by omega) (by decide) rfl ?_
        refine ww_if_ge O dd_MO_room_18 (tgt := 27) rfl (fun h18 => ?_) (fun h18 => ?_)
        · refine ww_iload_n O dd_MO_room_27 2 rfl ?_
          rw [← h4, px_room_s, if_neg (fun z => (ho (p + n) (by omega)).ge h18 z.2), Nat.add_zero] at F
          exact F.i dd_MO_room_28
        · refine ww_iinc O dd_MO_room_21 2 rfl (v := nI (n + 1)) (nI_add _ 1) (by rw [hn]; decide) rfl (L' := [(0, .ref m), (1, .int (nI p)), (2, .int (nI (n + 1)))]) rfl ?_
          refine ww_goto O dd_MO_room_24 (tgt := 2) rfl ?_
          exact ih (n + 1) (by omega) (by omega) (by rw [← h4, px_room_s (p := p + n), if_pos ⟨by omega, (ho (p + n) (by omega)).lt h18⟩, show 80 - (p + n) - 1 = 80 - (p + (n + 1)) by omega, show p + n + 1 = p + (n + 1) by omega]; omega)
  refine ww_iconst O dd_MO_room_0 (v := nI 0) rfl ?_
  refine ww_istore_n O dd_MO_room_1 (by rw [hn]; decide) rfl (L' := [(0, .ref m), (1, .int (nI p)), (2, .int (nI 0))]) rfl ?_
  exact loop 80 0 (by omega) (by omega) (by rw [Nat.add_zero, Nat.zero_add])
set_option maxRecDepth 4000 in
theorem cc_MO_bestFor (l : Launch) (D : va_G) (g : Nat → ClassId) (m : Nat) (a1 : Nat) (a2 : Nat) (a3 : Nat) (a4 : Nat) (a5 : Nat) (a6 : Nat) (a7 : Nat) (a8 : Nat) (cd : Int32) (fi : Int32) (le : Int32) (pl : Nat → Int32) (wr : Nat → Int32) (pg : Nat → Int32) (pv : Nat → Int32) (sz : Nat → Int32) (ow : Nat → Int32) (vl : Nat → Int32) (bf : Nat → Int32) (w : Nat) (ho : ∀ p, p < 80 → px_rq (ow p)) (hw : w < 100) : ww_ct l D g yy_MO_bestFor bb_MO_bestFor 7 (some .int) (ww_rm 2) [.ref m, .int (nI w)] [(m, .inr (3, [.int cd, .ref a1, .ref a2, .ref a3, .ref a4, .ref a5, .ref a6, .ref a7, .ref a8, .int fi, .int le])), (a1, .inl (g 0, 240, .inl pl)), (a2, .inl (g 1, 240, .inl wr)), (a3, .inl (g 1, 240, .inl pg)), (a4, .inl (g 0, 240, .inl pv)), (a5, .inl (g 0, 4, .inl sz)), (a6, .inl (g 0, 80, .inl ow)), (a7, .inl (g 0, 80, .inl vl)), (a8, .inl (g 0, 60, .inl bf))] (some (.int (px_best ow w))) [(m, .inr (3, [.int cd, .ref a1, .ref a2, .ref a3, .ref a4, .ref a5, .ref a6, .ref a7, .ref a8, .int fi, .int le])), (a1, .inl (g 0, 240, .inl pl)), (a2, .inl (g 1, 240, .inl wr)), (a3, .inl (g 1, 240, .inl pg)), (a4, .inl (g 0, 240, .inl pv)), (a5, .inl (g 0, 4, .inl sz)), (a6, .inl (g 0, 80, .inl ow)), (a7, .inl (g 0, 80, .inl vl)), (a8, .inl (g 0, 60, .inl bf))] := by
  refine ww_start (by decide +kernel) rfl rfl (Nat.le_of_ble_eq_true rfl) (L0 := [(0, .ref m), (1, .int (nI w))]) rfl ?_
  intro X O hl hD hg hR hn F
  subst hl hD hg
  have loop : ∀ (k p s : Nat) (b : Int32), 80 ≤ p + k → p ≤ 80 → s ≤ 80 → px_bf ow w (80 - p) p b s = px_best ow w → ww_at X 0 0 7 [(0, .ref m), (1, .int (nI w)), (2, .int b), (3, .int (nI s)), (4, .int (nI p))] [] [(m, .inr (3, [.int cd, .ref a1, .ref a2, .ref a3, .ref a4, .ref a5, .ref a6, .ref a7, .ref a8, .int fi, .int le])), (a1, .inl (ww_g X 0, 240, .inl pl)), (a2, .inl (ww_g X 1, 240, .inl wr)), (a3, .inl (ww_g X 1, 240, .inl pg)), (a4, .inl (ww_g X 0, 240, .inl pv)), (a5, .inl (ww_g X 0, 4, .inl sz)), (a6, .inl (ww_g X 0, 80, .inl ow)), (a7, .inl (ww_g X 0, 80, .inl vl)), (a8, .inl (ww_g X 0, 60, .inl bf))] := by
    intro k
    induction k with
    | zero =>
      intro p s b h1 h2 hs h4
      refine ww_iload O dd_MO_bestFor_7 4 rfl ?_
      refine ww_bipush O dd_MO_bestFor_9 (v := nI 80) rfl ?_
      refine ww_icmp_geN O dd_MO_bestFor_11 (tgt := 99) rfl (by omega) (by omega) (fun h11 => ?_) (fun h11 => ?_)
      · refine ww_iload_n O dd_MO_bestFor_99 2 rfl ?_
        rw [show px_best ow w = b from by rw [← h4, show 80 - p = 0 by omega]; rfl] at F
        exact F.i dd_MO_bestFor_100
      · exfalso; omega
    | succ k ih =>
      intro p s b h1 h2 hs h4
      refine ww_iload O dd_MO_bestFor_7 4 rfl ?_
      refine ww_bipush O dd_MO_bestFor_9 (v := nI 80) rfl ?_
      refine ww_icmp_geN O dd_MO_bestFor_11 (tgt := 99) rfl (by omega) (by omega) (fun h11 => ?_) (fun h11 => ?_)
      · refine ww_iload_n O dd_MO_bestFor_99 2 rfl ?_
        rw [show px_best ow w = b from by rw [← h4, show 80 - p = 0 by omega]; rfl] at F
        exact F.i dd_MO_bestFor_100
      · refine ww_aload_n O dd_MO_bestFor_14 0 rfl ?_
        refine ww_iload O dd_MO_bestFor_15 4 rfl ?_
        refine ww_callV (q0 := 0) (ci := 3) O (cc_MO_room _ _ _ m a1 a2 a3 a4 a5 a6 a7 a8 cd fi le pl wr pg pv sz ow vl bf p (by omega) (by omega)) lc_MO_63 lx_MO_room_I_I rfl rfl rfl (by rw [hR]; decide) (by rw [hR]; decide) (by rw [hR]; decide) rfl (Nat.le_of_ble_eq_true rfl) dd_MO_bestFor_17 rfl [0, 1, 2, 3, 4, 5, 6, 7, 8] [] [0, 1, 2, 3, 4, 5, 6, 7, 8] rfl (by decide) rfl (by decide) (by decide) (ws' := [(m, .inr (3, [.int cd, .ref a1, .ref a2, .ref a3, .ref a4, .ref a5, .ref a6, .ref a7, .ref a8, .int fi, .int le])), (a1, .inl (ww_g X 0, 240, .inl pl)), (a2, .inl (ww_g X 1, 240, .inl wr)), (a3, .inl (ww_g X 1, 240, .inl pg)), (a4, .inl (ww_g X 0, 240, .inl pv)), (a5, .inl (ww_g X 0, 4, .inl sz)), (a6, .inl (ww_g X 0, 80, .inl ow)), (a7, .inl (ww_g X 0, 80, .inl vl)), (a8, .inl (ww_g X 0, 60, .inl bf))]) rfl rfl (by decide) ?_
        obtain ⟨j, hj⟩ : ∃ j, 80 - p = j + 1 := ⟨79 - p, by omega⟩
        have hrl := px_room_le ow (80 - p) p
        rw [hj, px_bf] at h4
        rw [← hj] at h4
        have hj2 : j = 80 - (p + 1) := by omega
        subst hj2
        generalize px_room ow (80 - p) p = r at hrl h4 ⊢
        refine ww_istore O dd_MO_bestFor_20 (by rw [hn]; decide) rfl (L' := [(0, .ref m), (1, .int (nI w)), (2, .int b), (3, .int (nI s)), (4, .int (nI p)), (5, .int (nI r))]) rfl ?_
        refine ww_iload O dd_MO_bestFor_22 5 rfl ?_
        refine ww_if_leN O dd_MO_bestFor_24 (tgt := 93) rfl (by omega) (fun h24 => ?_) (fun h24 => ?_)
        · refine ww_iinc O dd_MO_bestFor_93 4 rfl (v := nI (p + 1)) (nI_add _ 1) (by rw [hn]; decide) rfl (L' := [(0, .ref m), (1, .int (nI w)), (2, .int b), (3, .int (nI s)), (4, .int (nI (p + 1))), (5, .int (nI r))]) rfl ?_
          refine ww_goto O dd_MO_bestFor_96 (tgt := 7) rfl ?_
          rw [if_neg (by omega)] at h4
          refine ww_sub [0, 1, 2, 3, 4] rfl ?_
          exact ih (p + 1) _ _ (by omega) (by omega) (by omega) h4
        · refine ww_iload O dd_MO_bestFor_27 4 rfl ?_
          refine ww_if_eqN O dd_MO_bestFor_29 (tgt := 44) rfl (by omega) (fun h29 => ?_) (fun h29 => ?_)
          · refine ww_iload_n O dd_MO_bestFor_44 3 rfl ?_
            refine ww_iload_n O dd_MO_bestFor_45 1 rfl ?_
            refine ww_icmp_ltN O dd_MO_bestFor_46 (tgt := 69) rfl (by omega) (by omega) (fun h46 => ?_) (fun h46 => ?_)
            · refine ww_iload O dd_MO_bestFor_69 5 rfl ?_
              refine ww_iload_n O dd_MO_bestFor_71 3 rfl ?_
              refine ww_icmp_leN O dd_MO_bestFor_72 (tgt := 79) rfl (by omega) (by omega) (fun h72 => ?_) (fun h72 => ?_)
              · refine ww_iconst O dd_MO_bestFor_79 (v := nI 0) rfl ?_
                refine ww_istore O dd_MO_bestFor_80 (by rw [hn]; decide) rfl (L' := [(0, .ref m), (1, .int (nI w)), (2, .int b), (3, .int (nI s)), (4, .int (nI p)), (5, .int (nI r)), (6, .int (nI 0))]) rfl ?_
                refine ww_iload O dd_MO_bestFor_82 6 rfl ?_
                refine ww_if_eqN O dd_MO_bestFor_84 (tgt := 93) rfl (by omega) (fun h84 => ?_) (fun h84 => ?_)
                · refine ww_iinc O dd_MO_bestFor_93 4 rfl (v := nI (p + 1)) (nI_add _ 1) (by rw [hn]; decide) rfl (L' := [(0, .ref m), (1, .int (nI w)), (2, .int b), (3, .int (nI s)), (4, .int (nI (p + 1))), (5, .int (nI r)), (6, .int (nI 0))]) rfl ?_
                  refine ww_goto O dd_MO_bestFor_96 (tgt := 7) rfl ?_
                  rw [if_neg (fun z => by have q := z.2.2; unfold px_bet at q; split at q <;> simp at q <;> omega)] at h4
                  refine ww_sub [0, 1, 2, 3, 4] rfl ?_
                  exact ih (p + 1) _ _ (by omega) (by omega) (by omega) h4
                · exact absurd rfl h84
              · refine ww_iconst O dd_MO_bestFor_75 (v := nI 1) rfl ?_
                refine ww_goto O dd_MO_bestFor_76 (tgt := 80) rfl ?_
                refine ww_istore O dd_MO_bestFor_80 (by rw [hn]; decide) rfl (L' := [(0, .ref m), (1, .int (nI w)), (2, .int b), (3, .int (nI s)), (4, .int (nI p)), (5, .int (nI r)), (6, .int (nI 1))]) rfl ?_
                refine ww_iload O dd_MO_bestFor_82 6 rfl ?_
                refine ww_if_eqN O dd_MO_bestFor_84 (tgt := 93) rfl (by omega) (fun h84 => ?_) (fun h84 => ?_)
                · exact absurd h84 (by decide)
                · refine ww_iload O dd_MO_bestFor_87 4 rfl ?_
                  refine ww_istore_n O dd_MO_bestFor_89 (by rw [hn]; decide) rfl (L' := [(0, .ref m), (1, .int (nI w)), (2, .int (nI p)), (3, .int (nI s)), (4, .int (nI p)), (5, .int (nI r)), (6, .int (nI 1))]) rfl ?_
                  refine ww_iload O dd_MO_bestFor_90 5 rfl ?_
                  refine ww_istore_n O dd_MO_bestFor_92 (by rw [hn]; decide) rfl (L' := [(0, .ref m), (1, .int (nI w)), (2, .int (nI p)), (3, .int (nI r)), (4, .int (nI p)), (5, .int (nI r)), (6, .int (nI 1))]) rfl ?_
                  refine ww_iinc O dd_MO_bestFor_93 4 rfl (v := nI (p + 1)) (nI_add _ 1) (by rw [hn]; decide) rfl (L' := [(0, .ref m), (1, .int (nI w)), (2, .int (nI p)), (3, .int (nI r)), (4, .int (nI (p + 1))), (5, .int (nI r)), (6, .int (nI 1))]) rfl ?_
                  refine ww_goto O dd_MO_bestFor_96 (tgt := 7) rfl ?_
                  rw [if_pos ⟨h24, (Or.inl h29), by unfold px_bet; split <;> simp <;> omega⟩] at h4
                  refine ww_sub [0, 1, 2, 3, 4] rfl ?_
                  exact ih (p + 1) _ _ (by omega) (by omega) (by omega) h4
            · refine ww_iload O dd_MO_bestFor_49 5 rfl ?_
              refine ww_iload_n O dd_MO_bestFor_51 1 rfl ?_
              refine ww_icmp_ltN O dd_MO_bestFor_52 (tgt := 65) rfl (by omega) (by omega) (fun h52 => ?_) (fun h52 => ?_)
              · refine ww_iconst O dd_MO_bestFor_65 (v := nI 0) rfl ?_
                refine ww_goto O dd_MO_bestFor_66 (tgt := 80) rfl ?_
                refine ww_istore O dd_MO_bestFor_80 (by rw [hn]; decide) rfl (L' := [(0, .ref m), (1, .int (nI w)), (2, .int b), (3, .int (nI s)), (4, .int (nI p)), (5, .int (nI r)), (6, .int (nI 0))]) rfl ?_
                refine ww_iload O dd_MO_bestFor_82 6 rfl ?_
                refine ww_if_eqN O dd_MO_bestFor_84 (tgt := 93) rfl (by omega) (fun h84 => ?_) (fun h84 => ?_)
                · refine ww_iinc O dd_MO_bestFor_93 4 rfl (v := nI (p + 1)) (nI_add _ 1) (by rw [hn]; decide) rfl (L' := [(0, .ref m), (1, .int (nI w)), (2, .int b), (3, .int (nI s)), (4, .int (nI (p + 1))), (5, .int (nI r)), (6, .int (nI 0))]) rfl ?_
                  refine ww_goto O dd_MO_bestFor_96 (tgt := 7) rfl ?_
                  rw [if_neg (fun z => by have q := z.2.2; unfold px_bet at q; split at q <;> simp at q <;> omega)] at h4
                  refine ww_sub [0, 1, 2, 3, 4] rfl ?_
                  exact ih (p + 1) _ _ (by omega) (by omega) (by omega) h4
                · exact absurd rfl h84
              · refine ww_iload O dd_MO_bestFor_55 5 rfl ?_
                refine ww_iload_n O dd_MO_bestFor_57 3 rfl ?_
                refine ww_icmp_geN O dd_MO_bestFor_58 (tgt := 65) rfl (by omega) (by omega) (fun h58 => ?_) (fun h58 => ?_)
                · refine ww_iconst O dd_MO_bestFor_65 (v := nI 0) rfl ?_
                  refine ww_goto O dd_MO_bestFor_66 (tgt := 80) rfl ?_
                  refine ww_istore O dd_MO_bestFor_80 (by rw [hn]; decide) rfl (L' := [(0, .ref m), (1, .int (nI w)), (2, .int b), (3, .int (nI s)), (4, .int (nI p)), (5, .int (nI r)), (6, .int (nI 0))]) rfl ?_
                  refine ww_iload O dd_MO_bestFor_82 6 rfl ?_
                  refine ww_if_eqN O dd_MO_bestFor_84 (tgt := 93) rfl (by omega) (fun h84 => ?_) (fun h84 => ?_)
                  · refine ww_iinc O dd_MO_bestFor_93 4 rfl (v := nI (p + 1)) (nI_add _ 1) (by rw [hn]; decide) rfl (L' := [(0, .ref m), (1, .int (nI w)), (2, .int b), (3, .int (nI s)), (4, .int (nI (p + 1))), (5, .int (nI r)), (6, .int (nI 0))]) rfl ?_
                    refine ww_goto O dd_MO_bestFor_96 (tgt := 7) rfl ?_
                    rw [if_neg (fun z => by have q := z.2.2; unfold px_bet at q; split at q <;> simp at q <;> omega)] at h4
                    refine ww_sub [0, 1, 2, 3, 4] rfl ?_
                    exact ih (p + 1) _ _ (by omega) (by omega) (by omega) h4
                  · exact absurd rfl h84
                · refine ww_iconst O dd_MO_bestFor_61 (v := nI 1) rfl ?_
                  refine ww_goto O dd_MO_bestFor_62 (tgt := 80) rfl ?_
                  refine ww_istore O dd_MO_bestFor_80 (by rw [hn]; decide) rfl (L' := [(0, .ref m), (1, .int (nI w)), (2, .int b), (3, .int (nI s)), (4, .int (nI p)), (5, .int (nI r)), (6, .int (nI 1))]) rfl ?_
                  refine ww_iload O dd_MO_bestFor_82 6 rfl ?_
                  refine ww_if_eqN O dd_MO_bestFor_84 (tgt := 93) rfl (by omega) (fun h84 => ?_) (fun h84 => ?_)
                  · exact absurd h84 (by decide)
                  · refine ww_iload O dd_MO_bestFor_87 4 rfl ?_
                    refine ww_istore_n O dd_MO_bestFor_89 (by rw [hn]; decide) rfl (L' := [(0, .ref m), (1, .int (nI w)), (2, .int (nI p)), (3, .int (nI s)), (4, .int (nI p)), (5, .int (nI r)), (6, .int (nI 1))]) rfl ?_
                    refine ww_iload O dd_MO_bestFor_90 5 rfl ?_
                    refine ww_istore_n O dd_MO_bestFor_92 (by rw [hn]; decide) rfl (L' := [(0, .ref m), (1, .int (nI w)), (2, .int (nI p)), (3, .int (nI r)), (4, .int (nI p)), (5, .int (nI r)), (6, .int (nI 1))]) rfl ?_
                    refine ww_iinc O dd_MO_bestFor_93 4 rfl (v := nI (p + 1)) (nI_add _ 1) (by rw [hn]; decide) rfl (L' := [(0, .ref m), (1, .int (nI w)), (2, .int (nI p)), (3, .int (nI r)), (4, .int (nI (p + 1))), (5, .int (nI r)), (6, .int (nI 1))]) rfl ?_
                    refine ww_goto O dd_MO_bestFor_96 (tgt := 7) rfl ?_
                    rw [if_pos ⟨h24, (Or.inl h29), by unfold px_bet; split <;> simp <;> omega⟩] at h4
                    refine ww_sub [0, 1, 2, 3, 4] rfl ?_
                    exact ih (p + 1) _ _ (by omega) (by omega) (by omega) h4
          · refine ww_aload_n O dd_MO_bestFor_32 0 rfl ?_
            refine ww_get O ci_MO rfl 6 (by decide) lf_MO_26 rfl dd_MO_bestFor_33 0 rfl rfl ?_
            refine ww_iload O dd_MO_bestFor_36 4 rfl ?_
            refine ww_iconst O dd_MO_bestFor_38 (v := nI 1) rfl ?_
            refine ww_isub O dd_MO_bestFor_39 (v := nI (p - 1)) (pk_sub (by omega)) ?_
            refine ww_iald O dd_MO_bestFor_40 6 rfl (by omega) (by decide) rfl ?_
            refine ww_if_lt O dd_MO_bestFor_41 (tgt := 93) rfl (fun h41 => ?_) (fun h41 => ?_)
            · refine ww_iinc O dd_MO_bestFor_93 4 rfl (v := nI (p + 1)) (nI_add _ 1) (by rw [hn]; decide) rfl (L' := [(0, .ref m), (1, .int (nI w)), (2, .int b), (3, .int (nI s)), (4, .int (nI (p + 1))), (5, .int (nI r))]) rfl ?_
              refine ww_goto O dd_MO_bestFor_96 (tgt := 7) rfl ?_
              rw [if_neg (fun z => by rcases z.2.1 with q | q; exact h29 q; exact q ((ho (p - 1) (by omega)).lt (Int32.not_le.mpr h41)))] at h4
              refine ww_sub [0, 1, 2, 3, 4] rfl ?_
              exact ih (p + 1) _ _ (by omega) (by omega) (by omega) h4
            · refine ww_iload_n O dd_MO_bestFor_44 3 rfl ?_
              refine ww_iload_n O dd_MO_bestFor_45 1 rfl ?_
              refine ww_icmp_ltN O dd_MO_bestFor_46 (tgt := 69) rfl (by omega) (by omega) (fun h46 => ?_) (fun h46 => ?_)
              · refine ww_iload O dd_MO_bestFor_69 5 rfl ?_
                refine ww_iload_n O dd_MO_bestFor_71 3 rfl ?_
                refine ww_icmp_leN O dd_MO_bestFor_72 (tgt := 79) rfl (by omega) (by omega) (fun h72 => ?_) (fun h72 => ?_)
                · refine ww_iconst O dd_MO_bestFor_79 (v := nI 0) rfl ?_
                  refine ww_istore O dd_MO_bestFor_80 (by rw [hn]; decide) rfl (L' := [(0, .ref m), (1, .int (nI w)), (2, .int b), (3, .int (nI s)), (4, .int (nI p)), (5, .int (nI r)), (6, .int (nI 0))]) rfl ?_
                  refine ww_iload O dd_MO_bestFor_82 6 rfl ?_
                  refine ww_if_eqN O dd_MO_bestFor_84 (tgt := 93) rfl (by omega) (fun h84 => ?_) (fun h84 => ?_)
                  · refine ww_iinc O dd_MO_bestFor_93 4 rfl (v := nI (p + 1)) (nI_add _ 1) (by rw [hn]; decide) rfl (L' := [(0, .ref m), (1, .int (nI w)), (2, .int b), (3, .int (nI s)), (4, .int (nI (p + 1))), (5, .int (nI r)), (6, .int (nI 0))]) rfl ?_
                    refine ww_goto O dd_MO_bestFor_96 (tgt := 7) rfl ?_
                    rw [if_neg (fun z => by have q := z.2.2; unfold px_bet at q; split at q <;> simp at q <;> omega)] at h4
                    refine ww_sub [0, 1, 2, 3, 4] rfl ?_
                    exact ih (p + 1) _ _ (by omega) (by omega) (by omega) h4
                  · exact absurd rfl h84
                · refine ww_iconst O dd_MO_bestFor_75 (v := nI 1) rfl ?_
                  refine ww_goto O dd_MO_bestFor_76 (tgt := 80) rfl ?_
                  refine ww_istore O dd_MO_bestFor_80 (by rw [hn]; decide) rfl (L' := [(0, .ref m), (1, .int (nI w)), (2, .int b), (3, .int (nI s)), (4, .int (nI p)), (5, .int (nI r)), (6, .int (nI 1))]) rfl ?_
                  refine ww_iload O dd_MO_bestFor_82 6 rfl ?_
                  refine ww_if_eqN O dd_MO_bestFor_84 (tgt := 93) rfl (by omega) (fun h84 => ?_) (fun h84 => ?_)
                  · exact absurd h84 (by decide)
                  · refine ww_iload O dd_MO_bestFor_87 4 rfl ?_
                    refine ww_istore_n O dd_MO_bestFor_89 (by rw [hn]; decide) rfl (L' := [(0, .ref m), (1, .int (nI w)), (2, .int (nI p)), (3, .int (nI s)), (4, .int (nI p)), (5, .int (nI r)), (6, .int (nI 1))]) rfl ?_
                    refine ww_iload O dd_MO_bestFor_90 5 rfl ?_
                    refine ww_istore_n O dd_MO_bestFor_92 (by rw [hn]; decide) rfl (L' := [(0, .ref m), (1, .int (nI w)), (2, .int (nI p)), (3, .int (nI r)), (4, .int (nI p)), (5, .int (nI r)), (6, .int (nI 1))]) rfl ?_
                    refine ww_iinc O dd_MO_bestFor_93 4 rfl (v := nI (p + 1)) (nI_add _ 1) (by rw [hn]; decide) rfl (L' := [(0, .ref m), (1, .int (nI w)), (2, .int (nI p)), (3, .int (nI r)), (4, .int (nI (p + 1))), (5, .int (nI r)), (6, .int (nI 1))]) rfl ?_
                    refine ww_goto O dd_MO_bestFor_96 (tgt := 7) rfl ?_
                    rw [if_pos ⟨h24, (Or.inr ((ho (p - 1) (by omega)).ge (Int32.not_lt.mp h41))), by unfold px_bet; split <;> simp <;> omega⟩] at h4
                    refine ww_sub [0, 1, 2, 3, 4] rfl ?_
                    exact ih (p + 1) _ _ (by omega) (by omega) (by omega) h4
              · refine ww_iload O dd_MO_bestFor_49 5 rfl ?_
                refine ww_iload_n O dd_MO_bestFor_51 1 rfl ?_
                refine ww_icmp_ltN O dd_MO_bestFor_52 (tgt := 65) rfl (by omega) (by omega) (fun h52 => ?_) (fun h52 => ?_)
                · refine ww_iconst O dd_MO_bestFor_65 (v := nI 0) rfl ?_
                  refine ww_goto O dd_MO_bestFor_66 (tgt := 80) rfl ?_
                  refine ww_istore O dd_MO_bestFor_80 (by rw [hn]; decide) rfl (L' := [(0, .ref m), (1, .int (nI w)), (2, .int b), (3, .int (nI s)), (4, .int (nI p)), (5, .int (nI r)), (6, .int (nI 0))]) rfl ?_
                  refine ww_iload O dd_MO_bestFor_82 6 rfl ?_
                  refine ww_if_eqN O dd_MO_bestFor_84 (tgt := 93) rfl (by omega) (fun h84 => ?_) (fun h84 => ?_)
                  · refine ww_iinc O dd_MO_bestFor_93 4 rfl (v := nI (p + 1)) (nI_add _ 1) (by rw [hn]; decide) rfl (L' := [(0, .ref m), (1, .int (nI w)), (2, .int b), (3, .int (nI s)), (4, .int (nI (p + 1))), (5, .int (nI r)), (6, .int (nI 0))]) rfl ?_
                    refine ww_goto O dd_MO_bestFor_96 (tgt := 7) rfl ?_
                    rw [if_neg (fun z => by have q := z.2.2; unfold px_bet at q; split at q <;> simp at q <;> omega)] at h4
                    refine ww_sub [0, 1, 2, 3, 4] rfl ?_
                    exact ih (p + 1) _ _ (by omega) (by omega) (by omega) h4
                  · exact absurd rfl h84
                · refine ww_iload O dd_MO_bestFor_55 5 rfl ?_
                  refine ww_iload_n O dd_MO_bestFor_57 3 rfl ?_
                  refine ww_icmp_geN O dd_MO_bestFor_58 (tgt := 65) rfl (by omega) (by omega) (fun h58 => ?_) (fun h58 => ?_)
                  · refine ww_iconst O dd_MO_bestFor_65 (v := nI 0) rfl ?_
                    refine ww_goto O dd_MO_bestFor_66 (tgt := 80) rfl ?_
                    refine ww_istore O dd_MO_bestFor_80 (by rw [hn]; decide) rfl (L' := [(0, .ref m), (1, .int (nI w)), (2, .int b), (3, .int (nI s)), (4, .int (nI p)), (5, .int (nI r)), (6, .int (nI 0))]) rfl ?_
                    refine ww_iload O dd_MO_bestFor_82 6 rfl ?_
                    refine ww_if_eqN O dd_MO_bestFor_84 (tgt := 93) rfl (by omega) (fun h84 => ?_) (fun h84 => ?_)
                    · refine ww_iinc O dd_MO_bestFor_93 4 rfl (v := nI (p + 1)) (nI_add _ 1) (by rw [hn]; decide) rfl (L' := [(0, .ref m), (1, .int (nI w)), (2, .int b), (3, .int (nI s)), (4, .int (nI (p + 1))), (5, .int (nI r)), (6, .int (nI 0))]) rfl ?_
                      refine ww_goto O dd_MO_bestFor_96 (tgt := 7) rfl ?_
                      rw [if_neg (fun z => by have q := z.2.2; unfold px_bet at q; split at q <;> simp at q <;> omega)] at h4
                      refine ww_sub [0, 1, 2, 3, 4] rfl ?_
                      exact ih (p + 1) _ _ (by omega) (by omega) (by omega) h4
                    · exact absurd rfl h84
                  · refine ww_iconst O dd_MO_bestFor_61 (v := nI 1) rfl ?_
                    refine ww_goto O dd_MO_bestFor_62 (tgt := 80) rfl ?_
                    refine ww_istore O dd_MO_bestFor_80 (by rw [hn]; decide) rfl (L' := [(0, .ref m), (1, .int (nI w)), (2, .int b), (3, .int (nI s)), (4, .int (nI p)), (5, .int (nI r)), (6, .int (nI 1))]) rfl ?_
                    refine ww_iload O dd_MO_bestFor_82 6 rfl ?_
                    refine ww_if_eqN O dd_MO_bestFor_84 (tgt := 93) rfl (by omega) (fun h84 => ?_) (fun h84 => ?_)
                    · exact absurd h84 (by decide)
                    · refine ww_iload O dd_MO_bestFor_87 4 rfl ?_
                      refine ww_istore_n O dd_MO_bestFor_89 (by rw [hn]; decide) rfl (L' := [(0, .ref m), (1, .int (nI w)), (2, .int (nI p)), (3, .int (nI s)), (4, .int (nI p)), (5, .int (nI r)), (6, .int (nI 1))]) rfl ?_
                      refine ww_iload O dd_MO_bestFor_90 5 rfl ?_
                      refine ww_istore_n O dd_MO_bestFor_92 (by rw [hn]; decide) rfl (L' := [(0, .ref m), (1, .int (nI w)), (2, .int (nI p)), (3, .int (nI r)), (4, .int (nI p)), (5, .int (nI r)), (6, .int (nI 1))]) rfl ?_
                      refine ww_iinc O dd_MO_bestFor_93 4 rfl (v := nI (p + 1)) (nI_add _ 1) (by rw [hn]; decide) rfl (L' := [(0, .ref m), (1, .int (nI w)), (2, .int (nI p)), (3, .int (nI r)), (4, .int (nI (p + 1))), (5, .int (nI r)), (6, .int (nI 1))]) rfl ?_
                      refine ww_goto O dd_MO_bestFor_96 (tgt := 7) rfl ?_
                      rw [if_pos ⟨h24, (Or.inr ((ho (p - 1) (by omega)).ge (Int32.not_lt.mp h41))), by unfold px_bet; split <;> simp <;> omega⟩] at h4
                      refine ww_sub [0, 1, 2, 3, 4] rfl ?_
                      exact ih (p + 1) _ _ (by omega) (by omega) (by omega) h4
  refine ww_iconst O dd_MO_bestFor_0 (v := (-1)) rfl ?_
  refine ww_istore_n O dd_MO_bestFor_1 (by rw [hn]; decide) rfl (L' := [(0, .ref m), (1, .int (nI w)), (2, .int (-1))]) rfl ?_
  refine ww_iconst O dd_MO_bestFor_2 (v := nI 0) rfl ?_
  refine ww_istore_n O dd_MO_bestFor_3 (by rw [hn]; decide) rfl (L' := [(0, .ref m), (1, .int (nI w)), (2, .int (-1)), (3, .int (nI 0))]) rfl ?_
  refine ww_iconst O dd_MO_bestFor_4 (v := nI 0) rfl ?_
  refine ww_istore O dd_MO_bestFor_5 (by rw [hn]; decide) rfl (L' := [(0, .ref m), (1, .int (nI w)), (2, .int (-1)), (3, .int (nI 0)), (4, .int (nI 0))]) rfl ?_
  exact loop 80 0 0 (-1) (by omega) (by omega) (by omega) rfl
end
section
theorem px_sub2 (x y z : Int32) : x - y - z = x - (y + z) := by
  rw [Int32.sub_eq_add_neg, Int32.sub_eq_add_neg, Int32.sub_eq_add_neg, Int32.neg_add, Int32.sub_eq_add_neg, Int32.add_assoc]
theorem px_sub3 (s a b : Nat) : nI 80 - nI s - nI a - nI b = nI 80 - nI (s + (a + b)) := by
  rw [px_sub2, px_sub2, nI_add, nI_add]
theorem px_cmp {R M : Nat} (hR : R < 2 ^ 30) (hM : M < 2 ^ 30) : nI R ≤ nI 80 - nI M ↔ R + M ≤ 80 := by
  rw [Int32.le_iff_toInt_le, pk_sub_toInt (by omega) hM, nI_toInt (by omega)]
  omega
theorem px_upd_same {f : Nat → Int32} {b : Nat} {v : Int32} (h : f b = v) : upd f b v = f := by
  funext j
  unfold upd
  split
  · rename_i e; rw [e, h]
  · rfl
theorem px_mr_c {o m b : Nat} {c : Int32} {pl ow : Nat → Int32} (hu : px_un ow c = false) (hb : px_un ow (px_best ow m) = true) : px_mr o m b c pl ow = px_mr o m b (px_best ow m) pl ow := by
  cases m with
  | zero => rfl
  | succ k =>
    rw [px_mr, px_mr, hu, hb]
    rfl
theorem px_mr_u {o n d a : Nat} {c : Int32} {pl ow : Nat → Int32} (h : d < n) (hu : px_un ow c = true) : px_mr o (n - d) (a + d) c pl ow = px_mr o (n - (d + 1)) (a + (d + 1)) (c + 1) (upd pl (a + d) c) (upd ow c.toNatClampNeg (nI (o + (a + d)))) := by
  obtain ⟨k, hk⟩ : ∃ k, n - d = k + 1 := ⟨n - d - 1, by omega⟩
  rw [hk, px_mr, hu, show n - (d + 1) = k by omega]
  simp only [if_true]
  rw [hu]
  rfl
theorem px_ho_upd {ow : Nat → Int32} {p q : Nat} (h : ∀ p, p < 80 → px_rq (ow p)) (hq : q < 240) : ∀ r, r < 80 → px_rq (upd ow p (nI q) r) := by
  intro r hr
  unfold upd
  split
  · exact Or.inr ⟨q, hq, rfl⟩
  · exact h r hr
theorem px_room_upd {ow : Nat → Int32} {p : Nat} {v : Int32} : ∀ {k q : Nat}, p < q → px_room (upd ow p v) k q = px_room ow k q
  | 0, _, _ => rfl
  | k + 1, q, h => by
    rw [px_room, px_room, px_room_upd (show p < q + 1 by omega)]
    have : upd ow p v q = ow q := by unfold upd; rw [if_neg (by omega)]
    rw [this]
theorem px_row {sel : Nat → Bool} {pl ow : Nat → Int32} {b e : Nat} (c : Int32) (h : px_I1 pl ow) (he : e ≤ 240) (hb : b < e) (hn : px_cnt (fun j => px_hole pl j && sel j) b (e - b) ≤ px_nu ow) {r : Nat} (hr : px_er (fun j => px_hole pl j && sel j) (e - b) b = r) :
    b ≤ r ∧ r ≤ e ∧ (∀ j, b ≤ j → j < r → px_hole pl j = true) ∧ r - b ≤ px_nu ow ∧ px_I1 (px_mr 0 (r - b) b c pl ow).1 (px_mr 0 (r - b) b c pl ow).2 ∧ px_cnt (fun j => px_hole (px_mr 0 (r - b) b c pl ow).1 j && sel j) (r + 1) (e - (r + 1)) ≤ px_nu (px_mr 0 (r - b) b c pl ow).2 ∧ (∀ j, r ≤ j → (px_mr 0 (r - b) b c pl ow).1 j = pl j) := by
  have h1 := px_er_le (fun j => px_hole pl j && sel j) (e - b) b
  rw [hr] at h1
  have r3 : ∀ j, b ≤ j → j < r → px_hole pl j = true ∧ sel j = true := by
    intro j h2 h3
    have := px_er_in (P := fun j => px_hole pl j && sel j) (e - b) b j h2 (by omega)
    simpa using this
  have hcs : px_cnt (fun j => px_hole pl j && sel j) b (e - b) = (r - b) + px_cnt (fun j => px_hole pl j && sel j) r (e - r) := by
    rw [show e - b = (r - b) + (e - r) by omega, px_cnt_add, show b + (r - b) = r by omega]
    congr 1
    have h1 : ∀ n, n ≤ r - b → px_cnt (fun j => px_hole pl j && sel j) b n = n := by
      intro n
      induction n with
      | zero => intro _; rfl
      | succ n ih =>
        intro hn'
        have := r3 (b + n) (by omega) (by omega)
        rw [px_cnt, ih (by omega), this.1, this.2]
        rfl
    exact h1 _ (Nat.le_refl _)
  obtain ⟨a1, a2, a3, a4, a5⟩ := px_mr_spec (r - b) b c pl ow h (by omega) (fun j h1 h2 => by have := (r3 j h1 (by omega)).1; simpa [px_hole] using this) (by omega)
  refine ⟨by omega, by omega, fun j h2 h3 => (r3 j h2 h3).1, by omega, a3, ?_, fun j hj => a1 j (by omega)⟩
  generalize (px_mr 0 (r - b) b c pl ow).1 = pl1 at a1 a2 a3 a4 a5 ⊢
  generalize (px_mr 0 (r - b) b c pl ow).2 = ow1 at a3 a4 ⊢
  by_cases hre : r < e
  · have e1 : px_cnt (fun j => px_hole pl j && sel j) r (e - r) = px_cnt (fun j => px_hole pl j && sel j) r 1 + px_cnt (fun j => px_hole pl j && sel j) (r + 1) (e - (r + 1)) := by
      rw [show e - r = 1 + (e - (r + 1)) by omega, px_cnt_add]
    have e2 : px_cnt (fun j => px_hole pl1 j && sel j) (r + 1) (e - (r + 1)) = px_cnt (fun j => px_hole pl j && sel j) (r + 1) (e - (r + 1)) := px_cnt_congr (fun n hn' => by simp only [px_hole]; rw [a1 _ (by omega)])
    omega
  · rw [show e - (r + 1) = 0 by omega]
    exact Nat.zero_le _
theorem px_cand_m {f a : Nat} (h : 60 * f ≤ a) (h2 : a < 60 * f + 60) (pl : Nat → Int32) : px_cand (a == 60 * f) pl a = px_cand (a % 60 == 0) pl a := by
  have : (a == 60 * f) = (a % 60 == 0) := by
    by_cases e : a = 60 * f
    · subst e; simp
    · have h3 : ¬ a % 60 = 0 := by omega
      rw [beq_eq_false_iff_ne.mpr e, beq_eq_false_iff_ne.mpr h3]
  rw [this]
end
section
theorem lc_MO_49 : ww_site "DelayedExtentsModel" 49 yy_MO_extents bb_MO_extents 6 (some .int) 2 := ⟨List.mem_filter.mpr ⟨List.mem_of_getElem? (i := 565) (by decide +kernel), by decide +kernel⟩, List.mem_filter.mpr ⟨List.mem_of_getElem? (i := 562) (by decide +kernel), by decide +kernel⟩, List.mem_filter.mpr ⟨List.mem_of_getElem? (i := 30) (by decide +kernel), by decide +kernel⟩, by decide, by decide, by decide +kernel⟩
theorem lx_MO_extents_II_I : ww_virt yy_MO_extents := ⟨List.mem_filter.mpr ⟨List.mem_of_getElem? (i := 564) (by decide +kernel), by decide +kernel⟩, List.mem_filter.mpr ⟨List.mem_of_getElem? (i := 14) (by decide +kernel), by decide +kernel⟩⟩
theorem lc_MO_53 : ww_site "DelayedExtentsModel" 53 yy_MO_tree bb_MO_tree 1 (some .int) 1 := ⟨List.mem_filter.mpr ⟨List.mem_of_getElem? (i := 572) (by decide +kernel), by decide +kernel⟩, List.mem_filter.mpr ⟨List.mem_of_getElem? (i := 570) (by decide +kernel), by decide +kernel⟩, List.mem_filter.mpr ⟨List.mem_of_getElem? (i := 30) (by decide +kernel), by decide +kernel⟩, by decide, by decide, by decide +kernel⟩
theorem ls_MO_tree_I_I : Cond.static yy_MO_tree ∈ lw_good := List.mem_filter.mpr ⟨List.mem_of_getElem? (i := 571) (by decide +kernel), by decide +kernel⟩
theorem lc_MO_57 : ww_site "DelayedExtentsModel" 57 yy_MO_reservedOf bb_MO_reservedOf 5 (some .int) 1 := ⟨List.mem_filter.mpr ⟨List.mem_of_getElem? (i := 580) (by decide +kernel), by decide +kernel⟩, List.mem_filter.mpr ⟨List.mem_of_getElem? (i := 577) (by decide +kernel), by decide +kernel⟩, List.mem_filter.mpr ⟨List.mem_of_getElem? (i := 30) (by decide +kernel), by decide +kernel⟩, by decide, by decide, by decide +kernel⟩
theorem lx_MO_reservedOf_I_I : ww_virt yy_MO_reservedOf := ⟨List.mem_filter.mpr ⟨List.mem_of_getElem? (i := 579) (by decide +kernel), by decide +kernel⟩, List.mem_filter.mpr ⟨List.mem_of_getElem? (i := 17) (by decide +kernel), by decide +kernel⟩⟩
theorem lc_MO_60 : ww_site "DelayedExtentsModel" 60 yy_MO_mappedOf bb_MO_mappedOf 4 (some .int) 1 := ⟨List.mem_filter.mpr ⟨List.mem_of_getElem? (i := 561) (by decide +kernel), by decide +kernel⟩, List.mem_filter.mpr ⟨List.mem_of_getElem? (i := 558) (by decide +kernel), by decide +kernel⟩, List.mem_filter.mpr ⟨List.mem_of_getElem? (i := 30) (by decide +kernel), by decide +kernel⟩, by decide, by decide, by decide +kernel⟩
theorem lx_MO_mappedOf_I_I : ww_virt yy_MO_mappedOf := ⟨List.mem_filter.mpr ⟨List.mem_of_getElem? (i := 560) (by decide +kernel), by decide +kernel⟩, List.mem_filter.mpr ⟨List.mem_of_getElem? (i := 13) (by decide +kernel), by decide +kernel⟩⟩
theorem lc_MO_70 : ww_site "DelayedExtentsModel" 70 yy_MO_bestFor bb_MO_bestFor 7 (some .int) 1 := ⟨List.mem_filter.mpr ⟨List.mem_of_getElem? (i := 604) (by decide +kernel), by decide +kernel⟩, List.mem_filter.mpr ⟨List.mem_of_getElem? (i := 601) (by decide +kernel), by decide +kernel⟩, List.mem_filter.mpr ⟨List.mem_of_getElem? (i := 30) (by decide +kernel), by decide +kernel⟩, by decide, by decide, by decide +kernel⟩
theorem lx_MO_bestFor_I_I : ww_virt yy_MO_bestFor := ⟨List.mem_filter.mpr ⟨List.mem_of_getElem? (i := 603) (by decide +kernel), by decide +kernel⟩, List.mem_filter.mpr ⟨List.mem_of_getElem? (i := 21) (by decide +kernel), by decide +kernel⟩⟩
theorem lc_MO_66 : ww_site "DelayedExtentsModel" 66 yy_MO_map bb_MO_map 3 none 2 := ⟨List.mem_filter.mpr ⟨List.mem_of_getElem? (i := 600) (by decide +kernel), by decide +kernel⟩, List.mem_filter.mpr ⟨List.mem_of_getElem? (i := 597) (by decide +kernel), by decide +kernel⟩, List.mem_filter.mpr ⟨List.mem_of_getElem? (i := 30) (by decide +kernel), by decide +kernel⟩, by decide, by decide, by decide +kernel⟩
theorem lx_MO_map_II_V : ww_virt yy_MO_map := ⟨List.mem_filter.mpr ⟨List.mem_of_getElem? (i := 599) (by decide +kernel), by decide +kernel⟩, List.mem_filter.mpr ⟨List.mem_of_getElem? (i := 20) (by decide +kernel), by decide +kernel⟩⟩
set_option maxRecDepth 4000 in
theorem cc_MO_reservedOf (l : Launch) (D : va_G) (g : Nat → ClassId) (m : Nat) (a1 : Nat) (a2 : Nat) (a3 : Nat) (a4 : Nat) (a5 : Nat) (a6 : Nat) (a7 : Nat) (a8 : Nat) (cd : Int32) (fi : Int32) (le : Int32) (pl : Nat → Int32) (wr : Nat → Int32) (pg : Nat → Int32) (pv : Nat → Int32) (sz : Nat → Int32) (ow : Nat → Int32) (vl : Nat → Int32) (bf : Nat → Int32) (f : Nat) (hr : ∀ b, b < 240 → px_rg (pl b)) (hf : f < 4) : ww_ct l D g yy_MO_reservedOf bb_MO_reservedOf 5 (some .int) (ww_rm 3) [.ref m, .int (nI f)] [(m, .inr (3, [.int cd, .ref a1, .ref a2, .ref a3, .ref a4, .ref a5, .ref a6, .ref a7, .ref a8, .int fi, .int le])), (a1, .inl (g 0, 240, .inl pl)), (a2, .inl (g 1, 240, .inl wr)), (a3, .inl (g 1, 240, .inl pg)), (a4, .inl (g 0, 240, .inl pv)), (a5, .inl (g 0, 4, .inl sz)), (a6, .inl (g 0, 80, .inl ow)), (a7, .inl (g 0, 80, .inl vl)), (a8, .inl (g 0, 60, .inl bf))] (some (.int (nI (px_res pl wr pg (60 * f))))) [(m, .inr (3, [.int cd, .ref a1, .ref a2, .ref a3, .ref a4, .ref a5, .ref a6, .ref a7, .ref a8, .int ((px_rx pl wr 60 60 (60 * f) 0 0 fi).2.2), .int (nI (px_rx pl wr 60 60 (60 * f) 0 0 fi).2.1)])), (a1, .inl (g 0, 240, .inl pl)), (a2, .inl (g 1, 240, .inl wr)), (a3, .inl (g 1, 240, .inl pg)), (a4, .inl (g 0, 240, .inl pv)), (a5, .inl (g 0, 4, .inl sz)), (a6, .inl (g 0, 80, .inl ow)), (a7, .inl (g 0, 80, .inl vl)), (a8, .inl (g 0, 60, .inl bf))] := by
  refine ww_start (by decide +kernel) rfl rfl (Nat.le_of_ble_eq_true rfl) (L0 := [(0, .ref m), (1, .int (nI f))]) rfl ?_
  intro X O hl hD hg hR hn F
  subst hl hD hg
  have loop : ∀ (k b x y : Nat), 60 * f + 60 ≤ b + k → 60 * f ≤ b → b ≤ 60 * f + 60 → x = px_cnt (fun b => px_on pg b && px_hole pl b) (60 * f) (b - 60 * f) → y = px_cnt (fun b => px_on pg b && (!px_hole pl b && wr b == 0)) (60 * f) (b - 60 * f) → ww_at X 0 0 10 [(0, .ref m), (1, .int (nI f)), (2, .int (nI x)), (3, .int (nI y)), (4, .int (nI b))] [] [(m, .inr (3, [.int cd, .ref a1, .ref a2, .ref a3, .ref a4, .ref a5, .ref a6, .ref a7, .ref a8, .int fi, .int le])), (a1, .inl (ww_g X 0, 240, .inl pl)), (a2, .inl (ww_g X 1, 240, .inl wr)), (a3, .inl (ww_g X 1, 240, .inl pg)), (a4, .inl (ww_g X 0, 240, .inl pv)), (a5, .inl (ww_g X 0, 4, .inl sz)), (a6, .inl (ww_g X 0, 80, .inl ow)), (a7, .inl (ww_g X 0, 80, .inl vl)), (a8, .inl (ww_g X 0, 60, .inl bf))] := by
    intro k
    induction k with
    | zero =>
      intro b x y h1 h2 h2b h3 h4
      have hx2 := px_cnt_le (fun b => px_on pg b && px_hole pl b) (60 * f) (b - 60 * f)
      have hy2 := px_cnt_le (fun b => px_on pg b && (!px_hole pl b && wr b == 0)) (60 * f) (b - 60 * f)
      refine ww_iload O dd_MO_reservedOf_10 4 rfl ?_
      refine ww_bipush O dd_MO_reservedOf_12 (v := nI 60) rfl ?_
      refine ww_iload_n O dd_MO_reservedOf_14 1 rfl ?_
      refine ww_imul O dd_MO_reservedOf_15 (v := nI (60 * f)) (pk_mul _ _) ?_
      refine ww_bipush O dd_MO_reservedOf_16 (v := nI 60) rfl ?_
      refine ww_iadd O dd_MO_reservedOf_18 (v := nI ((60 * f) + 60)) (nI_add _ _) ?_
      refine ww_icmp_geN O dd_MO_reservedOf_19 (tgt := 94) rfl (by omega) (by omega) (fun h19 => ?_) (fun h19 => ?_)
      · have hx9 : x ≤ 60 := by omega
        have hy9 : y ≤ 60 := by omega
        rw [show b - 60 * f = 60 by omega] at h3 h4
        have hx1 : x = px_hh pl pg (60 * f) := h3
        have hy1 : y = px_uu pl wr pg (60 * f) := h4
        have he3 : px_ee pl wr (60 * f) ≤ 60 := px_ex_le pl wr 60 (60 * f) 0
        refine ww_aload_n O dd_MO_reservedOf_94 0 rfl ?_
        refine ww_iload_n O dd_MO_reservedOf_95 1 rfl ?_
        refine ww_bipush O dd_MO_reservedOf_96 (v := nI 60) rfl ?_
        refine ww_callV (q0 := 0) (ci := 3) O (cc_MO_extents _ _ _ m a1 a2 a3 a4 a5 a6 a7 a8 cd fi le pl wr pg pv sz ow vl bf f 60 (by omega) (by omega) (by omega)) lc_MO_49 lx_MO_extents_II_I rfl rfl rfl (by rw [hR]; decide) (by rw [hR]; decide) (by rw [hR]; decide) rfl (Nat.le_of_ble_eq_true rfl) dd_MO_reservedOf_98 rfl [0, 1, 2, 3, 4, 5, 6, 7, 8] [] [0, 1, 2, 3, 4, 5, 6, 7, 8] rfl (by decide) rfl (by decide) (by decide) (ws' := [(m, .inr (3, [.int cd, .ref a1, .ref a2, .ref a3, .ref a4, .ref a5, .ref a6, .ref a7, .ref a8, .int ((px_rx pl wr 60 60 (60 * f) 0 0 fi).2.2), .int (nI (px_rx pl wr 60 60 (60 * f) 0 0 fi).2.1)])), (a1, .inl (ww_g X 0, 240, .inl pl)), (a2, .inl (ww_g X 1, 240, .inl wr)), (a3, .inl (ww_g X 1, 240, .inl pg)), (a4, .inl (ww_g X 0, 240, .inl pv)), (a5, .inl (ww_g X 0, 4, .inl sz)), (a6, .inl (ww_g X 0, 80, .inl ow)), (a7, .inl (ww_g X 0, 80, .inl vl)), (a8, .inl (ww_g X 0, 60, .inl bf))]) rfl rfl (by decide) ?_
        rw [px_rx_60]
        refine ww_istore O dd_MO_reservedOf_101 (by rw [hn]; decide) rfl (L' := [(0, .ref m), (1, .int (nI f)), (2, .int (nI x)), (3, .int (nI y)), (4, .int (nI (px_ee pl wr (60 * f))))]) rfl ?_
        refine ww_iload_n O dd_MO_reservedOf_103 2 rfl ?_
        refine ww_iload O dd_MO_reservedOf_104 4 rfl ?_
        refine ww_iload_n O dd_MO_reservedOf_106 2 rfl ?_
        refine ww_iadd O dd_MO_reservedOf_107 (v := nI ((px_ee pl wr (60 * f)) + x)) (nI_add _ _) ?_
        refine ww_iconst O dd_MO_reservedOf_108 (v := nI 2) rfl ?_
        refine ww_iload_n O dd_MO_reservedOf_109 3 rfl ?_
        refine ww_imul O dd_MO_reservedOf_110 (v := nI (2 * y)) (pk_mul _ _) ?_
        refine ww_iadd O dd_MO_reservedOf_111 (v := nI (((px_ee pl wr (60 * f)) + x) + (2 * y))) (nI_add _ _) ?_
        refine ww_callS O (cc_MO_tree _ _ _ (((px_ee pl wr (60 * f)) + x) + (2 * y)) (by omega)) lc_MO_53 ls_MO_tree_I_I (by rw [hR]; decide) (by rw [hR]; decide) (by rw [hR]; decide) rfl (Nat.le_of_ble_eq_true rfl) dd_MO_reservedOf_112 rfl [] [0, 1, 2, 3, 4, 5, 6, 7, 8] [0, 1, 2, 3, 4, 5, 6, 7, 8] rfl (by decide) rfl (by decide) (by decide) (ws' := [(m, .inr (3, [.int cd, .ref a1, .ref a2, .ref a3, .ref a4, .ref a5, .ref a6, .ref a7, .ref a8, .int ((px_rx pl wr 60 60 (60 * f) 0 0 fi).2.2), .int (nI (px_rx pl wr 60 60 (60 * f) 0 0 fi).2.1)])), (a1, .inl (ww_g X 0, 240, .inl pl)), (a2, .inl (ww_g X 1, 240, .inl wr)), (a3, .inl (ww_g X 1, 240, .inl pg)), (a4, .inl (ww_g X 0, 240, .inl pv)), (a5, .inl (ww_g X 0, 4, .inl sz)), (a6, .inl (ww_g X 0, 80, .inl ow)), (a7, .inl (ww_g X 0, 80, .inl vl)), (a8, .inl (ww_g X 0, 60, .inl bf))]) rfl rfl (by decide) ?_
        refine ww_iadd O dd_MO_reservedOf_115 (v := nI (x + (px_tree (((px_ee pl wr (60 * f)) + x) + (2 * y))))) (nI_add _ _) ?_
        refine ww_iload O dd_MO_reservedOf_116 4 rfl ?_
        refine ww_callS O (cc_MO_tree _ _ _ (px_ee pl wr (60 * f)) (by omega)) lc_MO_53 ls_MO_tree_I_I (by rw [hR]; decide) (by rw [hR]; decide) (by rw [hR]; decide) rfl (Nat.le_of_ble_eq_true rfl) dd_MO_reservedOf_118 rfl [] [0, 1, 2, 3, 4, 5, 6, 7, 8] [0, 1, 2, 3, 4, 5, 6, 7, 8] rfl (by decide) rfl (by decide) (by decide) (ws' := [(m, .inr (3, [.int cd, .ref a1, .ref a2, .ref a3, .ref a4, .ref a5, .ref a6, .ref a7, .ref a8, .int ((px_rx pl wr 60 60 (60 * f) 0 0 fi).2.2), .int (nI (px_rx pl wr 60 60 (60 * f) 0 0 fi).2.1)])), (a1, .inl (ww_g X 0, 240, .inl pl)), (a2, .inl (ww_g X 1, 240, .inl wr)), (a3, .inl (ww_g X 1, 240, .inl pg)), (a4, .inl (ww_g X 0, 240, .inl pv)), (a5, .inl (ww_g X 0, 4, .inl sz)), (a6, .inl (ww_g X 0, 80, .inl ow)), (a7, .inl (ww_g X 0, 80, .inl vl)), (a8, .inl (ww_g X 0, 60, .inl bf))]) rfl rfl (by decide) ?_
        have ht := px_tree_mono (show px_ee pl wr (60 * f) ≤ px_ee pl wr (60 * f) + x + 2 * y by omega)
        refine ww_isub O dd_MO_reservedOf_121 (v := nI ((x + (px_tree (((px_ee pl wr (60 * f)) + x) + (2 * y)))) - (px_tree (px_ee pl wr (60 * f))))) (pk_sub (by omega)) ?_
        rw [show px_res pl wr pg (60 * f) = ((x + (px_tree (((px_ee pl wr (60 * f)) + x) + (2 * y)))) - (px_tree (px_ee pl wr (60 * f)))) from by unfold px_res; rw [← hx1, ← hy1]] at F
        exact F.i dd_MO_reservedOf_122
      · exfalso; omega
    | succ k ih =>
      intro b x y h1 h2 h2b h3 h4
      have hx2 := px_cnt_le (fun b => px_on pg b && px_hole pl b) (60 * f) (b - 60 * f)
      have hy2 := px_cnt_le (fun b => px_on pg b && (!px_hole pl b && wr b == 0)) (60 * f) (b - 60 * f)
      refine ww_iload O dd_MO_reservedOf_10 4 rfl ?_
      refine ww_bipush O dd_MO_reservedOf_12 (v := nI 60) rfl ?_
      refine ww_iload_n O dd_MO_reservedOf_14 1 rfl ?_
      refine ww_imul O dd_MO_reservedOf_15 (v := nI (60 * f)) (pk_mul _ _) ?_
      refine ww_bipush O dd_MO_reservedOf_16 (v := nI 60) rfl ?_
      refine ww_iadd O dd_MO_reservedOf_18 (v := nI ((60 * f) + 60)) (nI_add _ _) ?_
      refine ww_icmp_geN O dd_MO_reservedOf_19 (tgt := 94) rfl (by omega) (by omega) (fun h19 => ?_) (fun h19 => ?_)
      · have hx9 : x ≤ 60 := by omega
        have hy9 : y ≤ 60 := by omega
        rw [show b - 60 * f = 60 by omega] at h3 h4
        have hx1 : x = px_hh pl pg (60 * f) := h3
        have hy1 : y = px_uu pl wr pg (60 * f) := h4
        have he3 : px_ee pl wr (60 * f) ≤ 60 := px_ex_le pl wr 60 (60 * f) 0
        refine ww_aload_n O dd_MO_reservedOf_94 0 rfl ?_
        refine ww_iload_n O dd_MO_reservedOf_95 1 rfl ?_
        refine ww_bipush O dd_MO_reservedOf_96 (v := nI 60) rfl ?_
        refine ww_callV (q0 := 0) (ci := 3) O (cc_MO_extents _ _ _ m a1 a2 a3 a4 a5 a6 a7 a8 cd fi le pl wr pg pv sz ow vl bf f 60 (by omega) (by omega) (by omega)) lc_MO_49 lx_MO_extents_II_I rfl rfl rfl (by rw [hR]; decide) (by rw [hR]; decide) (by rw [hR]; decide) rfl (Nat.le_of_ble_eq_true rfl) dd_MO_reservedOf_98 rfl [0, 1, 2, 3, 4, 5, 6, 7, 8] [] [0, 1, 2, 3, 4, 5, 6, 7, 8] rfl (by decide) rfl (by decide) (by decide) (ws' := [(m, .inr (3, [.int cd, .ref a1, .ref a2, .ref a3, .ref a4, .ref a5, .ref a6, .ref a7, .ref a8, .int ((px_rx pl wr 60 60 (60 * f) 0 0 fi).2.2), .int (nI (px_rx pl wr 60 60 (60 * f) 0 0 fi).2.1)])), (a1, .inl (ww_g X 0, 240, .inl pl)), (a2, .inl (ww_g X 1, 240, .inl wr)), (a3, .inl (ww_g X 1, 240, .inl pg)), (a4, .inl (ww_g X 0, 240, .inl pv)), (a5, .inl (ww_g X 0, 4, .inl sz)), (a6, .inl (ww_g X 0, 80, .inl ow)), (a7, .inl (ww_g X 0, 80, .inl vl)), (a8, .inl (ww_g X 0, 60, .inl bf))]) rfl rfl (by decide) ?_
        rw [px_rx_60]
        refine ww_istore O dd_MO_reservedOf_101 (by rw [hn]; decide) rfl (L' := [(0, .ref m), (1, .int (nI f)), (2, .int (nI x)), (3, .int (nI y)), (4, .int (nI (px_ee pl wr (60 * f))))]) rfl ?_
        refine ww_iload_n O dd_MO_reservedOf_103 2 rfl ?_
        refine ww_iload O dd_MO_reservedOf_104 4 rfl ?_
        refine ww_iload_n O dd_MO_reservedOf_106 2 rfl ?_
        refine ww_iadd O dd_MO_reservedOf_107 (v := nI ((px_ee pl wr (60 * f)) + x)) (nI_add _ _) ?_
        refine ww_iconst O dd_MO_reservedOf_108 (v := nI 2) rfl ?_
        refine ww_iload_n O dd_MO_reservedOf_109 3 rfl ?_
        refine ww_imul O dd_MO_reservedOf_110 (v := nI (2 * y)) (pk_mul _ _) ?_
        refine ww_iadd O dd_MO_reservedOf_111 (v := nI (((px_ee pl wr (60 * f)) + x) + (2 * y))) (nI_add _ _) ?_
        refine ww_callS O (cc_MO_tree _ _ _ (((px_ee pl wr (60 * f)) + x) + (2 * y)) (by omega)) lc_MO_53 ls_MO_tree_I_I (by rw [hR]; decide) (by rw [hR]; decide) (by rw [hR]; decide) rfl (Nat.le_of_ble_eq_true rfl) dd_MO_reservedOf_112 rfl [] [0, 1, 2, 3, 4, 5, 6, 7, 8] [0, 1, 2, 3, 4, 5, 6, 7, 8] rfl (by decide) rfl (by decide) (by decide) (ws' := [(m, .inr (3, [.int cd, .ref a1, .ref a2, .ref a3, .ref a4, .ref a5, .ref a6, .ref a7, .ref a8, .int ((px_rx pl wr 60 60 (60 * f) 0 0 fi).2.2), .int (nI (px_rx pl wr 60 60 (60 * f) 0 0 fi).2.1)])), (a1, .inl (ww_g X 0, 240, .inl pl)), (a2, .inl (ww_g X 1, 240, .inl wr)), (a3, .inl (ww_g X 1, 240, .inl pg)), (a4, .inl (ww_g X 0, 240, .inl pv)), (a5, .inl (ww_g X 0, 4, .inl sz)), (a6, .inl (ww_g X 0, 80, .inl ow)), (a7, .inl (ww_g X 0, 80, .inl vl)), (a8, .inl (ww_g X 0, 60, .inl bf))]) rfl rfl (by decide) ?_
        refine ww_iadd O dd_MO_reservedOf_115 (v := nI (x + (px_tree (((px_ee pl wr (60 * f)) + x) + (2 * y))))) (nI_add _ _) ?_
        refine ww_iload O dd_MO_reservedOf_116 4 rfl ?_
        refine ww_callS O (cc_MO_tree _ _ _ (px_ee pl wr (60 * f)) (by omega)) lc_MO_53 ls_MO_tree_I_I (by rw [hR]; decide) (by rw [hR]; decide) (by rw [hR]; decide) rfl (Nat.le_of_ble_eq_true rfl) dd_MO_reservedOf_118 rfl [] [0, 1, 2, 3, 4, 5, 6, 7, 8] [0, 1, 2, 3, 4, 5, 6, 7, 8] rfl (by decide) rfl (by decide) (by decide) (ws' := [(m, .inr (3, [.int cd, .ref a1, .ref a2, .ref a3, .ref a4, .ref a5, .ref a6, .ref a7, .ref a8, .int ((px_rx pl wr 60 60 (60 * f) 0 0 fi).2.2), .int (nI (px_rx pl wr 60 60 (60 * f) 0 0 fi).2.1)])), (a1, .inl (ww_g X 0, 240, .inl pl)), (a2, .inl (ww_g X 1, 240, .inl wr)), (a3, .inl (ww_g X 1, 240, .inl pg)), (a4, .inl (ww_g X 0, 240, .inl pv)), (a5, .inl (ww_g X 0, 4, .inl sz)), (a6, .inl (ww_g X 0, 80, .inl ow)), (a7, .inl (ww_g X 0, 80, .inl vl)), (a8, .inl (ww_g X 0, 60, .inl bf))]) rfl rfl (by decide) ?_
        have ht := px_tree_mono (show px_ee pl wr (60 * f) ≤ px_ee pl wr (60 * f) + x + 2 * y by omega)
        refine ww_isub O dd_MO_reservedOf_121 (v := nI ((x + (px_tree (((px_ee pl wr (60 * f)) + x) + (2 * y)))) - (px_tree (px_ee pl wr (60 * f))))) (pk_sub (by omega)) ?_
        rw [show px_res pl wr pg (60 * f) = ((x + (px_tree (((px_ee pl wr (60 * f)) + x) + (2 * y)))) - (px_tree (px_ee pl wr (60 * f)))) from by unfold px_res; rw [← hx1, ← hy1]] at F
        exact F.i dd_MO_reservedOf_122
      · refine ww_aload_n O dd_MO_reservedOf_22 0 rfl ?_
        refine ww_get O ci_MO rfl 3 (by decide) lf_MO_17 rfl dd_MO_reservedOf_23 0 rfl rfl ?_
        refine ww_iload O dd_MO_reservedOf_26 4 rfl ?_
        refine ww_zald O dd_MO_reservedOf_28 3 rfl (by omega) (by decide) rfl ?_
        refine ww_if_eq O dd_MO_reservedOf_29 (tgt := 48) rfl (fun h29 => ?_) (fun h29 => ?_)
        · refine ww_iload_n O dd_MO_reservedOf_48 2 rfl ?_
          refine ww_istore_n O dd_MO_reservedOf_49 (by rw [hn]; decide) rfl (L' := [(0, .ref m), (1, .int (nI f)), (2, .int (nI x)), (3, .int (nI y)), (4, .int (nI b))]) rfl ?_
          refine ww_aload_n O dd_MO_reservedOf_50 0 rfl ?_
          refine ww_get O ci_MO rfl 3 (by decide) lf_MO_17 rfl dd_MO_reservedOf_51 0 rfl rfl ?_
          refine ww_iload O dd_MO_reservedOf_54 4 rfl ?_
          refine ww_zald O dd_MO_reservedOf_56 3 rfl (by omega) (by decide) rfl ?_
          refine ww_if_eq O dd_MO_reservedOf_57 (tgt := 86) rfl (fun h57 => ?_) (fun h57 => ?_)
          · refine ww_iload_n O dd_MO_reservedOf_86 3 rfl ?_
            refine ww_istore_n O dd_MO_reservedOf_87 (by rw [hn]; decide) rfl (L' := [(0, .ref m), (1, .int (nI f)), (2, .int (nI x)), (3, .int (nI y)), (4, .int (nI b))]) rfl ?_
            refine ww_iinc O dd_MO_reservedOf_88 4 rfl (v := nI (b + 1)) (nI_add _ 1) (by rw [hn]; decide) rfl (L' := [(0, .ref m), (1, .int (nI f)), (2, .int (nI x)), (3, .int (nI y)), (4, .int (nI (b + 1)))]) rfl ?_
            refine ww_goto O dd_MO_reservedOf_91 (tgt := 10) rfl ?_
            exact ih (b + 1) x y (by omega) (by omega) (by omega) (px_caf h2 h3 (by simp [px_on, h29])) (px_caf h2 h4 (by simp [px_on, h29]))
          · exact absurd h29 h57
        · refine ww_aload_n O dd_MO_reservedOf_32 0 rfl ?_
          refine ww_get O ci_MO rfl 1 (by decide) lf_MO_7 rfl dd_MO_reservedOf_33 0 rfl rfl ?_
          refine ww_iload O dd_MO_reservedOf_36 4 rfl ?_
          refine ww_iald O dd_MO_reservedOf_38 1 rfl (by omega) (by decide) rfl ?_
          refine ww_if_ge O dd_MO_reservedOf_39 (tgt := 48) rfl (fun h39 => ?_) (fun h39 => ?_)
          · refine ww_iload_n O dd_MO_reservedOf_48 2 rfl ?_
            refine ww_istore_n O dd_MO_reservedOf_49 (by rw [hn]; decide) rfl (L' := [(0, .ref m), (1, .int (nI f)), (2, .int (nI x)), (3, .int (nI y)), (4, .int (nI b))]) rfl ?_
            refine ww_aload_n O dd_MO_reservedOf_50 0 rfl ?_
            refine ww_get O ci_MO rfl 3 (by decide) lf_MO_17 rfl dd_MO_reservedOf_51 0 rfl rfl ?_
            refine ww_iload O dd_MO_reservedOf_54 4 rfl ?_
            refine ww_zald O dd_MO_reservedOf_56 3 rfl (by omega) (by decide) rfl ?_
            refine ww_if_eq O dd_MO_reservedOf_57 (tgt := 86) rfl (fun h57 => ?_) (fun h57 => ?_)
            · exact absurd h57 h29
            · refine ww_aload_n O dd_MO_reservedOf_60 0 rfl ?_
              refine ww_get O ci_MO rfl 1 (by decide) lf_MO_7 rfl dd_MO_reservedOf_61 0 rfl rfl ?_
              refine ww_iload O dd_MO_reservedOf_64 4 rfl ?_
              refine ww_iald O dd_MO_reservedOf_66 1 rfl (by omega) (by decide) rfl ?_
              refine ww_if_lt O dd_MO_reservedOf_67 (tgt := 86) rfl (fun h67 => ?_) (fun h67 => ?_)
              · exact absurd h67 (Int32.not_lt.mpr h39)
              · refine ww_aload_n O dd_MO_reservedOf_70 0 rfl ?_
                refine ww_get O ci_MO rfl 2 (by decide) lf_MO_13 rfl dd_MO_reservedOf_71 0 rfl rfl ?_
                refine ww_iload O dd_MO_reservedOf_74 4 rfl ?_
                refine ww_zald O dd_MO_reservedOf_76 2 rfl (by omega) (by decide) rfl ?_
                refine ww_if_ne O dd_MO_reservedOf_77 (tgt := 86) rfl (fun h77 => ?_) (fun h77 => ?_)
                · refine ww_iload_n O dd_MO_reservedOf_86 3 rfl ?_
                  refine ww_istore_n O dd_MO_reservedOf_87 (by rw [hn]; decide) rfl (L' := [(0, .ref m), (1, .int (nI f)), (2, .int (nI x)), (3, .int (nI y)), (4, .int (nI b))]) rfl ?_
                  refine ww_iinc O dd_MO_reservedOf_88 4 rfl (v := nI (b + 1)) (nI_add _ 1) (by rw [hn]; decide) rfl (L' := [(0, .ref m), (1, .int (nI f)), (2, .int (nI x)), (3, .int (nI y)), (4, .int (nI (b + 1)))]) rfl ?_
                  refine ww_goto O dd_MO_reservedOf_91 (tgt := 10) rfl ?_
                  exact ih (b + 1) x y (by omega) (by omega) (by omega) (px_caf h2 h3 (by simp [px_on, h29, (hr b (by omega)).ge0 h39, h77])) (px_caf h2 h4 (by simp [px_on, h29, (hr b (by omega)).ge0 h39, h77]))
                · refine ww_iload_n O dd_MO_reservedOf_80 3 rfl ?_
                  refine ww_iconst O dd_MO_reservedOf_81 (v := nI 1) rfl ?_
                  refine ww_iadd O dd_MO_reservedOf_82 (v := nI (y + 1)) (nI_add _ _) ?_
                  refine ww_goto O dd_MO_reservedOf_83 (tgt := 87) rfl ?_
                  refine ww_istore_n O dd_MO_reservedOf_87 (by rw [hn]; decide) rfl (L' := [(0, .ref m), (1, .int (nI f)), (2, .int (nI x)), (3, .int (nI (y + 1))), (4, .int (nI b))]) rfl ?_
                  refine ww_iinc O dd_MO_reservedOf_88 4 rfl (v := nI (b + 1)) (nI_add _ 1) (by rw [hn]; decide) rfl (L' := [(0, .ref m), (1, .int (nI f)), (2, .int (nI x)), (3, .int (nI (y + 1))), (4, .int (nI (b + 1)))]) rfl ?_
                  refine ww_goto O dd_MO_reservedOf_91 (tgt := 10) rfl ?_
                  exact ih (b + 1) x (y + 1) (by omega) (by omega) (by omega) (px_caf h2 h3 (by simp [px_on, h29, (hr b (by omega)).ge0 h39, h77])) (px_cat h2 h4 (by simp [px_on, h29, (hr b (by omega)).ge0 h39, h77]))
          · refine ww_iload_n O dd_MO_reservedOf_42 2 rfl ?_
            refine ww_iconst O dd_MO_reservedOf_43 (v := nI 1) rfl ?_
            refine ww_iadd O dd_MO_reservedOf_44 (v := nI (x + 1)) (nI_add _ _) ?_
            refine ww_goto O dd_MO_reservedOf_45 (tgt := 49) rfl ?_
            refine ww_istore_n O dd_MO_reservedOf_49 (by rw [hn]; decide) rfl (L' := [(0, .ref m), (1, .int (nI f)), (2, .int (nI (x + 1))), (3, .int (nI y)), (4, .int (nI b))]) rfl ?_
            refine ww_aload_n O dd_MO_reservedOf_50 0 rfl ?_
            refine ww_get O ci_MO rfl 3 (by decide) lf_MO_17 rfl dd_MO_reservedOf_51 0 rfl rfl ?_
            refine ww_iload O dd_MO_reservedOf_54 4 rfl ?_
            refine ww_zald O dd_MO_reservedOf_56 3 rfl (by omega) (by decide) rfl ?_
            refine ww_if_eq O dd_MO_reservedOf_57 (tgt := 86) rfl (fun h57 => ?_) (fun h57 => ?_)
            · exact absurd h57 h29
            · refine ww_aload_n O dd_MO_reservedOf_60 0 rfl ?_
              refine ww_get O ci_MO rfl 1 (by decide) lf_MO_7 rfl dd_MO_reservedOf_61 0 rfl rfl ?_
              refine ww_iload O dd_MO_reservedOf_64 4 rfl ?_
              refine ww_iald O dd_MO_reservedOf_66 1 rfl (by omega) (by decide) rfl ?_
              refine ww_if_lt O dd_MO_reservedOf_67 (tgt := 86) rfl (fun h67 => ?_) (fun h67 => ?_)
              · refine ww_iload_n O dd_MO_reservedOf_86 3 rfl ?_
                refine ww_istore_n O dd_MO_reservedOf_87 (by rw [hn]; decide) rfl (L' := [(0, .ref m), (1, .int (nI f)), (2, .int (nI (x + 1))), (3, .int (nI y)), (4, .int (nI b))]) rfl ?_
                refine ww_iinc O dd_MO_reservedOf_88 4 rfl (v := nI (b + 1)) (nI_add _ 1) (by rw [hn]; decide) rfl (L' := [(0, .ref m), (1, .int (nI f)), (2, .int (nI (x + 1))), (3, .int (nI y)), (4, .int (nI (b + 1)))]) rfl ?_
                refine ww_goto O dd_MO_reservedOf_91 (tgt := 10) rfl ?_
                exact ih (b + 1) (x + 1) y (by omega) (by omega) (by omega) (px_cat h2 h3 (by simp [px_on, h29, (hr b (by omega)).lt0 h39])) (px_caf h2 h4 (by simp [px_on, h29, (hr b (by omega)).lt0 h39]))
              · exact absurd (Int32.not_lt.mp h67) h39
  refine ww_iconst O dd_MO_reservedOf_0 (v := nI 0) rfl ?_
  refine ww_istore_n O dd_MO_reservedOf_1 (by rw [hn]; decide) rfl (L' := [(0, .ref m), (1, .int (nI f)), (2, .int (nI 0))]) rfl ?_
  refine ww_iconst O dd_MO_reservedOf_2 (v := nI 0) rfl ?_
  refine ww_istore_n O dd_MO_reservedOf_3 (by rw [hn]; decide) rfl (L' := [(0, .ref m), (1, .int (nI f)), (2, .int (nI 0)), (3, .int (nI 0))]) rfl ?_
  refine ww_bipush O dd_MO_reservedOf_4 (v := nI 60) rfl ?_
  refine ww_iload_n O dd_MO_reservedOf_6 1 rfl ?_
  refine ww_imul O dd_MO_reservedOf_7 (v := nI (60 * f)) (pk_mul _ _) ?_
  refine ww_istore O dd_MO_reservedOf_8 (by rw [hn]; decide) rfl (L' := [(0, .ref m), (1, .int (nI f)), (2, .int (nI 0)), (3, .int (nI 0)), (4, .int (nI (60 * f)))]) rfl ?_
  exact loop 60 (60 * f) 0 0 (by omega) (by omega) (by omega) (by rw [Nat.sub_self]; rfl) (by rw [Nat.sub_self]; rfl)
set_option maxRecDepth 4000 in
theorem cc_MO_allReserved (l : Launch) (D : va_G) (g : Nat → ClassId) (m : Nat) (a1 : Nat) (a2 : Nat) (a3 : Nat) (a4 : Nat) (a5 : Nat) (a6 : Nat) (a7 : Nat) (a8 : Nat) (cd : Int32) (fi : Int32) (le : Int32) (pl : Nat → Int32) (wr : Nat → Int32) (pg : Nat → Int32) (pv : Nat → Int32) (sz : Nat → Int32) (ow : Nat → Int32) (vl : Nat → Int32) (bf : Nat → Int32) (hr : ∀ b, b < 240 → px_rg (pl b)) : ww_ct l D g yy_MO_allReserved bb_MO_allReserved 3 (some .int) (ww_rm 4) [.ref m] [(m, .inr (3, [.int cd, .ref a1, .ref a2, .ref a3, .ref a4, .ref a5, .ref a6, .ref a7, .ref a8, .int fi, .int le])), (a1, .inl (g 0, 240, .inl pl)), (a2, .inl (g 1, 240, .inl wr)), (a3, .inl (g 1, 240, .inl pg)), (a4, .inl (g 0, 240, .inl pv)), (a5, .inl (g 0, 4, .inl sz)), (a6, .inl (g 0, 80, .inl ow)), (a7, .inl (g 0, 80, .inl vl)), (a8, .inl (g 0, 60, .inl bf))] (some (.int (nI (px_sum (fun k => px_res pl wr pg (60 * k)) 4)))) [(m, .inr (3, [.int cd, .ref a1, .ref a2, .ref a3, .ref a4, .ref a5, .ref a6, .ref a7, .ref a8, .int ((px_xs pl wr le fi 4).2), .int ((px_xs pl wr le fi 4).1)])), (a1, .inl (g 0, 240, .inl pl)), (a2, .inl (g 1, 240, .inl wr)), (a3, .inl (g 1, 240, .inl pg)), (a4, .inl (g 0, 240, .inl pv)), (a5, .inl (g 0, 4, .inl sz)), (a6, .inl (g 0, 80, .inl ow)), (a7, .inl (g 0, 80, .inl vl)), (a8, .inl (g 0, 60, .inl bf))] := by
  refine ww_start (by decide +kernel) rfl rfl (Nat.le_of_ble_eq_true rfl) (L0 := [(0, .ref m)]) rfl ?_
  intro X O hl hD hg hR hn F
  subst hl hD hg
  have loop : ∀ (k f n : Nat), 4 ≤ f + k → f ≤ 4 → n = px_sum (fun k => px_res pl wr pg (60 * k)) f → ww_at X 0 0 4 [(0, .ref m), (1, .int (nI n)), (2, .int (nI f))] [] [(m, .inr (3, [.int cd, .ref a1, .ref a2, .ref a3, .ref a4, .ref a5, .ref a6, .ref a7, .ref a8, .int ((px_xs pl wr le fi f).2), .int ((px_xs pl wr le fi f).1)])), (a1, .inl (ww_g X 0, 240, .inl pl)), (a2, .inl (ww_g X 1, 240, .inl wr)), (a3, .inl (ww_g X 1, 240, .inl pg)), (a4, .inl (ww_g X 0, 240, .inl pv)), (a5, .inl (ww_g X 0, 4, .inl sz)), (a6, .inl (ww_g X 0, 80, .inl ow)), (a7, .inl (ww_g X 0, 80, .inl vl)), (a8, .inl (ww_g X 0, 60, .inl bf))] := by
    intro k
    induction k with
    | zero =>
      intro f n h1 h2 h3
      have hs := px_sum_le (f := (fun k => px_res pl wr pg (60 * k))) (fun k => px_res_le pl wr pg (60 * k)) f
      refine ww_iload_n O dd_MO_allReserved_4 2 rfl ?_
      refine ww_iconst O dd_MO_allReserved_5 (v := nI 4) rfl ?_
      refine ww_icmp_geN O dd_MO_allReserved_6 (tgt := 23) rfl (by omega) (by omega) (fun h6 => ?_) (fun h6 => ?_)
      · refine ww_iload_n O dd_MO_allReserved_23 1 rfl ?_
        have ef : f = 4 := by omega
        subst ef
        subst h3
        exact F.i dd_MO_allReserved_24
      · exfalso; omega
    | succ k ih =>
      intro f n h1 h2 h3
      have hs := px_sum_le (f := (fun k => px_res pl wr pg (60 * k))) (fun k => px_res_le pl wr pg (60 * k)) f
      refine ww_iload_n O dd_MO_allReserved_4 2 rfl ?_
      refine ww_iconst O dd_MO_allReserved_5 (v := nI 4) rfl ?_
      refine ww_icmp_geN O dd_MO_allReserved_6 (tgt := 23) rfl (by omega) (by omega) (fun h6 => ?_) (fun h6 => ?_)
      · refine ww_iload_n O dd_MO_allReserved_23 1 rfl ?_
        have ef : f = 4 := by omega
        subst ef
        subst h3
        exact F.i dd_MO_allReserved_24
      · refine ww_iload_n O dd_MO_allReserved_9 1 rfl ?_
        refine ww_aload_n O dd_MO_allReserved_10 0 rfl ?_
        refine ww_iload_n O dd_MO_allReserved_11 2 rfl ?_
        refine ww_callV (q0 := 0) (ci := 3) O (cc_MO_reservedOf _ _ _ m a1 a2 a3 a4 a5 a6 a7 a8 cd ((px_xs pl wr le fi f).2) ((px_xs pl wr le fi f).1) pl wr pg pv sz ow vl bf f (by omega) (by omega)) lc_MO_57 lx_MO_reservedOf_I_I rfl rfl rfl (by rw [hR]; decide) (by rw [hR]; decide) (by rw [hR]; decide) rfl (Nat.le_of_ble_eq_true rfl) dd_MO_allReserved_12 rfl [0, 1, 2, 3, 4, 5, 6, 7, 8] [] [0, 1, 2, 3, 4, 5, 6, 7, 8] rfl (by decide) rfl (by decide) (by decide) (ws' := [(m, .inr (3, [.int cd, .ref a1, .ref a2, .ref a3, .ref a4, .ref a5, .ref a6, .ref a7, .ref a8, .int ((px_rx pl wr 60 60 (60 * f) 0 0 ((px_xs pl wr le fi f).2)).2.2), .int (nI (px_rx pl wr 60 60 (60 * f) 0 0 ((px_xs pl wr le fi f).2)).2.1)])), (a1, .inl (ww_g X 0, 240, .inl pl)), (a2, .inl (ww_g X 1, 240, .inl wr)), (a3, .inl (ww_g X 1, 240, .inl pg)), (a4, .inl (ww_g X 0, 240, .inl pv)), (a5, .inl (ww_g X 0, 4, .inl sz)), (a6, .inl (ww_g X 0, 80, .inl ow)), (a7, .inl (ww_g X 0, 80, .inl vl)), (a8, .inl (ww_g X 0, 60, .inl bf))]) rfl rfl (by decide) ?_
        refine ww_iadd O dd_MO_allReserved_15 (v := nI (n + (px_res pl wr pg (60 * f)))) (nI_add _ _) ?_
        refine ww_istore_n O dd_MO_allReserved_16 (by rw [hn]; decide) rfl (L' := [(0, .ref m), (1, .int (nI (n + (px_res pl wr pg (60 * f))))), (2, .int (nI f))]) rfl ?_
        refine ww_iinc O dd_MO_allReserved_17 2 rfl (v := nI (f + 1)) (nI_add _ 1) (by rw [hn]; decide) rfl (L' := [(0, .ref m), (1, .int (nI (n + (px_res pl wr pg (60 * f))))), (2, .int (nI (f + 1)))]) rfl ?_
        refine ww_goto O dd_MO_allReserved_20 (tgt := 4) rfl ?_
        exact ih (f + 1) _ (by omega) (by omega) (by rw [px_sum, h3])
  refine ww_iconst O dd_MO_allReserved_0 (v := nI 0) rfl ?_
  refine ww_istore_n O dd_MO_allReserved_1 (by rw [hn]; decide) rfl (L' := [(0, .ref m), (1, .int (nI 0))]) rfl ?_
  refine ww_iconst O dd_MO_allReserved_2 (v := nI 0) rfl ?_
  refine ww_istore_n O dd_MO_allReserved_3 (by rw [hn]; decide) rfl (L' := [(0, .ref m), (1, .int (nI 0)), (2, .int (nI 0))]) rfl ?_
  exact loop 4 0 0 (by omega) (by omega) rfl
set_option maxRecDepth 4000 in
theorem cc_MO_allFree (l : Launch) (D : va_G) (g : Nat → ClassId) (m : Nat) (a1 : Nat) (a2 : Nat) (a3 : Nat) (a4 : Nat) (a5 : Nat) (a6 : Nat) (a7 : Nat) (a8 : Nat) (cd : Int32) (fi : Int32) (le : Int32) (pl : Nat → Int32) (wr : Nat → Int32) (pg : Nat → Int32) (pv : Nat → Int32) (sz : Nat → Int32) (ow : Nat → Int32) (vl : Nat → Int32) (bf : Nat → Int32) (hr : ∀ b, b < 240 → px_rg (pl b)) : ww_ct l D g yy_MO_allFree bb_MO_allFree 3 (some .int) (ww_rm 4) [.ref m] [(m, .inr (3, [.int cd, .ref a1, .ref a2, .ref a3, .ref a4, .ref a5, .ref a6, .ref a7, .ref a8, .int fi, .int le])), (a1, .inl (g 0, 240, .inl pl)), (a2, .inl (g 1, 240, .inl wr)), (a3, .inl (g 1, 240, .inl pg)), (a4, .inl (g 0, 240, .inl pv)), (a5, .inl (g 0, 4, .inl sz)), (a6, .inl (g 0, 80, .inl ow)), (a7, .inl (g 0, 80, .inl vl)), (a8, .inl (g 0, 60, .inl bf))] (some (.int (nI 80 - nI (px_sum (fun k => px_mt pl wr (60 * k)) 4)))) [(m, .inr (3, [.int cd, .ref a1, .ref a2, .ref a3, .ref a4, .ref a5, .ref a6, .ref a7, .ref a8, .int ((px_xs pl wr le fi 4).2), .int ((px_xs pl wr le fi 4).1)])), (a1, .inl (g 0, 240, .inl pl)), (a2, .inl (g 1, 240, .inl wr)), (a3, .inl (g 1, 240, .inl pg)), (a4, .inl (g 0, 240, .inl pv)), (a5, .inl (g 0, 4, .inl sz)), (a6, .inl (g 0, 80, .inl ow)), (a7, .inl (g 0, 80, .inl vl)), (a8, .inl (g 0, 60, .inl bf))] := by
  refine ww_start (by decide +kernel) rfl rfl (Nat.le_of_ble_eq_true rfl) (L0 := [(0, .ref m)]) rfl ?_
  intro X O hl hD hg hR hn F
  subst hl hD hg
  have loop : ∀ (k f n : Nat), 4 ≤ f + k → f ≤ 4 → n = px_sum (fun k => px_mt pl wr (60 * k)) f → ww_at X 0 0 5 [(0, .ref m), (1, .int (nI 80 - nI n)), (2, .int (nI f))] [] [(m, .inr (3, [.int cd, .ref a1, .ref a2, .ref a3, .ref a4, .ref a5, .ref a6, .ref a7, .ref a8, .int ((px_xs pl wr le fi f).2), .int ((px_xs pl wr le fi f).1)])), (a1, .inl (ww_g X 0, 240, .inl pl)), (a2, .inl (ww_g X 1, 240, .inl wr)), (a3, .inl (ww_g X 1, 240, .inl pg)), (a4, .inl (ww_g X 0, 240, .inl pv)), (a5, .inl (ww_g X 0, 4, .inl sz)), (a6, .inl (ww_g X 0, 80, .inl ow)), (a7, .inl (ww_g X 0, 80, .inl vl)), (a8, .inl (ww_g X 0, 60, .inl bf))] := by
    intro k
    induction k with
    | zero =>
      intro f n h1 h2 h3
      refine ww_iload_n O dd_MO_allFree_5 2 rfl ?_
      refine ww_iconst O dd_MO_allFree_6 (v := nI 4) rfl ?_
      refine ww_icmp_geN O dd_MO_allFree_7 (tgt := 35) rfl (by omega) (by omega) (fun h7 => ?_) (fun h7 => ?_)
      · refine ww_iload_n O dd_MO_allFree_35 1 rfl ?_
        have ef : f = 4 := by omega
        subst ef
        subst h3
        exact F.i dd_MO_allFree_36
      · exfalso; omega
    | succ k ih =>
      intro f n h1 h2 h3
      refine ww_iload_n O dd_MO_allFree_5 2 rfl ?_
      refine ww_iconst O dd_MO_allFree_6 (v := nI 4) rfl ?_
      refine ww_icmp_geN O dd_MO_allFree_7 (tgt := 35) rfl (by omega) (by omega) (fun h7 => ?_) (fun h7 => ?_)
      · refine ww_iload_n O dd_MO_allFree_35 1 rfl ?_
        have ef : f = 4 := by omega
        subst ef
        subst h3
        exact F.i dd_MO_allFree_36
      · refine ww_iload_n O dd_MO_allFree_10 1 rfl ?_
        refine ww_aload_n O dd_MO_allFree_11 0 rfl ?_
        refine ww_iload_n O dd_MO_allFree_12 2 rfl ?_
        refine ww_callV (q0 := 0) (ci := 3) O (cc_MO_mappedOf _ _ _ m a1 a2 a3 a4 a5 a6 a7 a8 cd ((px_xs pl wr le fi f).2) ((px_xs pl wr le fi f).1) pl wr pg pv sz ow vl bf f (by omega) (by omega)) lc_MO_60 lx_MO_mappedOf_I_I rfl rfl rfl (by rw [hR]; decide) (by rw [hR]; decide) (by rw [hR]; decide) rfl (Nat.le_of_ble_eq_true rfl) dd_MO_allFree_13 rfl [0, 1, 2, 3, 4, 5, 6, 7, 8] [] [0, 1, 2, 3, 4, 5, 6, 7, 8] rfl (by decide) rfl (by decide) (by decide) (ws' := [(m, .inr (3, [.int cd, .ref a1, .ref a2, .ref a3, .ref a4, .ref a5, .ref a6, .ref a7, .ref a8, .int ((px_xs pl wr le fi f).2), .int ((px_xs pl wr le fi f).1)])), (a1, .inl (ww_g X 0, 240, .inl pl)), (a2, .inl (ww_g X 1, 240, .inl wr)), (a3, .inl (ww_g X 1, 240, .inl pg)), (a4, .inl (ww_g X 0, 240, .inl pv)), (a5, .inl (ww_g X 0, 4, .inl sz)), (a6, .inl (ww_g X 0, 80, .inl ow)), (a7, .inl (ww_g X 0, 80, .inl vl)), (a8, .inl (ww_g X 0, 60, .inl bf))]) rfl rfl (by decide) ?_
        refine ww_isub O dd_MO_allFree_16 (v := (nI 80 - nI n) - (nI (px_mm pl (60 * f)))) rfl ?_
        refine ww_aload_n O dd_MO_allFree_17 0 rfl ?_
        refine ww_iload_n O dd_MO_allFree_18 2 rfl ?_
        refine ww_bipush O dd_MO_allFree_19 (v := nI 60) rfl ?_
        refine ww_callV (q0 := 0) (ci := 3) O (cc_MO_extents _ _ _ m a1 a2 a3 a4 a5 a6 a7 a8 cd ((px_xs pl wr le fi f).2) ((px_xs pl wr le fi f).1) pl wr pg pv sz ow vl bf f 60 (by omega) (by omega) (by omega)) lc_MO_49 lx_MO_extents_II_I rfl rfl rfl (by rw [hR]; decide) (by rw [hR]; decide) (by rw [hR]; decide) rfl (Nat.le_of_ble_eq_true rfl) dd_MO_allFree_21 rfl [0, 1, 2, 3, 4, 5, 6, 7, 8] [] [0, 1, 2, 3, 4, 5, 6, 7, 8] rfl (by decide) rfl (by decide) (by decide) (ws' := [(m, .inr (3, [.int cd, .ref a1, .ref a2, .ref a3, .ref a4, .ref a5, .ref a6, .ref a7, .ref a8, .int ((px_rx pl wr 60 60 (60 * f) 0 0 ((px_xs pl wr le fi f).2)).2.2), .int (nI (px_rx pl wr 60 60 (60 * f) 0 0 ((px_xs pl wr le fi f).2)).2.1)])), (a1, .inl (ww_g X 0, 240, .inl pl)), (a2, .inl (ww_g X 1, 240, .inl wr)), (a3, .inl (ww_g X 1, 240, .inl pg)), (a4, .inl (ww_g X 0, 240, .inl pv)), (a5, .inl (ww_g X 0, 4, .inl sz)), (a6, .inl (ww_g X 0, 80, .inl ow)), (a7, .inl (ww_g X 0, 80, .inl vl)), (a8, .inl (ww_g X 0, 60, .inl bf))]) rfl rfl (by decide) ?_
        rw [px_rx_60]
        have he3 : px_ee pl wr (60 * f) ≤ 60 := px_ex_le pl wr 60 (60 * f) 0
        refine ww_callS O (cc_MO_tree _ _ _ (px_ee pl wr (60 * f)) (by omega)) lc_MO_53 ls_MO_tree_I_I (by rw [hR]; decide) (by rw [hR]; decide) (by rw [hR]; decide) rfl (Nat.le_of_ble_eq_true rfl) dd_MO_allFree_24 rfl [] [0, 1, 2, 3, 4, 5, 6, 7, 8] [0, 1, 2, 3, 4, 5, 6, 7, 8] rfl (by decide) rfl (by decide) (by decide) (ws' := [(m, .inr (3, [.int cd, .ref a1, .ref a2, .ref a3, .ref a4, .ref a5, .ref a6, .ref a7, .ref a8, .int ((px_rx pl wr 60 60 (60 * f) 0 0 ((px_xs pl wr le fi f).2)).2.2), .int (nI (px_rx pl wr 60 60 (60 * f) 0 0 ((px_xs pl wr le fi f).2)).2.1)])), (a1, .inl (ww_g X 0, 240, .inl pl)), (a2, .inl (ww_g X 1, 240, .inl wr)), (a3, .inl (ww_g X 1, 240, .inl pg)), (a4, .inl (ww_g X 0, 240, .inl pv)), (a5, .inl (ww_g X 0, 4, .inl sz)), (a6, .inl (ww_g X 0, 80, .inl ow)), (a7, .inl (ww_g X 0, 80, .inl vl)), (a8, .inl (ww_g X 0, 60, .inl bf))]) rfl rfl (by decide) ?_
        refine ww_isub O dd_MO_allFree_27 (v := ((nI 80 - nI n) - (nI (px_mm pl (60 * f)))) - (nI (px_tree (px_ee pl wr (60 * f))))) rfl ?_
        rw [px_sub3]
        refine ww_istore_n O dd_MO_allFree_28 (by rw [hn]; decide) rfl (L' := [(0, .ref m), (1, .int (nI 80 - nI (n + (px_mm pl (60 * f) + px_tree (px_ee pl wr (60 * f)))))), (2, .int (nI f))]) rfl ?_
        refine ww_iinc O dd_MO_allFree_29 2 rfl (v := nI (f + 1)) (nI_add _ 1) (by rw [hn]; decide) rfl (L' := [(0, .ref m), (1, .int (nI 80 - nI (n + (px_mm pl (60 * f) + px_tree (px_ee pl wr (60 * f)))))), (2, .int (nI (f + 1)))]) rfl ?_
        refine ww_goto O dd_MO_allFree_32 (tgt := 5) rfl ?_
        exact ih (f + 1) _ (by omega) (by omega) (by rw [px_sum, h3]; rfl)
  refine ww_bipush O dd_MO_allFree_0 (v := nI 80) rfl ?_
  refine ww_eqs (st' := [.int (nI 80 - nI 0)]) rfl ?_
  refine ww_istore_n O dd_MO_allFree_2 (by rw [hn]; decide) rfl (L' := [(0, .ref m), (1, .int (nI 80 - nI 0))]) rfl ?_
  refine ww_iconst O dd_MO_allFree_3 (v := nI 0) rfl ?_
  refine ww_istore_n O dd_MO_allFree_4 (by rw [hn]; decide) rfl (L' := [(0, .ref m), (1, .int (nI 80 - nI 0)), (2, .int (nI 0))]) rfl ?_
  exact loop 4 0 0 (by omega) (by omega) rfl
set_option maxRecDepth 4000 in
theorem cc_MO_mapRow (l : Launch) (D : va_G) (g : Nat → ClassId) (m : Nat) (a1 : Nat) (a2 : Nat) (a3 : Nat) (a4 : Nat) (a5 : Nat) (a6 : Nat) (a7 : Nat) (a8 : Nat) (cd : Int32) (fi : Int32) (le : Int32) (pl : Nat → Int32) (wr : Nat → Int32) (pg : Nat → Int32) (pv : Nat → Int32) (sz : Nat → Int32) (ow : Nat → Int32) (vl : Nat → Int32) (bf : Nat → Int32) (a : Nat) (n : Nat) (hr : ∀ b, b < 240 → px_rg (pl b)) (ho : ∀ p, p < 80 → px_rq (ow p)) (hw : ∀ j, a ≤ j → j < a + n → wr j = nI 0) (han : a + n ≤ 240) (hn6 : n ≤ 60) (hnu : n ≤ px_nu ow) : ww_ct l D g yy_MO_mapRow bb_MO_mapRow 7 none (ww_rm 3) [.ref m, .int (nI a), .int (nI n)] [(m, .inr (3, [.int cd, .ref a1, .ref a2, .ref a3, .ref a4, .ref a5, .ref a6, .ref a7, .ref a8, .int fi, .int le])), (a1, .inl (g 0, 240, .inl pl)), (a2, .inl (g 1, 240, .inl wr)), (a3, .inl (g 1, 240, .inl pg)), (a4, .inl (g 0, 240, .inl pv)), (a5, .inl (g 0, 4, .inl sz)), (a6, .inl (g 0, 80, .inl ow)), (a7, .inl (g 0, 80, .inl vl)), (a8, .inl (g 0, 60, .inl bf))] none [(m, .inr (3, [.int cd, .ref a1, .ref a2, .ref a3, .ref a4, .ref a5, .ref a6, .ref a7, .ref a8, .int fi, .int le])), (a1, .inl (g 0, 240, .inl ((px_mr 0 n a (px_cand (a % 60 == 0) pl a) pl ow).1))), (a2, .inl (g 1, 240, .inl wr)), (a3, .inl (g 1, 240, .inl pg)), (a4, .inl (g 0, 240, .inl pv)), (a5, .inl (g 0, 4, .inl sz)), (a6, .inl (g 0, 80, .inl ((px_mr 0 n a (px_cand (a % 60 == 0) pl a) pl ow).2))), (a7, .inl (g 0, 80, .inl vl)), (a8, .inl (g 0, 60, .inl bf))] := by
  refine ww_start (by decide +kernel) rfl trivial (Nat.le_of_ble_eq_true rfl) (L0 := [(0, .ref m), (1, .int (nI a)), (2, .int (nI n))]) rfl ?_
  intro X O hl hD hg hR hn F
  subst hl hD hg
  generalize hT : px_mr 0 n a (px_cand (a % 60 == 0) pl a) pl ow = T at F
  have loop2 : ∀ (k d : Nat) (x : Int32) (pl2 ow2 : Nat → Int32), n ≤ d + k → d ≤ n → (∀ p, p < 80 → px_rq (ow2 p)) → n - d ≤ px_nu ow2 → px_mr 0 (n - d) (a + d) x pl2 ow2 = T → (d = n ∨ px_un ow2 x = false) → ww_at X 0 0 72 [(0, .ref m), (1, .int (nI a)), (2, .int (nI n)), (3, .int (nI d))] [] [(m, .inr (3, [.int cd, .ref a1, .ref a2, .ref a3, .ref a4, .ref a5, .ref a6, .ref a7, .ref a8, .int fi, .int le])), (a1, .inl (ww_g X 0, 240, .inl pl2)), (a2, .inl (ww_g X 1, 240, .inl wr)), (a3, .inl (ww_g X 1, 240, .inl pg)), (a4, .inl (ww_g X 0, 240, .inl pv)), (a5, .inl (ww_g X 0, 4, .inl sz)), (a6, .inl (ww_g X 0, 80, .inl ow2)), (a7, .inl (ww_g X 0, 80, .inl vl)), (a8, .inl (ww_g X 0, 60, .inl bf))] := by
    intro k
    induction k with
    | zero =>
      intro d x pl2 ow2 h1 h2 ho h5 h4 h6
      refine ww_iload_n O dd_MO_mapRow_72 3 rfl ?_
      refine ww_iload_n O dd_MO_mapRow_73 2 rfl ?_
      refine ww_icmp_geN O dd_MO_mapRow_74 (tgt := 133) rfl (by omega) (by omega) (fun h74 => ?_) (fun h74 => ?_)
      · rw [show n - d = 0 by omega] at h4
        subst h4
        exact F.v dd_MO_mapRow_133
      · exfalso; omega
    | succ k ih =>
      intro d x pl2 ow2 h1 h2 ho h5 h4 h6
      refine ww_iload_n O dd_MO_mapRow_72 3 rfl ?_
      refine ww_iload_n O dd_MO_mapRow_73 2 rfl ?_
      refine ww_icmp_geN O dd_MO_mapRow_74 (tgt := 133) rfl (by omega) (by omega) (fun h74 => ?_) (fun h74 => ?_)
      · rw [show n - d = 0 by omega] at h4
        subst h4
        exact F.v dd_MO_mapRow_133
      · refine ww_aload_n O dd_MO_mapRow_77 0 rfl ?_
        refine ww_iload_n O dd_MO_mapRow_78 2 rfl ?_
        refine ww_iload_n O dd_MO_mapRow_79 3 rfl ?_
        refine ww_isub O dd_MO_mapRow_80 (v := nI (n - d)) (pk_sub (by omega)) ?_
        refine ww_callV (q0 := 0) (ci := 3) O (cc_MO_bestFor _ _ _ m a1 a2 a3 a4 a5 a6 a7 a8 cd fi le pl2 wr pg pv sz ow2 vl bf (n - d) (by omega) (by omega)) lc_MO_70 lx_MO_bestFor_I_I rfl rfl rfl (by rw [hR]; decide) (by rw [hR]; decide) (by rw [hR]; decide) rfl (Nat.le_of_ble_eq_true rfl) dd_MO_mapRow_81 rfl [0, 1, 2, 3, 4, 5, 6, 7, 8] [] [0, 1, 2, 3, 4, 5, 6, 7, 8] rfl (by decide) rfl (by decide) (by decide) (ws' := [(m, .inr (3, [.int cd, .ref a1, .ref a2, .ref a3, .ref a4, .ref a5, .ref a6, .ref a7, .ref a8, .int fi, .int le])), (a1, .inl (ww_g X 0, 240, .inl pl2)), (a2, .inl (ww_g X 1, 240, .inl wr)), (a3, .inl (ww_g X 1, 240, .inl pg)), (a4, .inl (ww_g X 0, 240, .inl pv)), (a5, .inl (ww_g X 0, 4, .inl sz)), (a6, .inl (ww_g X 0, 80, .inl ow2)), (a7, .inl (ww_g X 0, 80, .inl vl)), (a8, .inl (ww_g X 0, 60, .inl bf))]) rfl rfl (by decide) ?_
        have hu := px_best_un (ow := ow2) (n := n - d) (by omega) (px_nu_ex (by omega))
        rw [px_mr_c (by rcases h6 with h | h; omega; exact h) hu] at h4
        obtain ⟨q, hq, hqe, hqo⟩ := px_un_spec hu
        rw [hqe] at h4 ⊢
        refine ww_istore O dd_MO_mapRow_84 (by rw [hn]; decide) rfl (L' := [(0, .ref m), (1, .int (nI a)), (2, .int (nI n)), (3, .int (nI d)), (4, .int (nI q))]) rfl ?_
        refine ww_aload_n O dd_MO_mapRow_86 0 rfl ?_
        refine ww_iload O dd_MO_mapRow_87 4 rfl ?_
        refine ww_callV (q0 := 0) (ci := 3) O (cc_MO_room _ _ _ m a1 a2 a3 a4 a5 a6 a7 a8 cd fi le pl2 wr pg pv sz ow2 vl bf q (by omega) (by omega)) lc_MO_63 lx_MO_room_I_I rfl rfl rfl (by rw [hR]; decide) (by rw [hR]; decide) (by rw [hR]; decide) rfl (Nat.le_of_ble_eq_true rfl) dd_MO_mapRow_89 rfl [0, 1, 2, 3, 4, 5, 6, 7, 8] [] [0, 1, 2, 3, 4, 5, 6, 7, 8] rfl (by decide) rfl (by decide) (by decide) (ws' := [(m, .inr (3, [.int cd, .ref a1, .ref a2, .ref a3, .ref a4, .ref a5, .ref a6, .ref a7, .ref a8, .int fi, .int le])), (a1, .inl (ww_g X 0, 240, .inl pl2)), (a2, .inl (ww_g X 1, 240, .inl wr)), (a3, .inl (ww_g X 1, 240, .inl pg)), (a4, .inl (ww_g X 0, 240, .inl pv)), (a5, .inl (ww_g X 0, 4, .inl sz)), (a6, .inl (ww_g X 0, 80, .inl ow2)), (a7, .inl (ww_g X 0, 80, .inl vl)), (a8, .inl (ww_g X 0, 60, .inl bf))]) rfl rfl (by decide) ?_
        have hr1 : 0 < px_room ow2 (80 - q) q := by rw [px_room_s, if_pos ⟨by omega, hqo⟩]; omega
        have hr2 := px_room_le ow2 (80 - q) q
        generalize hre : px_room ow2 (80 - q) q = r at hr1 hr2 ⊢
        refine ww_istore O dd_MO_mapRow_92 (by rw [hn]; decide) rfl (L' := [(0, .ref m), (1, .int (nI a)), (2, .int (nI n)), (3, .int (nI d)), (4, .int (nI q)), (5, .int (nI r))]) rfl ?_
        refine ww_iconst O dd_MO_mapRow_94 (v := nI 0) rfl ?_
        refine ww_istore O dd_MO_mapRow_95 (by rw [hn]; decide) rfl (L' := [(0, .ref m), (1, .int (nI a)), (2, .int (nI n)), (3, .int (nI d)), (4, .int (nI q)), (5, .int (nI r)), (6, .int (nI 0))]) rfl ?_
        have inner : ∀ (j i d2 : Nat) (pl3 ow3 : Nat → Int32), r ≤ i + j → i ≤ r → d2 = d + i → d2 ≤ n → (∀ p, p < 80 → px_rq (ow3 p)) → n - d2 ≤ px_nu ow3 → px_room ow3 (80 - (q + i)) (q + i) = r - i → px_mr 0 (n - d2) (a + d2) (nI (q + i)) pl3 ow3 = T → ww_at X 0 0 97 [(0, .ref m), (1, .int (nI a)), (2, .int (nI n)), (3, .int (nI d2)), (4, .int (nI q)), (5, .int (nI r)), (6, .int (nI i))] [] [(m, .inr (3, [.int cd, .ref a1, .ref a2, .ref a3, .ref a4, .ref a5, .ref a6, .ref a7, .ref a8, .int fi, .int le])), (a1, .inl (ww_g X 0, 240, .inl pl3)), (a2, .inl (ww_g X 1, 240, .inl wr)), (a3, .inl (ww_g X 1, 240, .inl pg)), (a4, .inl (ww_g X 0, 240, .inl pv)), (a5, .inl (ww_g X 0, 4, .inl sz)), (a6, .inl (ww_g X 0, 80, .inl ow3)), (a7, .inl (ww_g X 0, 80, .inl vl)), (a8, .inl (ww_g X 0, 60, .inl bf))] := by
          intro j
          induction j with
          | zero =>
            intro i d2 pl3 ow3 g1 g2 g3 g4 ho3 g5 g6 g7
            refine ww_iload O dd_MO_mapRow_97 6 rfl ?_
            refine ww_iload O dd_MO_mapRow_99 5 rfl ?_
            refine ww_icmp_geN O dd_MO_mapRow_101 (tgt := 130) rfl (by omega) (by omega) (fun h101 => ?_) (fun h101 => ?_)
            · refine ww_goto O dd_MO_mapRow_130 (tgt := 72) rfl ?_
              refine ww_sub [0, 1, 2, 3] rfl ?_
              refine ih d2 (nI (q + i)) pl3 ow3 (by omega) (by omega) ho3 (by omega) g7 ?_
              refine Or.inr ?_
              rw [px_un_nI ow3 (by omega)]
              have hz : px_room ow3 (80 - (q + i)) (q + i) = 0 := by omega
              rw [px_room_s] at hz
              by_cases hw2 : q + i < 80 ∧ ow3 (q + i) = -1
              · rw [if_pos ⟨by omega, hw2.2⟩] at hz; omega
              · by_cases h8 : q + i < 80
                · simp [h8]; exact fun z => hw2 ⟨h8, z⟩
                · simp [h8]
            · exfalso; omega
          | succ j ihj =>
            intro i d2 pl3 ow3 g1 g2 g3 g4 ho3 g5 g6 g7
            refine ww_iload O dd_MO_mapRow_97 6 rfl ?_
            refine ww_iload O dd_MO_mapRow_99 5 rfl ?_
            refine ww_icmp_geN O dd_MO_mapRow_101 (tgt := 130) rfl (by omega) (by omega) (fun h101 => ?_) (fun h101 => ?_)
            · refine ww_goto O dd_MO_mapRow_130 (tgt := 72) rfl ?_
              refine ww_sub [0, 1, 2, 3] rfl ?_
              refine ih d2 (nI (q + i)) pl3 ow3 (by omega) (by omega) ho3 (by omega) g7 ?_
              refine Or.inr ?_
              rw [px_un_nI ow3 (by omega)]
              have hz : px_room ow3 (80 - (q + i)) (q + i) = 0 := by omega
              rw [px_room_s] at hz
              by_cases hw2 : q + i < 80 ∧ ow3 (q + i) = -1
              · rw [if_pos ⟨by omega, hw2.2⟩] at hz; omega
              · by_cases h8 : q + i < 80
                · simp [h8]; exact fun z => hw2 ⟨h8, z⟩
                · simp [h8]
            · refine ww_iload_n O dd_MO_mapRow_104 3 rfl ?_
              refine ww_iload_n O dd_MO_mapRow_105 2 rfl ?_
              refine ww_icmp_geN O dd_MO_mapRow_106 (tgt := 130) rfl (by omega) (by omega) (fun h106 => ?_) (fun h106 => ?_)
              · refine ww_goto O dd_MO_mapRow_130 (tgt := 72) rfl ?_
                refine ww_sub [0, 1, 2, 3] rfl ?_
                refine ih d2 (nI (q + i)) pl3 ow3 (by omega) (by omega) ho3 (by omega) g7 ?_
                exact Or.inl (by omega)
              · refine ww_aload_n O dd_MO_mapRow_109 0 rfl ?_
                refine ww_iload_n O dd_MO_mapRow_110 1 rfl ?_
                refine ww_iload_n O dd_MO_mapRow_111 3 rfl ?_
                refine ww_iadd O dd_MO_mapRow_112 (v := nI (a + d2)) (nI_add _ _) ?_
                refine ww_iload O dd_MO_mapRow_113 4 rfl ?_
                refine ww_iload O dd_MO_mapRow_115 6 rfl ?_
                refine ww_iadd O dd_MO_mapRow_117 (v := nI (q + i)) (nI_add _ _) ?_
                have hw3 : ow3 (q + i) = -1 := by
                  have hz : 0 < px_room ow3 (80 - (q + i)) (q + i) := by omega
                  have := px_room_in (ow := ow3) (i := 0) hz
                  simpa using this
                have hu3 : px_un ow3 (nI (q + i)) = true := by rw [px_un_nI ow3 (by omega)]; simp [hw3]; omega
                rw [px_mr_u (by omega) hu3, nI_clamp (by omega), Nat.zero_add, nI_1] at g7
                have hnu := px_nu_take (v := nI (a + d2)) (show q + i < 80 by omega) hw3 (px_m1 (by omega))
                refine ww_callV (q0 := 0) (ci := 3) O (cc_MO_map _ _ _ m a1 a2 a3 a4 a5 a6 a7 a8 cd fi le pl3 wr pg pv sz ow3 vl bf (a + d2) (q + i) (by omega) (by omega)) lc_MO_66 lx_MO_map_II_V rfl rfl rfl (by rw [hR]; decide) (by rw [hR]; decide) (by rw [hR]; decide) rfl (Nat.le_of_ble_eq_true rfl) dd_MO_mapRow_118 rfl [0, 1, 2, 3, 4, 5, 6, 7, 8] [] [0, 1, 2, 3, 4, 5, 6, 7, 8] rfl (by decide) rfl (by decide) (by decide) (ws' := [(m, .inr (3, [.int cd, .ref a1, .ref a2, .ref a3, .ref a4, .ref a5, .ref a6, .ref a7, .ref a8, .int fi, .int le])), (a1, .inl (ww_g X 0, 240, .inl (upd pl3 (a + d2) (nI (q + i))))), (a2, .inl (ww_g X 1, 240, .inl (upd wr (a + d2) (nI 0)))), (a3, .inl (ww_g X 1, 240, .inl pg)), (a4, .inl (ww_g X 0, 240, .inl pv)), (a5, .inl (ww_g X 0, 4, .inl sz)), (a6, .inl (ww_g X 0, 80, .inl (upd ow3 (q + i) (nI (a + d2))))), (a7, .inl (ww_g X 0, 80, .inl vl)), (a8, .inl (ww_g X 0, 60, .inl bf))]) rfl rfl (by decide) ?_
                refine ww_iinc O dd_MO_mapRow_121 3 rfl (v := nI (d2 + 1)) (nI_add _ 1) (by rw [hn]; decide) rfl (L' := [(0, .ref m), (1, .int (nI a)), (2, .int (nI n)), (3, .int (nI (d2 + 1))), (4, .int (nI q)), (5, .int (nI r)), (6, .int (nI i))]) rfl ?_
                refine ww_iinc O dd_MO_mapRow_124 6 rfl (v := nI (i + 1)) (nI_add _ 1) (by rw [hn]; decide) rfl (L' := [(0, .ref m), (1, .int (nI a)), (2, .int (nI n)), (3, .int (nI (d2 + 1))), (4, .int (nI q)), (5, .int (nI r)), (6, .int (nI (i + 1)))]) rfl ?_
                refine ww_goto O dd_MO_mapRow_127 (tgt := 97) rfl ?_
                rw [px_upd_same (f := wr) (b := a + d2) (v := nI 0) (hw _ (by omega) (by omega))]
                refine ihj (i + 1) (d2 + 1) _ _ (by omega) (by omega) (by omega) (by omega) (px_ho_upd ho3 (by omega)) (by omega) ?_ g7
                rw [px_room_upd (by omega)]
                rw [px_room_s (p := q + i), if_pos ⟨by omega, hw3⟩, show 80 - (q + i) - 1 = 80 - (q + (i + 1)) by omega, show q + i + 1 = q + (i + 1) by omega] at g6
                omega
        exact inner r 0 d pl2 ow2 (by omega) (by omega) (by omega) (by omega) ho (by omega) (by rw [Nat.add_zero]; exact hre) h4
  have loop1 : ∀ (k d p : Nat) (pl2 ow2 : Nat → Int32), n ≤ d + k → d ≤ n → p ≤ 80 → (∀ p, p < 80 → px_rq (ow2 p)) → n - d ≤ px_nu ow2 → px_mr 0 (n - d) (a + d) (nI p) pl2 ow2 = T → ww_at X 0 0 32 [(0, .ref m), (1, .int (nI a)), (2, .int (nI n)), (3, .int (nI d)), (4, .int (nI p))] [] [(m, .inr (3, [.int cd, .ref a1, .ref a2, .ref a3, .ref a4, .ref a5, .ref a6, .ref a7, .ref a8, .int fi, .int le])), (a1, .inl (ww_g X 0, 240, .inl pl2)), (a2, .inl (ww_g X 1, 240, .inl wr)), (a3, .inl (ww_g X 1, 240, .inl pg)), (a4, .inl (ww_g X 0, 240, .inl pv)), (a5, .inl (ww_g X 0, 4, .inl sz)), (a6, .inl (ww_g X 0, 80, .inl ow2)), (a7, .inl (ww_g X 0, 80, .inl vl)), (a8, .inl (ww_g X 0, 60, .inl bf))] := by
    intro k
    induction k with
    | zero =>
      intro d p pl2 ow2 h1 h2 hp ho h5 h4
      refine ww_iload_n O dd_MO_mapRow_32 3 rfl ?_
      refine ww_iload_n O dd_MO_mapRow_33 2 rfl ?_
      refine ww_icmp_geN O dd_MO_mapRow_34 (tgt := 72) rfl (by omega) (by omega) (fun h34 => ?_) (fun h34 => ?_)
      · refine ww_sub [0, 1, 2, 3] rfl ?_
        refine loop2 n d (nI p) pl2 ow2 (by omega) (by omega) ho (by omega) h4 ?_
        exact Or.inl (by omega)
      · exfalso; omega
    | succ k ih =>
      intro d p pl2 ow2 h1 h2 hp ho h5 h4
      refine ww_iload_n O dd_MO_mapRow_32 3 rfl ?_
      refine ww_iload_n O dd_MO_mapRow_33 2 rfl ?_
      refine ww_icmp_geN O dd_MO_mapRow_34 (tgt := 72) rfl (by omega) (by omega) (fun h34 => ?_) (fun h34 => ?_)
      · refine ww_sub [0, 1, 2, 3] rfl ?_
        refine loop2 n d (nI p) pl2 ow2 (by omega) (by omega) ho (by omega) h4 ?_
        exact Or.inl (by omega)
      · refine ww_iload O dd_MO_mapRow_37 4 rfl ?_
        refine ww_bipush O dd_MO_mapRow_39 (v := nI 80) rfl ?_
        refine ww_icmp_geN O dd_MO_mapRow_41 (tgt := 72) rfl (by omega) (by omega) (fun h41 => ?_) (fun h41 => ?_)
        · refine ww_sub [0, 1, 2, 3] rfl ?_
          refine loop2 n d (nI p) pl2 ow2 (by omega) (by omega) ho (by omega) h4 ?_
          exact Or.inr (by rw [px_un_nI ow2 (by omega)]; simp; omega)
        · refine ww_aload_n O dd_MO_mapRow_44 0 rfl ?_
          refine ww_get O ci_MO rfl 6 (by decide) lf_MO_26 rfl dd_MO_mapRow_45 0 rfl rfl ?_
          refine ww_iload O dd_MO_mapRow_48 4 rfl ?_
          refine ww_iald O dd_MO_mapRow_50 6 rfl (by omega) (by decide) rfl ?_
          refine ww_if_ge O dd_MO_mapRow_51 (tgt := 72) rfl (fun h51 => ?_) (fun h51 => ?_)
          · refine ww_sub [0, 1, 2, 3] rfl ?_
            refine loop2 n d (nI p) pl2 ow2 (by omega) (by omega) ho (by omega) h4 ?_
            exact Or.inr (by rw [px_un_nI ow2 (by omega)]; simp; intro _; exact (ho p (by omega)).ge h51)
          · refine ww_aload_n O dd_MO_mapRow_54 0 rfl ?_
            refine ww_iload_n O dd_MO_mapRow_55 1 rfl ?_
            refine ww_iload_n O dd_MO_mapRow_56 3 rfl ?_
            refine ww_iadd O dd_MO_mapRow_57 (v := nI (a + d)) (nI_add _ _) ?_
            refine ww_iload O dd_MO_mapRow_58 4 rfl ?_
            have hw3 := (ho p (by omega)).lt h51
            have hu3 : px_un ow2 (nI p) = true := by rw [px_un_nI ow2 (by omega)]; simp [hw3]; omega
            rw [px_mr_u (by omega) hu3, nI_clamp (by omega), Nat.zero_add, nI_1] at h4
            have hnu := px_nu_take (v := nI (a + d)) (show p < 80 by omega) hw3 (px_m1 (by omega))
            refine ww_callV (q0 := 0) (ci := 3) O (cc_MO_map _ _ _ m a1 a2 a3 a4 a5 a6 a7 a8 cd fi le pl2 wr pg pv sz ow2 vl bf (a + d) p (by omega) (by omega)) lc_MO_66 lx_MO_map_II_V rfl rfl rfl (by rw [hR]; decide) (by rw [hR]; decide) (by rw [hR]; decide) rfl (Nat.le_of_ble_eq_true rfl) dd_MO_mapRow_60 rfl [0, 1, 2, 3, 4, 5, 6, 7, 8] [] [0, 1, 2, 3, 4, 5, 6, 7, 8] rfl (by decide) rfl (by decide) (by decide) (ws' := [(m, .inr (3, [.int cd, .ref a1, .ref a2, .ref a3, .ref a4, .ref a5, .ref a6, .ref a7, .ref a8, .int fi, .int le])), (a1, .inl (ww_g X 0, 240, .inl (upd pl2 (a + d) (nI p)))), (a2, .inl (ww_g X 1, 240, .inl (upd wr (a + d) (nI 0)))), (a3, .inl (ww_g X 1, 240, .inl pg)), (a4, .inl (ww_g X 0, 240, .inl pv)), (a5, .inl (ww_g X 0, 4, .inl sz)), (a6, .inl (ww_g X 0, 80, .inl (upd ow2 p (nI (a + d))))), (a7, .inl (ww_g X 0, 80, .inl vl)), (a8, .inl (ww_g X 0, 60, .inl bf))]) rfl rfl (by decide) ?_
            refine ww_iinc O dd_MO_mapRow_63 3 rfl (v := nI (d + 1)) (nI_add _ 1) (by rw [hn]; decide) rfl (L' := [(0, .ref m), (1, .int (nI a)), (2, .int (nI n)), (3, .int (nI (d + 1))), (4, .int (nI p))]) rfl ?_
            refine ww_iinc O dd_MO_mapRow_66 4 rfl (v := nI (p + 1)) (nI_add _ 1) (by rw [hn]; decide) rfl (L' := [(0, .ref m), (1, .int (nI a)), (2, .int (nI n)), (3, .int (nI (d + 1))), (4, .int (nI (p + 1)))]) rfl ?_
            refine ww_goto O dd_MO_mapRow_69 (tgt := 32) rfl ?_
            rw [px_upd_same (f := wr) (b := a + d) (v := nI 0) (hw _ (by omega) (by omega))]
            exact ih (d + 1) (p + 1) _ _ (by omega) (by omega) (by omega) (px_ho_upd ho (by omega)) (by omega) h4
  refine ww_iconst O dd_MO_mapRow_0 (v := nI 0) rfl ?_
  refine ww_istore_n O dd_MO_mapRow_1 (by rw [hn]; decide) rfl (L' := [(0, .ref m), (1, .int (nI a)), (2, .int (nI n)), (3, .int (nI 0))]) rfl ?_
  refine ww_iload_n O dd_MO_mapRow_2 1 rfl ?_
  refine ww_bipush O dd_MO_mapRow_3 (v := nI 60) rfl ?_
  refine ww_irem O dd_MO_mapRow_5 (by decide) (v := nI (a % 60)) (pk_rem (by omega) (by decide) (by decide)) ?_
  refine ww_if_leN O dd_MO_mapRow_6 (tgt := 72) rfl (by omega) (fun h6 => ?_) (fun h6 => ?_)
  · refine loop2 n 0 (-1) pl ow (by omega) (by omega) ho (by omega) ?_ (Or.inr (px_un_m1 ow))
    rw [Nat.sub_zero, Nat.add_zero, ← hT]
    congr 1
    unfold px_cand
    rw [show (a % 60 == 0) = true by simp; omega]; rfl
  · refine ww_aload_n O dd_MO_mapRow_9 0 rfl ?_
    refine ww_get O ci_MO rfl 1 (by decide) lf_MO_7 rfl dd_MO_mapRow_10 0 rfl rfl ?_
    refine ww_iload_n O dd_MO_mapRow_13 1 rfl ?_
    refine ww_iconst O dd_MO_mapRow_14 (v := nI 1) rfl ?_
    refine ww_isub O dd_MO_mapRow_15 (v := nI (a - 1)) (pk_sub (by omega)) ?_
    refine ww_iald O dd_MO_mapRow_16 1 rfl (by omega) (by decide) rfl ?_
    refine ww_if_lt O dd_MO_mapRow_17 (tgt := 72) rfl (fun h17 => ?_) (fun h17 => ?_)
    · refine loop2 n 0 (-1) pl ow (by omega) (by omega) ho (by omega) ?_ (Or.inr (px_un_m1 ow))
      rw [Nat.sub_zero, Nat.add_zero, ← hT]
      congr 1
      unfold px_cand
      simp [(hr (a - 1) (by omega)).lt h17]
    · refine ww_aload_n O dd_MO_mapRow_20 0 rfl ?_
      refine ww_get O ci_MO rfl 1 (by decide) lf_MO_7 rfl dd_MO_mapRow_21 0 rfl rfl ?_
      refine ww_iload_n O dd_MO_mapRow_24 1 rfl ?_
      refine ww_iconst O dd_MO_mapRow_25 (v := nI 1) rfl ?_
      refine ww_isub O dd_MO_mapRow_26 (v := nI (a - 1)) (pk_sub (by omega)) ?_
      refine ww_iald O dd_MO_mapRow_27 1 rfl (by omega) (by decide) rfl ?_
      refine ww_iconst O dd_MO_mapRow_28 (v := nI 1) rfl ?_
      refine ww_iadd O dd_MO_mapRow_29 (v := (pl (a - 1)) + (nI 1)) rfl ?_
      have hh := (hr (a - 1) (by omega)).ge h17
      obtain ⟨p, hp, hpe⟩ : ∃ p, p < 80 ∧ pl (a - 1) = nI p := by
        rcases hr (a - 1) (by omega) with h | h
        · simp [px_hole, h] at hh
        · exact h
      rw [show px_cand (a % 60 == 0) pl a = nI (p + 1) from by unfold px_cand; rw [show (a % 60 == 0) = false by simp; omega, hh, hpe]; exact nI_1 p] at hT
      rw [hpe, nI_add]
      refine ww_istore O dd_MO_mapRow_30 (by rw [hn]; decide) rfl (L' := [(0, .ref m), (1, .int (nI a)), (2, .int (nI n)), (3, .int (nI 0)), (4, .int (nI (p + 1)))]) rfl ?_
      exact loop1 n 0 (p + 1) pl ow (by omega) (by omega) (by omega) ho (by omega) (by rw [Nat.sub_zero, Nat.add_zero]; exact hT)
end
section
theorem px_I1.rg {pl ow : Nat → Int32} (h : px_I1 pl ow) (b : Nat) (hb : b < 240) : px_rg (pl b) := by
  rcases h.1 b hb with h1 | ⟨p, h1, h2, _⟩
  · exact Or.inl h1
  · exact Or.inr ⟨p, h1, h2⟩
theorem px_I1.rq {pl ow : Nat → Int32} (h : px_I1 pl ow) (p : Nat) (hp : p < 80) : px_rq (ow p) := h.2 p hp
theorem px_nf_nI {f k : Nat} (h : f ≤ k) (hk : k < 2 ^ 31) : px_nf (nI f) k = false := px_nf_f (nI_pos (by omega)) (nI_le h hk)
end
section
theorem lc_MO_73 : ww_site "DelayedExtentsModel" 73 yy_MO_mapRow bb_MO_mapRow 7 none 2 := ⟨List.mem_filter.mpr ⟨List.mem_of_getElem? (i := 596) (by decide +kernel), by decide +kernel⟩, List.mem_filter.mpr ⟨List.mem_of_getElem? (i := 593) (by decide +kernel), by decide +kernel⟩, List.mem_filter.mpr ⟨List.mem_of_getElem? (i := 30) (by decide +kernel), by decide +kernel⟩, by decide, by decide, by decide +kernel⟩
theorem lx_MO_mapRow_II_V : ww_virt yy_MO_mapRow := ⟨List.mem_filter.mpr ⟨List.mem_of_getElem? (i := 595) (by decide +kernel), by decide +kernel⟩, List.mem_filter.mpr ⟨List.mem_of_getElem? (i := 19) (by decide +kernel), by decide +kernel⟩⟩
theorem lc_MO_96 : ww_site "DelayedExtentsModel" 96 yy_MO_unmap bb_MO_unmap 2 none 1 := ⟨List.mem_filter.mpr ⟨List.mem_of_getElem? (i := 612) (by decide +kernel), by decide +kernel⟩, List.mem_filter.mpr ⟨List.mem_of_getElem? (i := 609) (by decide +kernel), by decide +kernel⟩, List.mem_filter.mpr ⟨List.mem_of_getElem? (i := 30) (by decide +kernel), by decide +kernel⟩, by decide, by decide, by decide +kernel⟩
theorem lx_MO_unmap_I_V : ww_virt yy_MO_unmap := ⟨List.mem_filter.mpr ⟨List.mem_of_getElem? (i := 611) (by decide +kernel), by decide +kernel⟩, List.mem_filter.mpr ⟨List.mem_of_getElem? (i := 23) (by decide +kernel), by decide +kernel⟩⟩
set_option maxRecDepth 4000 in
theorem cc_MO_mapHoles (l : Launch) (D : va_G) (g : Nat → ClassId) (m : Nat) (a1 : Nat) (a2 : Nat) (a3 : Nat) (a4 : Nat) (a5 : Nat) (a6 : Nat) (a7 : Nat) (a8 : Nat) (cd : Int32) (fi : Int32) (le : Int32) (pl : Nat → Int32) (wr : Nat → Int32) (pg : Nat → Int32) (pv : Nat → Int32) (sz : Nat → Int32) (ow : Nat → Int32) (vl : Nat → Int32) (bf : Nat → Int32) (a : Nat) (e : Nat) (all : Bool) (f : Nat) (hI : px_I1 pl ow) (hw : ∀ j, a ≤ j → j < e → px_hole pl j = true → wr j = nI 0) (hf : f < 4) (ha : 60 * f ≤ a) (hae : a ≤ e) (he : e ≤ 60 * f + 60) (hnu : px_cnt (fun j => px_hole pl j && (px_on pg j || all)) a (e - a) ≤ px_nu ow) : ww_ct l D g yy_MO_mapHoles bb_MO_mapHoles 6 none (ww_rm 4) [.ref m, .int (nI a), .int (nI e), .int (px_b all)] [(m, .inr (3, [.int cd, .ref a1, .ref a2, .ref a3, .ref a4, .ref a5, .ref a6, .ref a7, .ref a8, .int fi, .int le])), (a1, .inl (g 0, 240, .inl pl)), (a2, .inl (g 1, 240, .inl wr)), (a3, .inl (g 1, 240, .inl pg)), (a4, .inl (g 0, 240, .inl pv)), (a5, .inl (g 0, 4, .inl sz)), (a6, .inl (g 0, 80, .inl ow)), (a7, .inl (g 0, 80, .inl vl)), (a8, .inl (g 0, 60, .inl bf))] none [(m, .inr (3, [.int cd, .ref a1, .ref a2, .ref a3, .ref a4, .ref a5, .ref a6, .ref a7, .ref a8, .int fi, .int le])), (a1, .inl (g 0, 240, .inl ((px_mh 0 (60 * f) (fun j => px_on pg j || all) 60 a e pl ow).1))), (a2, .inl (g 1, 240, .inl wr)), (a3, .inl (g 1, 240, .inl pg)), (a4, .inl (g 0, 240, .inl pv)), (a5, .inl (g 0, 4, .inl sz)), (a6, .inl (g 0, 80, .inl ((px_mh 0 (60 * f) (fun j => px_on pg j || all) 60 a e pl ow).2))), (a7, .inl (g 0, 80, .inl vl)), (a8, .inl (g 0, 60, .inl bf))] := by
  refine ww_start (by decide +kernel) rfl trivial (Nat.le_of_ble_eq_true rfl) (L0 := [(0, .ref m), (1, .int (nI a)), (2, .int (nI e)), (3, .int (px_b all))]) rfl ?_
  intro X O hl hD hg hR hn F
  subst hl hD hg
  generalize hT : px_mh 0 (60 * f) (fun j => px_on pg j || all) 60 a e pl ow = T at F
  have loop : ∀ (k b : Nat) (pl2 ow2 : Nat → Int32), e ≤ b + k → 60 * f ≤ b → b ≤ e + 1 → px_I1 pl2 ow2 → px_cnt (fun j => px_hole pl2 j && (px_on pg j || all)) b (e - b) ≤ px_nu ow2 → (∀ j, b ≤ j → j < e → px_hole pl2 j = true → wr j = nI 0) → px_mh 0 (60 * f) (fun j => px_on pg j || all) k b e pl2 ow2 = T → ww_at X 0 0 3 [(0, .ref m), (1, .int (nI a)), (2, .int (nI e)), (3, .int (px_b all)), (4, .int (nI b))] [] [(m, .inr (3, [.int cd, .ref a1, .ref a2, .ref a3, .ref a4, .ref a5, .ref a6, .ref a7, .ref a8, .int fi, .int le])), (a1, .inl (ww_g X 0, 240, .inl pl2)), (a2, .inl (ww_g X 1, 240, .inl wr)), (a3, .inl (ww_g X 1, 240, .inl pg)), (a4, .inl (ww_g X 0, 240, .inl pv)), (a5, .inl (ww_g X 0, 4, .inl sz)), (a6, .inl (ww_g X 0, 80, .inl ow2)), (a7, .inl (ww_g X 0, 80, .inl vl)), (a8, .inl (ww_g X 0, 60, .inl bf))] := by
    intro k
    induction k with
    | zero =>
      intro b pl2 ow2 h1 h2 h3 hI hc hw2 h4
      refine ww_iload O dd_MO_mapHoles_3 4 rfl ?_
      refine ww_iload_n O dd_MO_mapHoles_5 2 rfl ?_
      refine ww_icmp_geN O dd_MO_mapHoles_6 (tgt := 82) rfl (by omega) (by omega) (fun h6 => ?_) (fun h6 => ?_)
      · rw [px_mh_e (by omega)] at h4
        subst h4
        exact F.v dd_MO_mapHoles_82
      · exfalso; omega
    | succ k ih =>
      intro b pl2 ow2 h1 h2 h3 hI hc hw2 h4
      refine ww_iload O dd_MO_mapHoles_3 4 rfl ?_
      refine ww_iload_n O dd_MO_mapHoles_5 2 rfl ?_
      refine ww_icmp_geN O dd_MO_mapHoles_6 (tgt := 82) rfl (by omega) (by omega) (fun h6 => ?_) (fun h6 => ?_)
      · rw [px_mh_e (by omega)] at h4
        subst h4
        exact F.v dd_MO_mapHoles_82
      · refine ww_iconst O dd_MO_mapHoles_9 (v := nI 0) rfl ?_
        refine ww_istore O dd_MO_mapHoles_10 (by rw [hn]; decide) rfl (L' := [(0, .ref m), (1, .int (nI a)), (2, .int (nI e)), (3, .int (px_b all)), (4, .int (nI b)), (5, .int (nI 0))]) rfl ?_
        rw [px_mh, if_pos (by omega)] at h4
        generalize hr2 : px_er (fun j => px_hole pl2 j && (px_on pg j || all)) (e - b) b = r at h4
        have hcd := px_cand_m (f := f) (a := b) (by omega) (by omega) pl2
        rw [hcd] at h4
        obtain ⟨r1, r2, r3, r4, r5, r6, r7⟩ := px_row (px_cand (b % 60 == 0) pl2 b) hI (by omega) (by omega) hc hr2
        have inner : ∀ (j n : Nat), e ≤ b + n + j → b + n ≤ r → px_er (fun j => px_hole pl2 j && (px_on pg j || all)) (e - (b + n)) (b + n) = r → ww_at X 0 0 12 [(0, .ref m), (1, .int (nI a)), (2, .int (nI e)), (3, .int (px_b all)), (4, .int (nI b)), (5, .int (nI n))] [] [(m, .inr (3, [.int cd, .ref a1, .ref a2, .ref a3, .ref a4, .ref a5, .ref a6, .ref a7, .ref a8, .int fi, .int le])), (a1, .inl (ww_g X 0, 240, .inl pl2)), (a2, .inl (ww_g X 1, 240, .inl wr)), (a3, .inl (ww_g X 1, 240, .inl pg)), (a4, .inl (ww_g X 0, 240, .inl pv)), (a5, .inl (ww_g X 0, 4, .inl sz)), (a6, .inl (ww_g X 0, 80, .inl ow2)), (a7, .inl (ww_g X 0, 80, .inl vl)), (a8, .inl (ww_g X 0, 60, .inl bf))] := by
          intro j
          induction j with
          | zero =>
            intro n g1 g2 g3
            refine ww_iload O dd_MO_mapHoles_12 4 rfl ?_
            refine ww_iload O dd_MO_mapHoles_14 5 rfl ?_
            refine ww_iadd O dd_MO_mapHoles_16 (v := nI (b + n)) (nI_add _ _) ?_
            refine ww_iload_n O dd_MO_mapHoles_17 2 rfl ?_
            refine ww_icmp_geN O dd_MO_mapHoles_18 (tgt := 57) rfl (by omega) (by omega) (fun h18 => ?_) (fun h18 => ?_)
            · have hnr : n = r - b := by rw [← g3, px_er_s, if_neg (fun z => by omega)]; omega
              refine ww_iload O dd_MO_mapHoles_57 5 rfl ?_
              refine ww_if_leN O dd_MO_mapHoles_59 (tgt := 70) rfl (by omega) (fun h59 => ?_) (fun h59 => ?_)
              · have hn0 : b = r := by omega
                subst hn0
                rw [Nat.sub_self] at r5 r6 r7 h4
                refine ww_iload O dd_MO_mapHoles_70 4 rfl ?_
                refine ww_iload O dd_MO_mapHoles_72 5 rfl ?_
                refine ww_iadd O dd_MO_mapHoles_74 (v := nI (b + n)) (nI_add _ _) ?_
                refine ww_iconst O dd_MO_mapHoles_75 (v := nI 1) rfl ?_
                refine ww_iadd O dd_MO_mapHoles_76 (v := nI ((b + n) + 1)) (nI_add _ _) ?_
                refine ww_istore O dd_MO_mapHoles_77 (by rw [hn]; decide) rfl (L' := [(0, .ref m), (1, .int (nI a)), (2, .int (nI e)), (3, .int (px_b all)), (4, .int (nI ((b + n) + 1))), (5, .int (nI n))]) rfl ?_
                refine ww_goto O dd_MO_mapHoles_79 (tgt := 3) rfl ?_
                refine ww_sub [0, 1, 2, 3, 4] rfl ?_
                exact ih _ _ _ (by omega) (by omega) (by omega) hI (by rw [show b + n + 1 = b + 1 by omega]; exact r6) (fun j g5 g6 g7 => hw2 j (by omega) g6 g7) (by rw [show b + n + 1 = b + 1 by omega]; exact h4)
              · refine ww_aload_n O dd_MO_mapHoles_62 0 rfl ?_
                refine ww_iload O dd_MO_mapHoles_63 4 rfl ?_
                refine ww_iload O dd_MO_mapHoles_65 5 rfl ?_
                refine ww_callV (q0 := 0) (ci := 3) O (cc_MO_mapRow _ _ _ m a1 a2 a3 a4 a5 a6 a7 a8 cd fi le pl2 wr pg pv sz ow2 vl bf b n (fun b hb => hI.rg b hb) (fun p hp => hI.rq p hp) (fun j g5 g6 => hw2 j (by omega) (by omega) (r3 j (by omega) (by omega))) (by omega) (by omega) (by omega)) lc_MO_73 lx_MO_mapRow_II_V rfl rfl rfl (by rw [hR]; decide) (by rw [hR]; decide) (by rw [hR]; decide) rfl (Nat.le_of_ble_eq_true rfl) dd_MO_mapHoles_67 rfl [0, 1, 2, 3, 4, 5, 6, 7, 8] [] [0, 1, 2, 3, 4, 5, 6, 7, 8] rfl (by decide) rfl (by decide) (by decide) (ws' := [(m, .inr (3, [.int cd, .ref a1, .ref a2, .ref a3, .ref a4, .ref a5, .ref a6, .ref a7, .ref a8, .int fi, .int le])), (a1, .inl (ww_g X 0, 240, .inl ((px_mr 0 n b (px_cand (b % 60 == 0) pl2 b) pl2 ow2).1))), (a2, .inl (ww_g X 1, 240, .inl wr)), (a3, .inl (ww_g X 1, 240, .inl pg)), (a4, .inl (ww_g X 0, 240, .inl pv)), (a5, .inl (ww_g X 0, 4, .inl sz)), (a6, .inl (ww_g X 0, 80, .inl ((px_mr 0 n b (px_cand (b % 60 == 0) pl2 b) pl2 ow2).2))), (a7, .inl (ww_g X 0, 80, .inl vl)), (a8, .inl (ww_g X 0, 60, .inl bf))]) rfl rfl (by decide) ?_
                refine ww_iload O dd_MO_mapHoles_70 4 rfl ?_
                refine ww_iload O dd_MO_mapHoles_72 5 rfl ?_
                refine ww_iadd O dd_MO_mapHoles_74 (v := nI (b + n)) (nI_add _ _) ?_
                refine ww_iconst O dd_MO_mapHoles_75 (v := nI 1) rfl ?_
                refine ww_iadd O dd_MO_mapHoles_76 (v := nI ((b + n) + 1)) (nI_add _ _) ?_
                refine ww_istore O dd_MO_mapHoles_77 (by rw [hn]; decide) rfl (L' := [(0, .ref m), (1, .int (nI a)), (2, .int (nI e)), (3, .int (px_b all)), (4, .int (nI ((b + n) + 1))), (5, .int (nI n))]) rfl ?_
                refine ww_goto O dd_MO_mapHoles_79 (tgt := 3) rfl ?_
                refine ww_sub [0, 1, 2, 3, 4] rfl ?_
                subst hnr
                exact ih _ _ _ (by omega) (by omega) (by omega) r5 (by rw [show b + (r - b) + 1 = r + 1 by omega]; exact r6) (fun j g5 g6 g7 => hw2 j (by omega) g6 (by rw [← g7]; unfold px_hole; rw [r7 j (by omega)])) (by rw [show b + (r - b) + 1 = r + 1 by omega]; exact h4)
            · exfalso; omega
          | succ j ihj =>
            intro n g1 g2 g3
            refine ww_iload O dd_MO_mapHoles_12 4 rfl ?_
            refine ww_iload O dd_MO_mapHoles_14 5 rfl ?_
            refine ww_iadd O dd_MO_mapHoles_16 (v := nI (b + n)) (nI_add _ _) ?_
            refine ww_iload_n O dd_MO_mapHoles_17 2 rfl ?_
            refine ww_icmp_geN O dd_MO_mapHoles_18 (tgt := 57) rfl (by omega) (by omega) (fun h18 => ?_) (fun h18 => ?_)
            · have hnr : n = r - b := by rw [← g3, px_er_s, if_neg (fun z => by omega)]; omega
              refine ww_iload O dd_MO_mapHoles_57 5 rfl ?_
              refine ww_if_leN O dd_MO_mapHoles_59 (tgt := 70) rfl (by omega) (fun h59 => ?_) (fun h59 => ?_)
              · have hn0 : b = r := by omega
                subst hn0
                rw [Nat.sub_self] at r5 r6 r7 h4
                refine ww_iload O dd_MO_mapHoles_70 4 rfl ?_
                refine ww_iload O dd_MO_mapHoles_72 5 rfl ?_
                refine ww_iadd O dd_MO_mapHoles_74 (v := nI (b + n)) (nI_add _ _) ?_
                refine ww_iconst O dd_MO_mapHoles_75 (v := nI 1) rfl ?_
                refine ww_iadd O dd_MO_mapHoles_76 (v := nI ((b + n) + 1)) (nI_add _ _) ?_
                refine ww_istore O dd_MO_mapHoles_77 (by rw [hn]; decide) rfl (L' := [(0, .ref m), (1, .int (nI a)), (2, .int (nI e)), (3, .int (px_b all)), (4, .int (nI ((b + n) + 1))), (5, .int (nI n))]) rfl ?_
                refine ww_goto O dd_MO_mapHoles_79 (tgt := 3) rfl ?_
                refine ww_sub [0, 1, 2, 3, 4] rfl ?_
                exact ih _ _ _ (by omega) (by omega) (by omega) hI (by rw [show b + n + 1 = b + 1 by omega]; exact r6) (fun j g5 g6 g7 => hw2 j (by omega) g6 g7) (by rw [show b + n + 1 = b + 1 by omega]; exact h4)
              · refine ww_aload_n O dd_MO_mapHoles_62 0 rfl ?_
                refine ww_iload O dd_MO_mapHoles_63 4 rfl ?_
                refine ww_iload O dd_MO_mapHoles_65 5 rfl ?_
                refine ww_callV (q0 := 0) (ci := 3) O (cc_MO_mapRow _ _ _ m a1 a2 a3 a4 a5 a6 a7 a8 cd fi le pl2 wr pg pv sz ow2 vl bf b n (fun b hb => hI.rg b hb) (fun p hp => hI.rq p hp) (fun j g5 g6 => hw2 j (by omega) (by omega) (r3 j (by omega) (by omega))) (by omega) (by omega) (by omega)) lc_MO_73 lx_MO_mapRow_II_V rfl rfl rfl (by rw [hR]; decide) (by rw [hR]; decide) (by rw [hR]; decide) rfl (Nat.le_of_ble_eq_true rfl) dd_MO_mapHoles_67 rfl [0, 1, 2, 3, 4, 5, 6, 7, 8] [] [0, 1, 2, 3, 4, 5, 6, 7, 8] rfl (by decide) rfl (by decide) (by decide) (ws' := [(m, .inr (3, [.int cd, .ref a1, .ref a2, .ref a3, .ref a4, .ref a5, .ref a6, .ref a7, .ref a8, .int fi, .int le])), (a1, .inl (ww_g X 0, 240, .inl ((px_mr 0 n b (px_cand (b % 60 == 0) pl2 b) pl2 ow2).1))), (a2, .inl (ww_g X 1, 240, .inl wr)), (a3, .inl (ww_g X 1, 240, .inl pg)), (a4, .inl (ww_g X 0, 240, .inl pv)), (a5, .inl (ww_g X 0, 4, .inl sz)), (a6, .inl (ww_g X 0, 80, .inl ((px_mr 0 n b (px_cand (b % 60 == 0) pl2 b) pl2 ow2).2))), (a7, .inl (ww_g X 0, 80, .inl vl)), (a8, .inl (ww_g X 0, 60, .inl bf))]) rfl rfl (by decide) ?_
                refine ww_iload O dd_MO_mapHoles_70 4 rfl ?_
                refine ww_iload O dd_MO_mapHoles_72 5 rfl ?_
                refine ww_iadd O dd_MO_mapHoles_74 (v := nI (b + n)) (nI_add _ _) ?_
                refine ww_iconst O dd_MO_mapHoles_75 (v := nI 1) rfl ?_
                refine ww_iadd O dd_MO_mapHoles_76 (v := nI ((b + n) + 1)) (nI_add _ _) ?_
                refine ww_istore O dd_MO_mapHoles_77 (by rw [hn]; decide) rfl (L' := [(0, .ref m), (1, .int (nI a)), (2, .int (nI e)), (3, .int (px_b all)), (4, .int (nI ((b + n) + 1))), (5, .int (nI n))]) rfl ?_
                refine ww_goto O dd_MO_mapHoles_79 (tgt := 3) rfl ?_
                refine ww_sub [0, 1, 2, 3, 4] rfl ?_
                subst hnr
                exact ih _ _ _ (by omega) (by omega) (by omega) r5 (by rw [show b + (r - b) + 1 = r + 1 by omega]; exact r6) (fun j g5 g6 g7 => hw2 j (by omega) g6 (by rw [← g7]; unfold px_hole; rw [r7 j (by omega)])) (by rw [show b + (r - b) + 1 = r + 1 by omega]; exact h4)
            · refine ww_aload_n O dd_MO_mapHoles_21 0 rfl ?_
              refine ww_get O ci_MO rfl 1 (by decide) lf_MO_7 rfl dd_MO_mapHoles_22 0 rfl rfl ?_
              refine ww_iload O dd_MO_mapHoles_25 4 rfl ?_
              refine ww_iload O dd_MO_mapHoles_27 5 rfl ?_
              refine ww_iadd O dd_MO_mapHoles_29 (v := nI (b + n)) (nI_add _ _) ?_
              refine ww_iald O dd_MO_mapHoles_30 1 rfl (by omega) (by decide) rfl ?_
              refine ww_if_ge O dd_MO_mapHoles_31 (tgt := 57) rfl (fun h31 => ?_) (fun h31 => ?_)
              · have hnr : n = r - b := by rw [← g3, px_er_s, if_neg (fun z => by have q := z.2; simp [px_rg.ge0 (hI.rg (b + n) (by omega)) h31] at q)]; omega
                refine ww_iload O dd_MO_mapHoles_57 5 rfl ?_
                refine ww_if_leN O dd_MO_mapHoles_59 (tgt := 70) rfl (by omega) (fun h59 => ?_) (fun h59 => ?_)
                · have hn0 : b = r := by omega
                  subst hn0
                  rw [Nat.sub_self] at r5 r6 r7 h4
                  refine ww_iload O dd_MO_mapHoles_70 4 rfl ?_
                  refine ww_iload O dd_MO_mapHoles_72 5 rfl ?_
                  refine ww_iadd O dd_MO_mapHoles_74 (v := nI (b + n)) (nI_add _ _) ?_
                  refine ww_iconst O dd_MO_mapHoles_75 (v := nI 1) rfl ?_
                  refine ww_iadd O dd_MO_mapHoles_76 (v := nI ((b + n) + 1)) (nI_add _ _) ?_
                  refine ww_istore O dd_MO_mapHoles_77 (by rw [hn]; decide) rfl (L' := [(0, .ref m), (1, .int (nI a)), (2, .int (nI e)), (3, .int (px_b all)), (4, .int (nI ((b + n) + 1))), (5, .int (nI n))]) rfl ?_
                  refine ww_goto O dd_MO_mapHoles_79 (tgt := 3) rfl ?_
                  refine ww_sub [0, 1, 2, 3, 4] rfl ?_
                  exact ih _ _ _ (by omega) (by omega) (by omega) hI (by rw [show b + n + 1 = b + 1 by omega]; exact r6) (fun j g5 g6 g7 => hw2 j (by omega) g6 g7) (by rw [show b + n + 1 = b + 1 by omega]; exact h4)
                · refine ww_aload_n O dd_MO_mapHoles_62 0 rfl ?_
                  refine ww_iload O dd_MO_mapHoles_63 4 rfl ?_
                  refine ww_iload O dd_MO_mapHoles_65 5 rfl ?_
                  refine ww_callV (q0 := 0) (ci := 3) O (cc_MO_mapRow _ _ _ m a1 a2 a3 a4 a5 a6 a7 a8 cd fi le pl2 wr pg pv sz ow2 vl bf b n (fun b hb => hI.rg b hb) (fun p hp => hI.rq p hp) (fun j g5 g6 => hw2 j (by omega) (by omega) (r3 j (by omega) (by omega))) (by omega) (by omega) (by omega)) lc_MO_73 lx_MO_mapRow_II_V rfl rfl rfl (by rw [hR]; decide) (by rw [hR]; decide) (by rw [hR]; decide) rfl (Nat.le_of_ble_eq_true rfl) dd_MO_mapHoles_67 rfl [0, 1, 2, 3, 4, 5, 6, 7, 8] [] [0, 1, 2, 3, 4, 5, 6, 7, 8] rfl (by decide) rfl (by decide) (by decide) (ws' := [(m, .inr (3, [.int cd, .ref a1, .ref a2, .ref a3, .ref a4, .ref a5, .ref a6, .ref a7, .ref a8, .int fi, .int le])), (a1, .inl (ww_g X 0, 240, .inl ((px_mr 0 n b (px_cand (b % 60 == 0) pl2 b) pl2 ow2).1))), (a2, .inl (ww_g X 1, 240, .inl wr)), (a3, .inl (ww_g X 1, 240, .inl pg)), (a4, .inl (ww_g X 0, 240, .inl pv)), (a5, .inl (ww_g X 0, 4, .inl sz)), (a6, .inl (ww_g X 0, 80, .inl ((px_mr 0 n b (px_cand (b % 60 == 0) pl2 b) pl2 ow2).2))), (a7, .inl (ww_g X 0, 80, .inl vl)), (a8, .inl (ww_g X 0, 60, .inl bf))]) rfl rfl (by decide) ?_
                  refine ww_iload O dd_MO_mapHoles_70 4 rfl ?_
                  refine ww_iload O dd_MO_mapHoles_72 5 rfl ?_
                  refine ww_iadd O dd_MO_mapHoles_74 (v := nI (b + n)) (nI_add _ _) ?_
                  refine ww_iconst O dd_MO_mapHoles_75 (v := nI 1) rfl ?_
                  refine ww_iadd O dd_MO_mapHoles_76 (v := nI ((b + n) + 1)) (nI_add _ _) ?_
                  refine ww_istore O dd_MO_mapHoles_77 (by rw [hn]; decide) rfl (L' := [(0, .ref m), (1, .int (nI a)), (2, .int (nI e)), (3, .int (px_b all)), (4, .int (nI ((b + n) + 1))), (5, .int (nI n))]) rfl ?_
                  refine ww_goto O dd_MO_mapHoles_79 (tgt := 3) rfl ?_
                  refine ww_sub [0, 1, 2, 3, 4] rfl ?_
                  subst hnr
                  exact ih _ _ _ (by omega) (by omega) (by omega) r5 (by rw [show b + (r - b) + 1 = r + 1 by omega]; exact r6) (fun j g5 g6 g7 => hw2 j (by omega) g6 (by rw [← g7]; unfold px_hole; rw [r7 j (by omega)])) (by rw [show b + (r - b) + 1 = r + 1 by omega]; exact h4)
              · refine ww_iload_n O dd_MO_mapHoles_34 3 rfl ?_
                refine ww_if_neB O dd_MO_mapHoles_35 (tgt := 51) rfl (fun h35 => ?_) (fun h35 => ?_)
                · refine ww_iinc O dd_MO_mapHoles_51 5 rfl (v := nI (n + 1)) (nI_add _ 1) (by rw [hn]; decide) rfl (L' := [(0, .ref m), (1, .int (nI a)), (2, .int (nI e)), (3, .int (px_b all)), (4, .int (nI b)), (5, .int (nI (n + 1)))]) rfl ?_
                  refine ww_goto O dd_MO_mapHoles_54 (tgt := 12) rfl ?_
                  have hPb : (px_hole pl2 (b + n) && (px_on pg (b + n) || all)) = true := by simp [px_on, px_rg.lt0 (hI.rg (b + n) (by omega)) h31, h35]
                  have g4 := g3
                  rw [px_er_s, if_pos ⟨by omega, hPb⟩, show e - (b + n) - 1 = e - (b + (n + 1)) by omega, show b + n + 1 = b + (n + 1) by omega] at g4
                  have g5 := (px_er_le (fun j => px_hole pl2 j && (px_on pg j || all)) (e - (b + (n + 1))) (b + (n + 1))).1
                  exact ihj (n + 1) (by omega) (by omega) g4
                · refine ww_aload_n O dd_MO_mapHoles_38 0 rfl ?_
                  refine ww_get O ci_MO rfl 3 (by decide) lf_MO_17 rfl dd_MO_mapHoles_39 0 rfl rfl ?_
                  refine ww_iload O dd_MO_mapHoles_42 4 rfl ?_
                  refine ww_iload O dd_MO_mapHoles_44 5 rfl ?_
                  refine ww_iadd O dd_MO_mapHoles_46 (v := nI (b + n)) (nI_add _ _) ?_
                  refine ww_zald O dd_MO_mapHoles_47 3 rfl (by omega) (by decide) rfl ?_
                  refine ww_if_eq O dd_MO_mapHoles_48 (tgt := 57) rfl (fun h48 => ?_) (fun h48 => ?_)
                  · have hnr : n = r - b := by rw [← g3, px_er_s, if_neg (fun z => by have q := z.2; simp [px_on, h35, h48] at q)]; omega
                    refine ww_iload O dd_MO_mapHoles_57 5 rfl ?_
                    refine ww_if_leN O dd_MO_mapHoles_59 (tgt := 70) rfl (by omega) (fun h59 => ?_) (fun h59 => ?_)
                    · have hn0 : b = r := by omega
                      subst hn0
                      rw [Nat.sub_self] at r5 r6 r7 h4
                      refine ww_iload O dd_MO_mapHoles_70 4 rfl ?_
                      refine ww_iload O dd_MO_mapHoles_72 5 rfl ?_
                      refine ww_iadd O dd_MO_mapHoles_74 (v := nI (b + n)) (nI_add _ _) ?_
                      refine ww_iconst O dd_MO_mapHoles_75 (v := nI 1) rfl ?_
                      refine ww_iadd O dd_MO_mapHoles_76 (v := nI ((b + n) + 1)) (nI_add _ _) ?_
                      refine ww_istore O dd_MO_mapHoles_77 (by rw [hn]; decide) rfl (L' := [(0, .ref m), (1, .int (nI a)), (2, .int (nI e)), (3, .int (px_b all)), (4, .int (nI ((b + n) + 1))), (5, .int (nI n))]) rfl ?_
                      refine ww_goto O dd_MO_mapHoles_79 (tgt := 3) rfl ?_
                      refine ww_sub [0, 1, 2, 3, 4] rfl ?_
                      exact ih _ _ _ (by omega) (by omega) (by omega) hI (by rw [show b + n + 1 = b + 1 by omega]; exact r6) (fun j g5 g6 g7 => hw2 j (by omega) g6 g7) (by rw [show b + n + 1 = b + 1 by omega]; exact h4)
                    · refine ww_aload_n O dd_MO_mapHoles_62 0 rfl ?_
                      refine ww_iload O dd_MO_mapHoles_63 4 rfl ?_
                      refine ww_iload O dd_MO_mapHoles_65 5 rfl ?_
                      refine ww_callV (q0 := 0) (ci := 3) O (cc_MO_mapRow _ _ _ m a1 a2 a3 a4 a5 a6 a7 a8 cd fi le pl2 wr pg pv sz ow2 vl bf b n (fun b hb => hI.rg b hb) (fun p hp => hI.rq p hp) (fun j g5 g6 => hw2 j (by omega) (by omega) (r3 j (by omega) (by omega))) (by omega) (by omega) (by omega)) lc_MO_73 lx_MO_mapRow_II_V rfl rfl rfl (by rw [hR]; decide) (by rw [hR]; decide) (by rw [hR]; decide) rfl (Nat.le_of_ble_eq_true rfl) dd_MO_mapHoles_67 rfl [0, 1, 2, 3, 4, 5, 6, 7, 8] [] [0, 1, 2, 3, 4, 5, 6, 7, 8] rfl (by decide) rfl (by decide) (by decide) (ws' := [(m, .inr (3, [.int cd, .ref a1, .ref a2, .ref a3, .ref a4, .ref a5, .ref a6, .ref a7, .ref a8, .int fi, .int le])), (a1, .inl (ww_g X 0, 240, .inl ((px_mr 0 n b (px_cand (b % 60 == 0) pl2 b) pl2 ow2).1))), (a2, .inl (ww_g X 1, 240, .inl wr)), (a3, .inl (ww_g X 1, 240, .inl pg)), (a4, .inl (ww_g X 0, 240, .inl pv)), (a5, .inl (ww_g X 0, 4, .inl sz)), (a6, .inl (ww_g X 0, 80, .inl ((px_mr 0 n b (px_cand (b % 60 == 0) pl2 b) pl2 ow2).2))), (a7, .inl (ww_g X 0, 80, .inl vl)), (a8, .inl (ww_g X 0, 60, .inl bf))]) rfl rfl (by decide) ?_
                      refine ww_iload O dd_MO_mapHoles_70 4 rfl ?_
                      refine ww_iload O dd_MO_mapHoles_72 5 rfl ?_
                      refine ww_iadd O dd_MO_mapHoles_74 (v := nI (b + n)) (nI_add _ _) ?_
                      refine ww_iconst O dd_MO_mapHoles_75 (v := nI 1) rfl ?_
                      refine ww_iadd O dd_MO_mapHoles_76 (v := nI ((b + n) + 1)) (nI_add _ _) ?_
                      refine ww_istore O dd_MO_mapHoles_77 (by rw [hn]; decide) rfl (L' := [(0, .ref m), (1, .int (nI a)), (2, .int (nI e)), (3, .int (px_b all)), (4, .int (nI ((b + n) + 1))), (5, .int (nI n))]) rfl ?_
                      refine ww_goto O dd_MO_mapHoles_79 (tgt := 3) rfl ?_
                      refine ww_sub [0, 1, 2, 3, 4] rfl ?_
                      subst hnr
                      exact ih _ _ _ (by omega) (by omega) (by omega) r5 (by rw [show b + (r - b) + 1 = r + 1 by omega]; exact r6) (fun j g5 g6 g7 => hw2 j (by omega) g6 (by rw [← g7]; unfold px_hole; rw [r7 j (by omega)])) (by rw [show b + (r - b) + 1 = r + 1 by omega]; exact h4)
                  · refine ww_iinc O dd_MO_mapHoles_51 5 rfl (v := nI (n + 1)) (nI_add _ 1) (by rw [hn]; decide) rfl (L' := [(0, .ref m), (1, .int (nI a)), (2, .int (nI e)), (3, .int (px_b all)), (4, .int (nI b)), (5, .int (nI (n + 1)))]) rfl ?_
                    refine ww_goto O dd_MO_mapHoles_54 (tgt := 12) rfl ?_
                    have hPb : (px_hole pl2 (b + n) && (px_on pg (b + n) || all)) = true := by simp [px_on, px_rg.lt0 (hI.rg (b + n) (by omega)) h31, h48]
                    have g4 := g3
                    rw [px_er_s, if_pos ⟨by omega, hPb⟩, show e - (b + n) - 1 = e - (b + (n + 1)) by omega, show b + n + 1 = b + (n + 1) by omega] at g4
                    have g5 := (px_er_le (fun j => px_hole pl2 j && (px_on pg j || all)) (e - (b + (n + 1))) (b + (n + 1))).1
                    exact ihj (n + 1) (by omega) (by omega) g4
        exact inner e 0 (by omega) (by omega) (by rw [Nat.add_zero]; exact hr2)
  refine ww_iload_n O dd_MO_mapHoles_0 1 rfl ?_
  refine ww_istore O dd_MO_mapHoles_1 (by rw [hn]; decide) rfl (L' := [(0, .ref m), (1, .int (nI a)), (2, .int (nI e)), (3, .int (px_b all)), (4, .int (nI a))]) rfl ?_
  exact loop 60 a pl ow (by omega) (by omega) (by omega) hI hnu hw hT
set_option maxRecDepth 4000 in
theorem cc_MO_empty (l : Launch) (D : va_G) (g : Nat → ClassId) (m : Nat) (a1 : Nat) (a2 : Nat) (a3 : Nat) (a4 : Nat) (a5 : Nat) (a6 : Nat) (a7 : Nat) (a8 : Nat) (cd : Int32) (fi : Int32) (le : Int32) (pl : Nat → Int32) (wr : Nat → Int32) (pg : Nat → Int32) (pv : Nat → Int32) (sz : Nat → Int32) (ow : Nat → Int32) (vl : Nat → Int32) (bf : Nat → Int32) (a : Nat) (e : Nat) (hr : ∀ b, b < 240 → px_rg (pl b)) (ha : a ≤ e) (he : e ≤ 240) : ww_ct l D g yy_MO_empty bb_MO_empty 5 (some .int) (ww_rm 2) [.ref m, .int (nI a), .int (nI e)] [(m, .inr (3, [.int cd, .ref a1, .ref a2, .ref a3, .ref a4, .ref a5, .ref a6, .ref a7, .ref a8, .int fi, .int le])), (a1, .inl (g 0, 240, .inl pl)), (a2, .inl (g 1, 240, .inl wr)), (a3, .inl (g 1, 240, .inl pg)), (a4, .inl (g 0, 240, .inl pv)), (a5, .inl (g 0, 4, .inl sz)), (a6, .inl (g 0, 80, .inl ow)), (a7, .inl (g 0, 80, .inl vl)), (a8, .inl (g 0, 60, .inl bf))] (some (.int (nI (px_cnt (fun j => !px_hole pl j) a (e - a))))) [(m, .inr (3, [.int cd, .ref a1, .ref a2, .ref a3, .ref a4, .ref a5, .ref a6, .ref a7, .ref a8, .int fi, .int le])), (a1, .inl (g 0, 240, .inl (px_fill pl (a) (e - (a)) (-1)))), (a2, .inl (g 1, 240, .inl (px_fill wr (a) (e - (a)) (nI 0)))), (a3, .inl (g 1, 240, .inl (px_fill pg (a) (e - (a)) (nI 0)))), (a4, .inl (g 0, 240, .inl pv)), (a5, .inl (g 0, 4, .inl sz)), (a6, .inl (g 0, 80, .inl (px_rel (fun _ => true) pl (e - (a)) (a) ow))), (a7, .inl (g 0, 80, .inl vl)), (a8, .inl (g 0, 60, .inl bf))] := by
  refine ww_start (by decide +kernel) rfl rfl (Nat.le_of_ble_eq_true rfl) (L0 := [(0, .ref m), (1, .int (nI a)), (2, .int (nI e))]) rfl ?_
  intro X O hl hD hg hR hn F
  subst hl hD hg
  generalize hT : px_rel (fun _ => true) pl (e - a) a ow = T at F
  have loop : ∀ (k b n : Nat) (ow2 : Nat → Int32), e ≤ b + k → a ≤ b → b ≤ e → n = px_cnt (fun j => !px_hole pl j) a (b - a) → px_rel (fun _ => true) pl (e - b) b ow2 = T → ww_at X 0 0 5 [(0, .ref m), (1, .int (nI a)), (2, .int (nI e)), (3, .int (nI n)), (4, .int (nI b))] [] [(m, .inr (3, [.int cd, .ref a1, .ref a2, .ref a3, .ref a4, .ref a5, .ref a6, .ref a7, .ref a8, .int fi, .int le])), (a1, .inl (ww_g X 0, 240, .inl (px_fill pl a (b - a) (-1)))), (a2, .inl (ww_g X 1, 240, .inl (px_fill wr a (b - a) (nI 0)))), (a3, .inl (ww_g X 1, 240, .inl (px_fill pg a (b - a) (nI 0)))), (a4, .inl (ww_g X 0, 240, .inl pv)), (a5, .inl (ww_g X 0, 4, .inl sz)), (a6, .inl (ww_g X 0, 80, .inl ow2)), (a7, .inl (ww_g X 0, 80, .inl vl)), (a8, .inl (ww_g X 0, 60, .inl bf))] := by
    intro k
    induction k with
    | zero =>
      intro b n ow2 h1 h2 h3 h5 h4
      have hn9 := px_cnt_le (fun j => !px_hole pl j) a (b - a)
      refine ww_iload O dd_MO_empty_5 4 rfl ?_
      refine ww_iload_n O dd_MO_empty_7 2 rfl ?_
      refine ww_icmp_geN O dd_MO_empty_8 (tgt := 49) rfl (by omega) (by omega) (fun h8 => ?_) (fun h8 => ?_)
      · refine ww_iload_n O dd_MO_empty_49 3 rfl ?_
        have eb : b = e := by omega
        subst eb
        rw [Nat.sub_self] at h4
        subst h4
        subst h5
        exact F.i dd_MO_empty_50
      · exfalso; omega
    | succ k ih =>
      intro b n ow2 h1 h2 h3 h5 h4
      have hn9 := px_cnt_le (fun j => !px_hole pl j) a (b - a)
      refine ww_iload O dd_MO_empty_5 4 rfl ?_
      refine ww_iload_n O dd_MO_empty_7 2 rfl ?_
      refine ww_icmp_geN O dd_MO_empty_8 (tgt := 49) rfl (by omega) (by omega) (fun h8 => ?_) (fun h8 => ?_)
      · refine ww_iload_n O dd_MO_empty_49 3 rfl ?_
        have eb : b = e := by omega
        subst eb
        rw [Nat.sub_self] at h4
        subst h4
        subst h5
        exact F.i dd_MO_empty_50
      · refine ww_aload_n O dd_MO_empty_11 0 rfl ?_
        refine ww_get O ci_MO rfl 1 (by decide) lf_MO_7 rfl dd_MO_empty_12 0 rfl rfl ?_
        refine ww_iload O dd_MO_empty_15 4 rfl ?_
        refine ww_iald O dd_MO_empty_17 1 rfl (by omega) (by decide) rfl ?_
        rw [px_fill_o (by omega)]
        refine ww_if_lt O dd_MO_empty_18 (tgt := 27) rfl (fun h18 => ?_) (fun h18 => ?_)
        · refine ww_iload_n O dd_MO_empty_27 3 rfl ?_
          refine ww_istore_n O dd_MO_empty_28 (by rw [hn]; decide) rfl (L' := [(0, .ref m), (1, .int (nI a)), (2, .int (nI e)), (3, .int (nI n)), (4, .int (nI b))]) rfl ?_
          refine ww_aload_n O dd_MO_empty_29 0 rfl ?_
          refine ww_iload O dd_MO_empty_30 4 rfl ?_
          refine ww_callV (q0 := 0) (ci := 3) O (cc_MO_unmap _ _ _ m a1 a2 a3 a4 a5 a6 a7 a8 cd fi le (px_fill pl a (b - a) (-1)) (px_fill wr a (b - a) (nI 0)) (px_fill pg a (b - a) (nI 0)) pv sz ow2 vl bf b (by rw [px_fill_o (by omega)]; exact hr b (by omega)) (by omega)) lc_MO_96 lx_MO_unmap_I_V rfl rfl rfl (by rw [hR]; decide) (by rw [hR]; decide) (by rw [hR]; decide) rfl (Nat.le_of_ble_eq_true rfl) dd_MO_empty_32 rfl [0, 1, 2, 3, 4, 5, 6, 7, 8] [] [0, 1, 2, 3, 4, 5, 6, 7, 8] rfl (by decide) rfl (by decide) (by decide) (ws' := [(m, .inr (3, [.int cd, .ref a1, .ref a2, .ref a3, .ref a4, .ref a5, .ref a6, .ref a7, .ref a8, .int fi, .int le])), (a1, .inl (ww_g X 0, 240, .inl (upd (px_fill pl a (b - a) (-1)) b (-1)))), (a2, .inl (ww_g X 1, 240, .inl (upd (px_fill wr a (b - a) (nI 0)) b (nI 0)))), (a3, .inl (ww_g X 1, 240, .inl (px_fill pg a (b - a) (nI 0)))), (a4, .inl (ww_g X 0, 240, .inl pv)), (a5, .inl (ww_g X 0, 4, .inl sz)), (a6, .inl (ww_g X 0, 80, .inl (if px_hole (px_fill pl a (b - a) (-1)) b = true then ow2 else upd ow2 ((px_fill pl a (b - a) (-1)) b).toNatClampNeg (-1)))), (a7, .inl (ww_g X 0, 80, .inl vl)), (a8, .inl (ww_g X 0, 60, .inl bf))]) rfl rfl (by decide) ?_
          refine ww_aload_n O dd_MO_empty_35 0 rfl ?_
          refine ww_get O ci_MO rfl 3 (by decide) lf_MO_17 rfl dd_MO_empty_36 0 rfl rfl ?_
          refine ww_iload O dd_MO_empty_39 4 rfl ?_
          refine ww_iconst O dd_MO_empty_41 (v := nI 0) rfl ?_
          refine ww_zast O dd_MO_empty_42 3 rfl (by omega) (by decide) rfl (ws' := [(m, .inr (3, [.int cd, .ref a1, .ref a2, .ref a3, .ref a4, .ref a5, .ref a6, .ref a7, .ref a8, .int fi, .int le])), (a1, .inl (ww_g X 0, 240, .inl (upd (px_fill pl a (b - a) (-1)) b (-1)))), (a2, .inl (ww_g X 1, 240, .inl (upd (px_fill wr a (b - a) (nI 0)) b (nI 0)))), (a3, .inl (ww_g X 1, 240, .inl (upd (px_fill pg a (b - a) (nI 0)) b (nI 0)))), (a4, .inl (ww_g X 0, 240, .inl pv)), (a5, .inl (ww_g X 0, 4, .inl sz)), (a6, .inl (ww_g X 0, 80, .inl (if px_hole (px_fill pl a (b - a) (-1)) b = true then ow2 else upd ow2 ((px_fill pl a (b - a) (-1)) b).toNatClampNeg (-1)))), (a7, .inl (ww_g X 0, 80, .inl vl)), (a8, .inl (ww_g X 0, 60, .inl bf))]) rfl ?_
          refine ww_iinc O dd_MO_empty_43 4 rfl (v := nI (b + 1)) (nI_add _ 1) (by rw [hn]; decide) rfl (L' := [(0, .ref m), (1, .int (nI a)), (2, .int (nI e)), (3, .int (nI n)), (4, .int (nI (b + 1)))]) rfl ?_
          refine ww_goto O dd_MO_empty_46 (tgt := 5) rfl ?_
          rw [px_fill_sa h2, px_fill_sa h2, px_fill_sa h2, px_hole_fl (by omega), px_fill_o (by omega)]
          exact ih (b + 1) n _ (by omega) (by omega) (by omega) (px_caf h2 h5 (by simp [(hr b (by omega)).lt h18])) (by rw [← h4, px_rel_s (b := b) (by omega), (hr b (by omega)).lt h18]; rfl)
        · refine ww_iload_n O dd_MO_empty_21 3 rfl ?_
          refine ww_iconst O dd_MO_empty_22 (v := nI 1) rfl ?_
          refine ww_iadd O dd_MO_empty_23 (v := nI (n + 1)) (nI_add _ _) ?_
          refine ww_goto O dd_MO_empty_24 (tgt := 28) rfl ?_
          refine ww_istore_n O dd_MO_empty_28 (by rw [hn]; decide) rfl (L' := [(0, .ref m), (1, .int (nI a)), (2, .int (nI e)), (3, .int (nI (n + 1))), (4, .int (nI b))]) rfl ?_
          refine ww_aload_n O dd_MO_empty_29 0 rfl ?_
          refine ww_iload O dd_MO_empty_30 4 rfl ?_
          refine ww_callV (q0 := 0) (ci := 3) O (cc_MO_unmap _ _ _ m a1 a2 a3 a4 a5 a6 a7 a8 cd fi le (px_fill pl a (b - a) (-1)) (px_fill wr a (b - a) (nI 0)) (px_fill pg a (b - a) (nI 0)) pv sz ow2 vl bf b (by rw [px_fill_o (by omega)]; exact hr b (by omega)) (by omega)) lc_MO_96 lx_MO_unmap_I_V rfl rfl rfl (by rw [hR]; decide) (by rw [hR]; decide) (by rw [hR]; decide) rfl (Nat.le_of_ble_eq_true rfl) dd_MO_empty_32 rfl [0, 1, 2, 3, 4, 5, 6, 7, 8] [] [0, 1, 2, 3, 4, 5, 6, 7, 8] rfl (by decide) rfl (by decide) (by decide) (ws' := [(m, .inr (3, [.int cd, .ref a1, .ref a2, .ref a3, .ref a4, .ref a5, .ref a6, .ref a7, .ref a8, .int fi, .int le])), (a1, .inl (ww_g X 0, 240, .inl (upd (px_fill pl a (b - a) (-1)) b (-1)))), (a2, .inl (ww_g X 1, 240, .inl (upd (px_fill wr a (b - a) (nI 0)) b (nI 0)))), (a3, .inl (ww_g X 1, 240, .inl (px_fill pg a (b - a) (nI 0)))), (a4, .inl (ww_g X 0, 240, .inl pv)), (a5, .inl (ww_g X 0, 4, .inl sz)), (a6, .inl (ww_g X 0, 80, .inl (if px_hole (px_fill pl a (b - a) (-1)) b = true then ow2 else upd ow2 ((px_fill pl a (b - a) (-1)) b).toNatClampNeg (-1)))), (a7, .inl (ww_g X 0, 80, .inl vl)), (a8, .inl (ww_g X 0, 60, .inl bf))]) rfl rfl (by decide) ?_
          refine ww_aload_n O dd_MO_empty_35 0 rfl ?_
          refine ww_get O ci_MO rfl 3 (by decide) lf_MO_17 rfl dd_MO_empty_36 0 rfl rfl ?_
          refine ww_iload O dd_MO_empty_39 4 rfl ?_
          refine ww_iconst O dd_MO_empty_41 (v := nI 0) rfl ?_
          refine ww_zast O dd_MO_empty_42 3 rfl (by omega) (by decide) rfl (ws' := [(m, .inr (3, [.int cd, .ref a1, .ref a2, .ref a3, .ref a4, .ref a5, .ref a6, .ref a7, .ref a8, .int fi, .int le])), (a1, .inl (ww_g X 0, 240, .inl (upd (px_fill pl a (b - a) (-1)) b (-1)))), (a2, .inl (ww_g X 1, 240, .inl (upd (px_fill wr a (b - a) (nI 0)) b (nI 0)))), (a3, .inl (ww_g X 1, 240, .inl (upd (px_fill pg a (b - a) (nI 0)) b (nI 0)))), (a4, .inl (ww_g X 0, 240, .inl pv)), (a5, .inl (ww_g X 0, 4, .inl sz)), (a6, .inl (ww_g X 0, 80, .inl (if px_hole (px_fill pl a (b - a) (-1)) b = true then ow2 else upd ow2 ((px_fill pl a (b - a) (-1)) b).toNatClampNeg (-1)))), (a7, .inl (ww_g X 0, 80, .inl vl)), (a8, .inl (ww_g X 0, 60, .inl bf))]) rfl ?_
          refine ww_iinc O dd_MO_empty_43 4 rfl (v := nI (b + 1)) (nI_add _ 1) (by rw [hn]; decide) rfl (L' := [(0, .ref m), (1, .int (nI a)), (2, .int (nI e)), (3, .int (nI (n + 1))), (4, .int (nI (b + 1)))]) rfl ?_
          refine ww_goto O dd_MO_empty_46 (tgt := 5) rfl ?_
          rw [px_fill_sa h2, px_fill_sa h2, px_fill_sa h2, px_hole_fl (by omega), px_fill_o (by omega)]
          exact ih (b + 1) (n + 1) _ (by omega) (by omega) (by omega) (px_cat h2 h5 (by simp [(hr b (by omega)).ge h18])) (by rw [← h4, px_rel_s (b := b) (by omega), (hr b (by omega)).ge h18]; rfl)
  have h0 := loop e a 0 ow (by omega) (by omega) (by omega) (by rw [Nat.sub_self]; rfl) hT
  rw [Nat.sub_self, px_fill_0, px_fill_0, px_fill_0] at h0
  refine ww_iconst O dd_MO_empty_0 (v := nI 0) rfl ?_
  refine ww_istore_n O dd_MO_empty_1 (by rw [hn]; decide) rfl (L' := [(0, .ref m), (1, .int (nI a)), (2, .int (nI e)), (3, .int (nI 0))]) rfl ?_
  refine ww_iload_n O dd_MO_empty_2 1 rfl ?_
  refine ww_istore O dd_MO_empty_3 (by rw [hn]; decide) rfl (L' := [(0, .ref m), (1, .int (nI a)), (2, .int (nI e)), (3, .int (nI 0)), (4, .int (nI a))]) rfl ?_
  exact h0
end
section
theorem lc_MO_79 : ww_site "DelayedExtentsModel" 79 yy_MO_noFile bb_MO_noFile 1 (some .boolean) 1 := ⟨List.mem_filter.mpr ⟨List.mem_of_getElem? (i := 550) (by decide +kernel), by decide +kernel⟩, List.mem_filter.mpr ⟨List.mem_of_getElem? (i := 548) (by decide +kernel), by decide +kernel⟩, List.mem_filter.mpr ⟨List.mem_of_getElem? (i := 30) (by decide +kernel), by decide +kernel⟩, by decide, by decide, by decide +kernel⟩
theorem ls_MO_noFile_I_Z : Cond.static yy_MO_noFile ∈ lw_good := List.mem_filter.mpr ⟨List.mem_of_getElem? (i := 549) (by decide +kernel), by decide +kernel⟩
theorem lc_MO_82 : ww_site "DelayedExtentsModel" 82 yy_MO_noBlock bb_MO_noBlock 1 (some .boolean) 1 := ⟨List.mem_filter.mpr ⟨List.mem_of_getElem? (i := 553) (by decide +kernel), by decide +kernel⟩, List.mem_filter.mpr ⟨List.mem_of_getElem? (i := 551) (by decide +kernel), by decide +kernel⟩, List.mem_filter.mpr ⟨List.mem_of_getElem? (i := 30) (by decide +kernel), by decide +kernel⟩, by decide, by decide, by decide +kernel⟩
theorem ls_MO_noBlock_I_Z : Cond.static yy_MO_noBlock ∈ lw_good := List.mem_filter.mpr ⟨List.mem_of_getElem? (i := 552) (by decide +kernel), by decide +kernel⟩
theorem lf_MO_29 : Cond.fieldLink "DelayedExtentsModel" 29 "DelayedExtentsModel" "values" "[I" ∈ lw_good := List.mem_filter.mpr ⟨List.mem_of_getElem? (i := 509) (by decide +kernel), by decide +kernel⟩
theorem lf_MO_20 : Cond.fieldLink "DelayedExtentsModel" 20 "DelayedExtentsModel" "pages" "[I" ∈ lw_good := List.mem_filter.mpr ⟨List.mem_of_getElem? (i := 506) (by decide +kernel), by decide +kernel⟩
theorem lc_MO_85 : ww_site "DelayedExtentsModel" 85 yy_MO_allFree bb_MO_allFree 3 (some .int) 0 := ⟨List.mem_filter.mpr ⟨List.mem_of_getElem? (i := 557) (by decide +kernel), by decide +kernel⟩, List.mem_filter.mpr ⟨List.mem_of_getElem? (i := 554) (by decide +kernel), by decide +kernel⟩, List.mem_filter.mpr ⟨List.mem_of_getElem? (i := 30) (by decide +kernel), by decide +kernel⟩, by decide, by decide, by decide +kernel⟩
theorem lx_MO_allFree__I : ww_virt yy_MO_allFree := ⟨List.mem_filter.mpr ⟨List.mem_of_getElem? (i := 556) (by decide +kernel), by decide +kernel⟩, List.mem_filter.mpr ⟨List.mem_of_getElem? (i := 12) (by decide +kernel), by decide +kernel⟩⟩
theorem lc_MO_89 : ww_site "DelayedExtentsModel" 89 yy_MO_allReserved bb_MO_allReserved 3 (some .int) 0 := ⟨List.mem_filter.mpr ⟨List.mem_of_getElem? (i := 576) (by decide +kernel), by decide +kernel⟩, List.mem_filter.mpr ⟨List.mem_of_getElem? (i := 573) (by decide +kernel), by decide +kernel⟩, List.mem_filter.mpr ⟨List.mem_of_getElem? (i := 30) (by decide +kernel), by decide +kernel⟩, by decide, by decide, by decide +kernel⟩
theorem lx_MO_allReserved__I : ww_virt yy_MO_allReserved := ⟨List.mem_filter.mpr ⟨List.mem_of_getElem? (i := 575) (by decide +kernel), by decide +kernel⟩, List.mem_filter.mpr ⟨List.mem_of_getElem? (i := 16) (by decide +kernel), by decide +kernel⟩⟩
theorem lc_MO_100 : ww_site "DelayedExtentsModel" 100 yy_MO_empty bb_MO_empty 5 (some .int) 2 := ⟨List.mem_filter.mpr ⟨List.mem_of_getElem? (i := 620) (by decide +kernel), by decide +kernel⟩, List.mem_filter.mpr ⟨List.mem_of_getElem? (i := 617) (by decide +kernel), by decide +kernel⟩, List.mem_filter.mpr ⟨List.mem_of_getElem? (i := 30) (by decide +kernel), by decide +kernel⟩, by decide, by decide, by decide +kernel⟩
theorem lx_MO_empty_II_I : ww_virt yy_MO_empty := ⟨List.mem_filter.mpr ⟨List.mem_of_getElem? (i := 619) (by decide +kernel), by decide +kernel⟩, List.mem_filter.mpr ⟨List.mem_of_getElem? (i := 24) (by decide +kernel), by decide +kernel⟩⟩
theorem lf_MO_23 : Cond.fieldLink "DelayedExtentsModel" 23 "DelayedExtentsModel" "sizes" "[I" ∈ lw_good := List.mem_filter.mpr ⟨List.mem_of_getElem? (i := 507) (by decide +kernel), by decide +kernel⟩
set_option maxRecDepth 4000 in
theorem cc_MO_read_bad (l : Launch) (D : va_G) (g : Nat → ClassId) (m : Nat) (a1 : Nat) (a2 : Nat) (a3 : Nat) (a4 : Nat) (a5 : Nat) (a6 : Nat) (a7 : Nat) (a8 : Nat) (cd : Int32) (fi : Int32) (le : Int32) (pl : Nat → Int32) (wr : Nat → Int32) (pg : Nat → Int32) (pv : Nat → Int32) (sz : Nat → Int32) (ow : Nat → Int32) (vl : Nat → Int32) (bf : Nat → Int32) (x : Int32) (y : Int32) (hbad : px_nf x 3 = true ∨ px_nf y 59 = true) : ww_ct l D g yy_MO_read bb_MO_read 4 (some .int) (ww_rm 2) [.ref m, .int x, .int y] [(m, .inr (3, [.int cd, .ref a1, .ref a2, .ref a3, .ref a4, .ref a5, .ref a6, .ref a7, .ref a8, .int fi, .int le])), (a1, .inl (g 0, 240, .inl pl)), (a2, .inl (g 1, 240, .inl wr)), (a3, .inl (g 1, 240, .inl pg)), (a4, .inl (g 0, 240, .inl pv)), (a5, .inl (g 0, 4, .inl sz)), (a6, .inl (g 0, 80, .inl ow)), (a7, .inl (g 0, 80, .inl vl)), (a8, .inl (g 0, 60, .inl bf))] (some (.int (nI 0))) [(m, .inr (3, [.int (nI 1), .ref a1, .ref a2, .ref a3, .ref a4, .ref a5, .ref a6, .ref a7, .ref a8, .int fi, .int le])), (a1, .inl (g 0, 240, .inl pl)), (a2, .inl (g 1, 240, .inl wr)), (a3, .inl (g 1, 240, .inl pg)), (a4, .inl (g 0, 240, .inl pv)), (a5, .inl (g 0, 4, .inl sz)), (a6, .inl (g 0, 80, .inl ow)), (a7, .inl (g 0, 80, .inl vl)), (a8, .inl (g 0, 60, .inl bf))] := by
  refine ww_start (by decide +kernel) rfl rfl (Nat.le_of_ble_eq_true rfl) (L0 := [(0, .ref m), (1, .int x), (2, .int y)]) rfl ?_
  intro X O hl hD hg hR hn F
  subst hl hD hg
  refine ww_aload_n O dd_MO_read_0 0 rfl ?_
  refine ww_iload_n O dd_MO_read_1 1 rfl ?_
  refine ww_callS O (cc_MO_noFile _ _ _ x ) lc_MO_79 ls_MO_noFile_I_Z (by rw [hR]; decide) (by rw [hR]; decide) (by rw [hR]; decide) rfl (Nat.le_of_ble_eq_true rfl) dd_MO_read_2 rfl [] [0, 1, 2, 3, 4, 5, 6, 7, 8] [0, 1, 2, 3, 4, 5, 6, 7, 8] rfl (by decide) rfl (by decide) (by decide) (ws' := [(m, .inr (3, [.int cd, .ref a1, .ref a2, .ref a3, .ref a4, .ref a5, .ref a6, .ref a7, .ref a8, .int fi, .int le])), (a1, .inl (ww_g X 0, 240, .inl pl)), (a2, .inl (ww_g X 1, 240, .inl wr)), (a3, .inl (ww_g X 1, 240, .inl pg)), (a4, .inl (ww_g X 0, 240, .inl pv)), (a5, .inl (ww_g X 0, 4, .inl sz)), (a6, .inl (ww_g X 0, 80, .inl ow)), (a7, .inl (ww_g X 0, 80, .inl vl)), (a8, .inl (ww_g X 0, 60, .inl bf))]) rfl rfl (by decide) ?_
  refine ww_if_neB O dd_MO_read_5 (tgt := 15) rfl (fun h5 => ?_) (fun h5 => ?_)
  · refine ww_iconst O dd_MO_read_15 (v := nI 1) rfl ?_
    refine ww_goto O dd_MO_read_16 (tgt := 20) rfl ?_
    refine ww_put O ci_MO cy_MO cy_MO_ok cn_MO rfl 0 (by decide) lf_MO_35 rfl rfl (ty := .int) (by decide +kernel) dd_MO_read_20 0 rfl rfl rfl (Nat.le_of_ble_eq_true rfl) (ws' := [(m, .inr (3, [.int (nI 1), .ref a1, .ref a2, .ref a3, .ref a4, .ref a5, .ref a6, .ref a7, .ref a8, .int fi, .int le])), (a1, .inl (ww_g X 0, 240, .inl pl)), (a2, .inl (ww_g X 1, 240, .inl wr)), (a3, .inl (ww_g X 1, 240, .inl pg)), (a4, .inl (ww_g X 0, 240, .inl pv)), (a5, .inl (ww_g X 0, 4, .inl sz)), (a6, .inl (ww_g X 0, 80, .inl ow)), (a7, .inl (ww_g X 0, 80, .inl vl)), (a8, .inl (ww_g X 0, 60, .inl bf))]) rfl ?_
    refine ww_aload_n O dd_MO_read_23 0 rfl ?_
    refine ww_get O ci_MO rfl 0 (by decide) lf_MO_35 rfl dd_MO_read_24 0 rfl rfl ?_
    refine ww_if_leN O dd_MO_read_27 (tgt := 32) rfl (by omega) (fun h27 => ?_) (fun h27 => ?_)
    · exfalso; omega
    · refine ww_iconst O dd_MO_read_30 (v := nI 0) rfl ?_
      exact F.i dd_MO_read_31
  · refine ww_iload_n O dd_MO_read_8 2 rfl ?_
    refine ww_callS O (cc_MO_noBlock _ _ _ y ) lc_MO_82 ls_MO_noBlock_I_Z (by rw [hR]; decide) (by rw [hR]; decide) (by rw [hR]; decide) rfl (Nat.le_of_ble_eq_true rfl) dd_MO_read_9 rfl [] [0, 1, 2, 3, 4, 5, 6, 7, 8] [0, 1, 2, 3, 4, 5, 6, 7, 8] rfl (by decide) rfl (by decide) (by decide) (ws' := [(m, .inr (3, [.int cd, .ref a1, .ref a2, .ref a3, .ref a4, .ref a5, .ref a6, .ref a7, .ref a8, .int fi, .int le])), (a1, .inl (ww_g X 0, 240, .inl pl)), (a2, .inl (ww_g X 1, 240, .inl wr)), (a3, .inl (ww_g X 1, 240, .inl pg)), (a4, .inl (ww_g X 0, 240, .inl pv)), (a5, .inl (ww_g X 0, 4, .inl sz)), (a6, .inl (ww_g X 0, 80, .inl ow)), (a7, .inl (ww_g X 0, 80, .inl vl)), (a8, .inl (ww_g X 0, 60, .inl bf))]) rfl rfl (by decide) ?_
    refine ww_if_eqB O dd_MO_read_12 (tgt := 19) rfl (fun h12 => ?_) (fun h12 => ?_)
    · exact absurd (hbad.elim (fun q => by rw [q] at h5; exact absurd h5 (by decide)) (fun q => by rw [q] at h12; exact absurd h12 (by decide))) id
    · refine ww_iconst O dd_MO_read_15 (v := nI 1) rfl ?_
      refine ww_goto O dd_MO_read_16 (tgt := 20) rfl ?_
      refine ww_put O ci_MO cy_MO cy_MO_ok cn_MO rfl 0 (by decide) lf_MO_35 rfl rfl (ty := .int) (by decide +kernel) dd_MO_read_20 0 rfl rfl rfl (Nat.le_of_ble_eq_true rfl) (ws' := [(m, .inr (3, [.int (nI 1), .ref a1, .ref a2, .ref a3, .ref a4, .ref a5, .ref a6, .ref a7, .ref a8, .int fi, .int le])), (a1, .inl (ww_g X 0, 240, .inl pl)), (a2, .inl (ww_g X 1, 240, .inl wr)), (a3, .inl (ww_g X 1, 240, .inl pg)), (a4, .inl (ww_g X 0, 240, .inl pv)), (a5, .inl (ww_g X 0, 4, .inl sz)), (a6, .inl (ww_g X 0, 80, .inl ow)), (a7, .inl (ww_g X 0, 80, .inl vl)), (a8, .inl (ww_g X 0, 60, .inl bf))]) rfl ?_
      refine ww_aload_n O dd_MO_read_23 0 rfl ?_
      refine ww_get O ci_MO rfl 0 (by decide) lf_MO_35 rfl dd_MO_read_24 0 rfl rfl ?_
      refine ww_if_leN O dd_MO_read_27 (tgt := 32) rfl (by omega) (fun h27 => ?_) (fun h27 => ?_)
      · exfalso; omega
      · refine ww_iconst O dd_MO_read_30 (v := nI 0) rfl ?_
        exact F.i dd_MO_read_31
set_option maxRecDepth 4000 in
theorem cc_MO_read (l : Launch) (D : va_G) (g : Nat → ClassId) (m : Nat) (a1 : Nat) (a2 : Nat) (a3 : Nat) (a4 : Nat) (a5 : Nat) (a6 : Nat) (a7 : Nat) (a8 : Nat) (cd : Int32) (fi : Int32) (le : Int32) (pl : Nat → Int32) (wr : Nat → Int32) (pg : Nat → Int32) (pv : Nat → Int32) (sz : Nat → Int32) (ow : Nat → Int32) (vl : Nat → Int32) (bf : Nat → Int32) (f : Nat) (b : Nat) (hr : ∀ b, b < 240 → px_rg (pl b)) (hf : f < 4) (hb : b < 60) : ww_ct l D g yy_MO_read bb_MO_read 4 (some .int) (ww_rm 2) [.ref m, .int (nI f), .int (nI b)] [(m, .inr (3, [.int cd, .ref a1, .ref a2, .ref a3, .ref a4, .ref a5, .ref a6, .ref a7, .ref a8, .int fi, .int le])), (a1, .inl (g 0, 240, .inl pl)), (a2, .inl (g 1, 240, .inl wr)), (a3, .inl (g 1, 240, .inl pg)), (a4, .inl (g 0, 240, .inl pv)), (a5, .inl (g 0, 4, .inl sz)), (a6, .inl (g 0, 80, .inl ow)), (a7, .inl (g 0, 80, .inl vl)), (a8, .inl (g 0, 60, .inl bf))] (some (.int (px_read pl wr pg pv vl (60 * f + b)))) [(m, .inr (3, [.int (nI 0), .ref a1, .ref a2, .ref a3, .ref a4, .ref a5, .ref a6, .ref a7, .ref a8, .int fi, .int le])), (a1, .inl (g 0, 240, .inl pl)), (a2, .inl (g 1, 240, .inl wr)), (a3, .inl (g 1, 240, .inl pg)), (a4, .inl (g 0, 240, .inl pv)), (a5, .inl (g 0, 4, .inl sz)), (a6, .inl (g 0, 80, .inl ow)), (a7, .inl (g 0, 80, .inl vl)), (a8, .inl (g 0, 60, .inl bf))] := by
  refine ww_start (by decide +kernel) rfl rfl (Nat.le_of_ble_eq_true rfl) (L0 := [(0, .ref m), (1, .int (nI f)), (2, .int (nI b))]) rfl ?_
  intro X O hl hD hg hR hn F
  subst hl hD hg
  refine ww_aload_n O dd_MO_read_0 0 rfl ?_
  refine ww_iload_n O dd_MO_read_1 1 rfl ?_
  refine ww_callS O (cc_MO_noFile _ _ _ (nI f) ) lc_MO_79 ls_MO_noFile_I_Z (by rw [hR]; decide) (by rw [hR]; decide) (by rw [hR]; decide) rfl (Nat.le_of_ble_eq_true rfl) dd_MO_read_2 rfl [] [0, 1, 2, 3, 4, 5, 6, 7, 8] [0, 1, 2, 3, 4, 5, 6, 7, 8] rfl (by decide) rfl (by decide) (by decide) (ws' := [(m, .inr (3, [.int cd, .ref a1, .ref a2, .ref a3, .ref a4, .ref a5, .ref a6, .ref a7, .ref a8, .int fi, .int le])), (a1, .inl (ww_g X 0, 240, .inl pl)), (a2, .inl (ww_g X 1, 240, .inl wr)), (a3, .inl (ww_g X 1, 240, .inl pg)), (a4, .inl (ww_g X 0, 240, .inl pv)), (a5, .inl (ww_g X 0, 4, .inl sz)), (a6, .inl (ww_g X 0, 80, .inl ow)), (a7, .inl (ww_g X 0, 80, .inl vl)), (a8, .inl (ww_g X 0, 60, .inl bf))]) rfl rfl (by decide) ?_
  rw [px_nf_nI (k := 3) (by omega) (by decide)]
  refine ww_if_neB O dd_MO_read_5 (tgt := 15) rfl (fun h5 => ?_) (fun h5 => ?_)
  · exact absurd h5 (by decide)
  · refine ww_iload_n O dd_MO_read_8 2 rfl ?_
    refine ww_callS O (cc_MO_noBlock _ _ _ (nI b) ) lc_MO_82 ls_MO_noBlock_I_Z (by rw [hR]; decide) (by rw [hR]; decide) (by rw [hR]; decide) rfl (Nat.le_of_ble_eq_true rfl) dd_MO_read_9 rfl [] [0, 1, 2, 3, 4, 5, 6, 7, 8] [0, 1, 2, 3, 4, 5, 6, 7, 8] rfl (by decide) rfl (by decide) (by decide) (ws' := [(m, .inr (3, [.int cd, .ref a1, .ref a2, .ref a3, .ref a4, .ref a5, .ref a6, .ref a7, .ref a8, .int fi, .int le])), (a1, .inl (ww_g X 0, 240, .inl pl)), (a2, .inl (ww_g X 1, 240, .inl wr)), (a3, .inl (ww_g X 1, 240, .inl pg)), (a4, .inl (ww_g X 0, 240, .inl pv)), (a5, .inl (ww_g X 0, 4, .inl sz)), (a6, .inl (ww_g X 0, 80, .inl ow)), (a7, .inl (ww_g X 0, 80, .inl vl)), (a8, .inl (ww_g X 0, 60, .inl bf))]) rfl rfl (by decide) ?_
    rw [px_nf_nI (k := 59) (by omega) (by decide)]
    refine ww_if_eqB O dd_MO_read_12 (tgt := 19) rfl (fun h12 => ?_) (fun h12 => ?_)
    · refine ww_iconst O dd_MO_read_19 (v := nI 0) rfl ?_
      refine ww_put O ci_MO cy_MO cy_MO_ok cn_MO rfl 0 (by decide) lf_MO_35 rfl rfl (ty := .int) (by decide +kernel) dd_MO_read_20 0 rfl rfl rfl (Nat.le_of_ble_eq_true rfl) (ws' := [(m, .inr (3, [.int (nI 0), .ref a1, .ref a2, .ref a3, .ref a4, .ref a5, .ref a6, .ref a7, .ref a8, .int fi, .int le])), (a1, .inl (ww_g X 0, 240, .inl pl)), (a2, .inl (ww_g X 1, 240, .inl wr)), (a3, .inl (ww_g X 1, 240, .inl pg)), (a4, .inl (ww_g X 0, 240, .inl pv)), (a5, .inl (ww_g X 0, 4, .inl sz)), (a6, .inl (ww_g X 0, 80, .inl ow)), (a7, .inl (ww_g X 0, 80, .inl vl)), (a8, .inl (ww_g X 0, 60, .inl bf))]) rfl ?_
      refine ww_aload_n O dd_MO_read_23 0 rfl ?_
      refine ww_get O ci_MO rfl 0 (by decide) lf_MO_35 rfl dd_MO_read_24 0 rfl rfl ?_
      refine ww_if_leN O dd_MO_read_27 (tgt := 32) rfl (by omega) (fun h27 => ?_) (fun h27 => ?_)
      · refine ww_bipush O dd_MO_read_32 (v := nI 60) rfl ?_
        refine ww_iload_n O dd_MO_read_34 1 rfl ?_
        refine ww_imul O dd_MO_read_35 (v := nI (60 * f)) (pk_mul _ _) ?_
        refine ww_iload_n O dd_MO_read_36 2 rfl ?_
        refine ww_iadd O dd_MO_read_37 (v := nI ((60 * f) + b)) (nI_add _ _) ?_
        refine ww_istore_n O dd_MO_read_38 (by rw [hn]; decide) rfl (L' := [(0, .ref m), (1, .int (nI f)), (2, .int (nI b)), (3, .int (nI ((60 * f) + b)))]) rfl ?_
        refine ww_aload_n O dd_MO_read_39 0 rfl ?_
        refine ww_get O ci_MO rfl 3 (by decide) lf_MO_17 rfl dd_MO_read_40 0 rfl rfl ?_
        refine ww_iload_n O dd_MO_read_43 3 rfl ?_
        refine ww_zald O dd_MO_read_44 3 rfl (by omega) (by decide) rfl ?_
        refine ww_if_eq O dd_MO_read_45 (tgt := 57) rfl (fun h45 => ?_) (fun h45 => ?_)
        · refine ww_aload_n O dd_MO_read_57 0 rfl ?_
          refine ww_get O ci_MO rfl 1 (by decide) lf_MO_7 rfl dd_MO_read_58 0 rfl rfl ?_
          refine ww_iload_n O dd_MO_read_61 3 rfl ?_
          refine ww_iald O dd_MO_read_62 1 rfl (by omega) (by decide) rfl ?_
          refine ww_if_lt O dd_MO_read_63 (tgt := 89) rfl (fun h63 => ?_) (fun h63 => ?_)
          · refine ww_iconst O dd_MO_read_89 (v := nI 0) rfl ?_
            rw [show px_read pl wr pg pv vl (60 * f + b) = nI 0 from by unfold px_read; rw [if_pos h45, if_pos (Or.inl ((hr (60 * f + b) (by omega)).lt h63))]; rfl] at F
            exact F.i dd_MO_read_90
          · refine ww_aload_n O dd_MO_read_66 0 rfl ?_
            refine ww_get O ci_MO rfl 2 (by decide) lf_MO_13 rfl dd_MO_read_67 0 rfl rfl ?_
            refine ww_iload_n O dd_MO_read_70 3 rfl ?_
            refine ww_zald O dd_MO_read_71 2 rfl (by omega) (by decide) rfl ?_
            refine ww_if_eq O dd_MO_read_72 (tgt := 89) rfl (fun h72 => ?_) (fun h72 => ?_)
            · refine ww_iconst O dd_MO_read_89 (v := nI 0) rfl ?_
              rw [show px_read pl wr pg pv vl (60 * f + b) = nI 0 from by unfold px_read; rw [if_pos h45, if_pos (Or.inr h72)]; rfl] at F
              exact F.i dd_MO_read_90
            · refine ww_aload_n O dd_MO_read_75 0 rfl ?_
              refine ww_get O ci_MO rfl 7 (by decide) lf_MO_29 rfl dd_MO_read_76 0 rfl rfl ?_
              refine ww_aload_n O dd_MO_read_79 0 rfl ?_
              refine ww_get O ci_MO rfl 1 (by decide) lf_MO_7 rfl dd_MO_read_80 0 rfl rfl ?_
              refine ww_iload_n O dd_MO_read_83 3 rfl ?_
              refine ww_iald O dd_MO_read_84 1 rfl (by omega) (by decide) rfl ?_
              have hh := (hr (60 * f + b) (by omega)).ge h63
              obtain ⟨p, hp, hq⟩ : ∃ p, p < 80 ∧ pl (60 * f + b) = nI p := by
                rcases hr (60 * f + b) (by omega) with h | h
                · simp [px_hole, h] at hh
                · exact h
              rw [hq]
              refine ww_iald O dd_MO_read_85 7 rfl (by omega) (by decide) rfl ?_
              refine ww_goto O dd_MO_read_86 (tgt := 90) rfl ?_
              rw [show px_read pl wr pg pv vl (60 * f + b) = vl p from by unfold px_read; rw [if_pos h45, if_neg (by simp [hh, h72]), hq, nI_clamp (by omega)]] at F
              exact F.i dd_MO_read_90
        · refine ww_aload_n O dd_MO_read_48 0 rfl ?_
          refine ww_get O ci_MO rfl 4 (by decide) lf_MO_20 rfl dd_MO_read_49 0 rfl rfl ?_
          refine ww_iload_n O dd_MO_read_52 3 rfl ?_
          refine ww_iald O dd_MO_read_53 4 rfl (by omega) (by decide) rfl ?_
          refine ww_goto O dd_MO_read_54 (tgt := 90) rfl ?_
          rw [show px_read pl wr pg pv vl (60 * f + b) = pv ((60 * f) + b) from by unfold px_read; rw [if_neg h45]] at F
          exact F.i dd_MO_read_90
      · exfalso; omega
    · exact absurd h12 (by decide)
set_option maxRecDepth 4000 in
theorem cc_MO_owner_bad (l : Launch) (D : va_G) (g : Nat → ClassId) (m : Nat) (a1 : Nat) (a2 : Nat) (a3 : Nat) (a4 : Nat) (a5 : Nat) (a6 : Nat) (a7 : Nat) (a8 : Nat) (cd : Int32) (fi : Int32) (le : Int32) (pl : Nat → Int32) (wr : Nat → Int32) (pg : Nat → Int32) (pv : Nat → Int32) (sz : Nat → Int32) (ow : Nat → Int32) (vl : Nat → Int32) (bf : Nat → Int32) (x : Int32) (hbad : x < 0 ∨ ¬ x ≤ nI 79) : ww_ct l D g yy_MO_owner bb_MO_owner 2 (some .int) (ww_rm 1) [.ref m, .int x] [(m, .inr (3, [.int cd, .ref a1, .ref a2, .ref a3, .ref a4, .ref a5, .ref a6, .ref a7, .ref a8, .int fi, .int le])), (a1, .inl (g 0, 240, .inl pl)), (a2, .inl (g 1, 240, .inl wr)), (a3, .inl (g 1, 240, .inl pg)), (a4, .inl (g 0, 240, .inl pv)), (a5, .inl (g 0, 4, .inl sz)), (a6, .inl (g 0, 80, .inl ow)), (a7, .inl (g 0, 80, .inl vl)), (a8, .inl (g 0, 60, .inl bf))] (some (.int (nI 0))) [(m, .inr (3, [.int (nI 1), .ref a1, .ref a2, .ref a3, .ref a4, .ref a5, .ref a6, .ref a7, .ref a8, .int fi, .int le])), (a1, .inl (g 0, 240, .inl pl)), (a2, .inl (g 1, 240, .inl wr)), (a3, .inl (g 1, 240, .inl pg)), (a4, .inl (g 0, 240, .inl pv)), (a5, .inl (g 0, 4, .inl sz)), (a6, .inl (g 0, 80, .inl ow)), (a7, .inl (g 0, 80, .inl vl)), (a8, .inl (g 0, 60, .inl bf))] := by
  refine ww_start (by decide +kernel) rfl rfl (Nat.le_of_ble_eq_true rfl) (L0 := [(0, .ref m), (1, .int x)]) rfl ?_
  intro X O hl hD hg hR hn F
  subst hl hD hg
  refine ww_aload_n O dd_MO_owner_0 0 rfl ?_
  refine ww_iload_n O dd_MO_owner_1 1 rfl ?_
  refine ww_if_lt O dd_MO_owner_2 (tgt := 11) rfl (fun h2 => ?_) (fun h2 => ?_)
  · refine ww_iconst O dd_MO_owner_11 (v := nI 1) rfl ?_
    refine ww_goto O dd_MO_owner_12 (tgt := 16) rfl ?_
    refine ww_put O ci_MO cy_MO cy_MO_ok cn_MO rfl 0 (by decide) lf_MO_35 rfl rfl (ty := .int) (by decide +kernel) dd_MO_owner_16 0 rfl rfl rfl (Nat.le_of_ble_eq_true rfl) (ws' := [(m, .inr (3, [.int (nI 1), .ref a1, .ref a2, .ref a3, .ref a4, .ref a5, .ref a6, .ref a7, .ref a8, .int fi, .int le])), (a1, .inl (ww_g X 0, 240, .inl pl)), (a2, .inl (ww_g X 1, 240, .inl wr)), (a3, .inl (ww_g X 1, 240, .inl pg)), (a4, .inl (ww_g X 0, 240, .inl pv)), (a5, .inl (ww_g X 0, 4, .inl sz)), (a6, .inl (ww_g X 0, 80, .inl ow)), (a7, .inl (ww_g X 0, 80, .inl vl)), (a8, .inl (ww_g X 0, 60, .inl bf))]) rfl ?_
    refine ww_aload_n O dd_MO_owner_19 0 rfl ?_
    refine ww_get O ci_MO rfl 0 (by decide) lf_MO_35 rfl dd_MO_owner_20 0 rfl rfl ?_
    refine ww_if_leN O dd_MO_owner_23 (tgt := 30) rfl (by omega) (fun h23 => ?_) (fun h23 => ?_)
    · exfalso; omega
    · refine ww_iconst O dd_MO_owner_26 (v := nI 0) rfl ?_
      refine ww_goto O dd_MO_owner_27 (tgt := 36) rfl ?_
      exact F.i dd_MO_owner_36
  · refine ww_iload_n O dd_MO_owner_5 1 rfl ?_
    refine ww_bipush O dd_MO_owner_6 (v := nI 79) rfl ?_
    refine ww_icmp_le O dd_MO_owner_8 (tgt := 15) rfl (fun h8 => ?_) (fun h8 => ?_)
    · exact absurd h8 (hbad.elim (fun q => absurd q h2) id)
    · refine ww_iconst O dd_MO_owner_11 (v := nI 1) rfl ?_
      refine ww_goto O dd_MO_owner_12 (tgt := 16) rfl ?_
      refine ww_put O ci_MO cy_MO cy_MO_ok cn_MO rfl 0 (by decide) lf_MO_35 rfl rfl (ty := .int) (by decide +kernel) dd_MO_owner_16 0 rfl rfl rfl (Nat.le_of_ble_eq_true rfl) (ws' := [(m, .inr (3, [.int (nI 1), .ref a1, .ref a2, .ref a3, .ref a4, .ref a5, .ref a6, .ref a7, .ref a8, .int fi, .int le])), (a1, .inl (ww_g X 0, 240, .inl pl)), (a2, .inl (ww_g X 1, 240, .inl wr)), (a3, .inl (ww_g X 1, 240, .inl pg)), (a4, .inl (ww_g X 0, 240, .inl pv)), (a5, .inl (ww_g X 0, 4, .inl sz)), (a6, .inl (ww_g X 0, 80, .inl ow)), (a7, .inl (ww_g X 0, 80, .inl vl)), (a8, .inl (ww_g X 0, 60, .inl bf))]) rfl ?_
      refine ww_aload_n O dd_MO_owner_19 0 rfl ?_
      refine ww_get O ci_MO rfl 0 (by decide) lf_MO_35 rfl dd_MO_owner_20 0 rfl rfl ?_
      refine ww_if_leN O dd_MO_owner_23 (tgt := 30) rfl (by omega) (fun h23 => ?_) (fun h23 => ?_)
      · exfalso; omega
      · refine ww_iconst O dd_MO_owner_26 (v := nI 0) rfl ?_
        refine ww_goto O dd_MO_owner_27 (tgt := 36) rfl ?_
        exact F.i dd_MO_owner_36
set_option maxRecDepth 4000 in
theorem cc_MO_owner (l : Launch) (D : va_G) (g : Nat → ClassId) (m : Nat) (a1 : Nat) (a2 : Nat) (a3 : Nat) (a4 : Nat) (a5 : Nat) (a6 : Nat) (a7 : Nat) (a8 : Nat) (cd : Int32) (fi : Int32) (le : Int32) (pl : Nat → Int32) (wr : Nat → Int32) (pg : Nat → Int32) (pv : Nat → Int32) (sz : Nat → Int32) (ow : Nat → Int32) (vl : Nat → Int32) (bf : Nat → Int32) (p : Nat) (hp : p < 80) : ww_ct l D g yy_MO_owner bb_MO_owner 2 (some .int) (ww_rm 1) [.ref m, .int (nI p)] [(m, .inr (3, [.int cd, .ref a1, .ref a2, .ref a3, .ref a4, .ref a5, .ref a6, .ref a7, .ref a8, .int fi, .int le])), (a1, .inl (g 0, 240, .inl pl)), (a2, .inl (g 1, 240, .inl wr)), (a3, .inl (g 1, 240, .inl pg)), (a4, .inl (g 0, 240, .inl pv)), (a5, .inl (g 0, 4, .inl sz)), (a6, .inl (g 0, 80, .inl ow)), (a7, .inl (g 0, 80, .inl vl)), (a8, .inl (g 0, 60, .inl bf))] (some (.int (ow p))) [(m, .inr (3, [.int (nI 0), .ref a1, .ref a2, .ref a3, .ref a4, .ref a5, .ref a6, .ref a7, .ref a8, .int fi, .int le])), (a1, .inl (g 0, 240, .inl pl)), (a2, .inl (g 1, 240, .inl wr)), (a3, .inl (g 1, 240, .inl pg)), (a4, .inl (g 0, 240, .inl pv)), (a5, .inl (g 0, 4, .inl sz)), (a6, .inl (g 0, 80, .inl ow)), (a7, .inl (g 0, 80, .inl vl)), (a8, .inl (g 0, 60, .inl bf))] := by
  refine ww_start (by decide +kernel) rfl rfl (Nat.le_of_ble_eq_true rfl) (L0 := [(0, .ref m), (1, .int (nI p))]) rfl ?_
  intro X O hl hD hg hR hn F
  subst hl hD hg
  refine ww_aload_n O dd_MO_owner_0 0 rfl ?_
  refine ww_iload_n O dd_MO_owner_1 1 rfl ?_
  refine ww_if_ltN O dd_MO_owner_2 (tgt := 11) rfl (by omega) (fun h2 => ?_) (fun h2 => ?_)
  · exfalso; omega
  · refine ww_iload_n O dd_MO_owner_5 1 rfl ?_
    refine ww_bipush O dd_MO_owner_6 (v := nI 79) rfl ?_
    refine ww_icmp_leN O dd_MO_owner_8 (tgt := 15) rfl (by omega) (by omega) (fun h8 => ?_) (fun h8 => ?_)
    · refine ww_iconst O dd_MO_owner_15 (v := nI 0) rfl ?_
      refine ww_put O ci_MO cy_MO cy_MO_ok cn_MO rfl 0 (by decide) lf_MO_35 rfl rfl (ty := .int) (by decide +kernel) dd_MO_owner_16 0 rfl rfl rfl (Nat.le_of_ble_eq_true rfl) (ws' := [(m, .inr (3, [.int (nI 0), .ref a1, .ref a2, .ref a3, .ref a4, .ref a5, .ref a6, .ref a7, .ref a8, .int fi, .int le])), (a1, .inl (ww_g X 0, 240, .inl pl)), (a2, .inl (ww_g X 1, 240, .inl wr)), (a3, .inl (ww_g X 1, 240, .inl pg)), (a4, .inl (ww_g X 0, 240, .inl pv)), (a5, .inl (ww_g X 0, 4, .inl sz)), (a6, .inl (ww_g X 0, 80, .inl ow)), (a7, .inl (ww_g X 0, 80, .inl vl)), (a8, .inl (ww_g X 0, 60, .inl bf))]) rfl ?_
      refine ww_aload_n O dd_MO_owner_19 0 rfl ?_
      refine ww_get O ci_MO rfl 0 (by decide) lf_MO_35 rfl dd_MO_owner_20 0 rfl rfl ?_
      refine ww_if_leN O dd_MO_owner_23 (tgt := 30) rfl (by omega) (fun h23 => ?_) (fun h23 => ?_)
      · refine ww_aload_n O dd_MO_owner_30 0 rfl ?_
        refine ww_get O ci_MO rfl 6 (by decide) lf_MO_26 rfl dd_MO_owner_31 0 rfl rfl ?_
        refine ww_iload_n O dd_MO_owner_34 1 rfl ?_
        refine ww_iald O dd_MO_owner_35 6 rfl (by omega) (by decide) rfl ?_
        exact F.i dd_MO_owner_36
      · exfalso; omega
    · exfalso; omega
set_option maxRecDepth 4000 in
theorem cc_MO_value_bad (l : Launch) (D : va_G) (g : Nat → ClassId) (m : Nat) (a1 : Nat) (a2 : Nat) (a3 : Nat) (a4 : Nat) (a5 : Nat) (a6 : Nat) (a7 : Nat) (a8 : Nat) (cd : Int32) (fi : Int32) (le : Int32) (pl : Nat → Int32) (wr : Nat → Int32) (pg : Nat → Int32) (pv : Nat → Int32) (sz : Nat → Int32) (ow : Nat → Int32) (vl : Nat → Int32) (bf : Nat → Int32) (x : Int32) (hbad : x < 0 ∨ ¬ x ≤ nI 79) : ww_ct l D g yy_MO_value bb_MO_value 2 (some .int) (ww_rm 1) [.ref m, .int x] [(m, .inr (3, [.int cd, .ref a1, .ref a2, .ref a3, .ref a4, .ref a5, .ref a6, .ref a7, .ref a8, .int fi, .int le])), (a1, .inl (g 0, 240, .inl pl)), (a2, .inl (g 1, 240, .inl wr)), (a3, .inl (g 1, 240, .inl pg)), (a4, .inl (g 0, 240, .inl pv)), (a5, .inl (g 0, 4, .inl sz)), (a6, .inl (g 0, 80, .inl ow)), (a7, .inl (g 0, 80, .inl vl)), (a8, .inl (g 0, 60, .inl bf))] (some (.int (nI 0))) [(m, .inr (3, [.int (nI 1), .ref a1, .ref a2, .ref a3, .ref a4, .ref a5, .ref a6, .ref a7, .ref a8, .int fi, .int le])), (a1, .inl (g 0, 240, .inl pl)), (a2, .inl (g 1, 240, .inl wr)), (a3, .inl (g 1, 240, .inl pg)), (a4, .inl (g 0, 240, .inl pv)), (a5, .inl (g 0, 4, .inl sz)), (a6, .inl (g 0, 80, .inl ow)), (a7, .inl (g 0, 80, .inl vl)), (a8, .inl (g 0, 60, .inl bf))] := by
  refine ww_start (by decide +kernel) rfl rfl (Nat.le_of_ble_eq_true rfl) (L0 := [(0, .ref m), (1, .int x)]) rfl ?_
  intro X O hl hD hg hR hn F
  subst hl hD hg
  refine ww_aload_n O dd_MO_value_0 0 rfl ?_
  refine ww_iload_n O dd_MO_value_1 1 rfl ?_
  refine ww_if_lt O dd_MO_value_2 (tgt := 11) rfl (fun h2 => ?_) (fun h2 => ?_)
  · refine ww_iconst O dd_MO_value_11 (v := nI 1) rfl ?_
    refine ww_goto O dd_MO_value_12 (tgt := 16) rfl ?_
    refine ww_put O ci_MO cy_MO cy_MO_ok cn_MO rfl 0 (by decide) lf_MO_35 rfl rfl (ty := .int) (by decide +kernel) dd_MO_value_16 0 rfl rfl rfl (Nat.le_of_ble_eq_true rfl) (ws' := [(m, .inr (3, [.int (nI 1), .ref a1, .ref a2, .ref a3, .ref a4, .ref a5, .ref a6, .ref a7, .ref a8, .int fi, .int le])), (a1, .inl (ww_g X 0, 240, .inl pl)), (a2, .inl (ww_g X 1, 240, .inl wr)), (a3, .inl (ww_g X 1, 240, .inl pg)), (a4, .inl (ww_g X 0, 240, .inl pv)), (a5, .inl (ww_g X 0, 4, .inl sz)), (a6, .inl (ww_g X 0, 80, .inl ow)), (a7, .inl (ww_g X 0, 80, .inl vl)), (a8, .inl (ww_g X 0, 60, .inl bf))]) rfl ?_
    refine ww_aload_n O dd_MO_value_19 0 rfl ?_
    refine ww_get O ci_MO rfl 0 (by decide) lf_MO_35 rfl dd_MO_value_20 0 rfl rfl ?_
    refine ww_if_leN O dd_MO_value_23 (tgt := 30) rfl (by omega) (fun h23 => ?_) (fun h23 => ?_)
    · exfalso; omega
    · refine ww_iconst O dd_MO_value_26 (v := nI 0) rfl ?_
      refine ww_goto O dd_MO_value_27 (tgt := 36) rfl ?_
      exact F.i dd_MO_value_36
  · refine ww_iload_n O dd_MO_value_5 1 rfl ?_
    refine ww_bipush O dd_MO_value_6 (v := nI 79) rfl ?_
    refine ww_icmp_le O dd_MO_value_8 (tgt := 15) rfl (fun h8 => ?_) (fun h8 => ?_)
    · exact absurd h8 (hbad.elim (fun q => absurd q h2) id)
    · refine ww_iconst O dd_MO_value_11 (v := nI 1) rfl ?_
      refine ww_goto O dd_MO_value_12 (tgt := 16) rfl ?_
      refine ww_put O ci_MO cy_MO cy_MO_ok cn_MO rfl 0 (by decide) lf_MO_35 rfl rfl (ty := .int) (by decide +kernel) dd_MO_value_16 0 rfl rfl rfl (Nat.le_of_ble_eq_true rfl) (ws' := [(m, .inr (3, [.int (nI 1), .ref a1, .ref a2, .ref a3, .ref a4, .ref a5, .ref a6, .ref a7, .ref a8, .int fi, .int le])), (a1, .inl (ww_g X 0, 240, .inl pl)), (a2, .inl (ww_g X 1, 240, .inl wr)), (a3, .inl (ww_g X 1, 240, .inl pg)), (a4, .inl (ww_g X 0, 240, .inl pv)), (a5, .inl (ww_g X 0, 4, .inl sz)), (a6, .inl (ww_g X 0, 80, .inl ow)), (a7, .inl (ww_g X 0, 80, .inl vl)), (a8, .inl (ww_g X 0, 60, .inl bf))]) rfl ?_
      refine ww_aload_n O dd_MO_value_19 0 rfl ?_
      refine ww_get O ci_MO rfl 0 (by decide) lf_MO_35 rfl dd_MO_value_20 0 rfl rfl ?_
      refine ww_if_leN O dd_MO_value_23 (tgt := 30) rfl (by omega) (fun h23 => ?_) (fun h23 => ?_)
      · exfalso; omega
      · refine ww_iconst O dd_MO_value_26 (v := nI 0) rfl ?_
        refine ww_goto O dd_MO_value_27 (tgt := 36) rfl ?_
        exact F.i dd_MO_value_36
set_option maxRecDepth 4000 in
theorem cc_MO_value (l : Launch) (D : va_G) (g : Nat → ClassId) (m : Nat) (a1 : Nat) (a2 : Nat) (a3 : Nat) (a4 : Nat) (a5 : Nat) (a6 : Nat) (a7 : Nat) (a8 : Nat) (cd : Int32) (fi : Int32) (le : Int32) (pl : Nat → Int32) (wr : Nat → Int32) (pg : Nat → Int32) (pv : Nat → Int32) (sz : Nat → Int32) (ow : Nat → Int32) (vl : Nat → Int32) (bf : Nat → Int32) (p : Nat) (hp : p < 80) : ww_ct l D g yy_MO_value bb_MO_value 2 (some .int) (ww_rm 1) [.ref m, .int (nI p)] [(m, .inr (3, [.int cd, .ref a1, .ref a2, .ref a3, .ref a4, .ref a5, .ref a6, .ref a7, .ref a8, .int fi, .int le])), (a1, .inl (g 0, 240, .inl pl)), (a2, .inl (g 1, 240, .inl wr)), (a3, .inl (g 1, 240, .inl pg)), (a4, .inl (g 0, 240, .inl pv)), (a5, .inl (g 0, 4, .inl sz)), (a6, .inl (g 0, 80, .inl ow)), (a7, .inl (g 0, 80, .inl vl)), (a8, .inl (g 0, 60, .inl bf))] (some (.int (vl p))) [(m, .inr (3, [.int (nI 0), .ref a1, .ref a2, .ref a3, .ref a4, .ref a5, .ref a6, .ref a7, .ref a8, .int fi, .int le])), (a1, .inl (g 0, 240, .inl pl)), (a2, .inl (g 1, 240, .inl wr)), (a3, .inl (g 1, 240, .inl pg)), (a4, .inl (g 0, 240, .inl pv)), (a5, .inl (g 0, 4, .inl sz)), (a6, .inl (g 0, 80, .inl ow)), (a7, .inl (g 0, 80, .inl vl)), (a8, .inl (g 0, 60, .inl bf))] := by
  refine ww_start (by decide +kernel) rfl rfl (Nat.le_of_ble_eq_true rfl) (L0 := [(0, .ref m), (1, .int (nI p))]) rfl ?_
  intro X O hl hD hg hR hn F
  subst hl hD hg
  refine ww_aload_n O dd_MO_value_0 0 rfl ?_
  refine ww_iload_n O dd_MO_value_1 1 rfl ?_
  refine ww_if_ltN O dd_MO_value_2 (tgt := 11) rfl (by omega) (fun h2 => ?_) (fun h2 => ?_)
  · exfalso; omega
  · refine ww_iload_n O dd_MO_value_5 1 rfl ?_
    refine ww_bipush O dd_MO_value_6 (v := nI 79) rfl ?_
    refine ww_icmp_leN O dd_MO_value_8 (tgt := 15) rfl (by omega) (by omega) (fun h8 => ?_) (fun h8 => ?_)
    · refine ww_iconst O dd_MO_value_15 (v := nI 0) rfl ?_
      refine ww_put O ci_MO cy_MO cy_MO_ok cn_MO rfl 0 (by decide) lf_MO_35 rfl rfl (ty := .int) (by decide +kernel) dd_MO_value_16 0 rfl rfl rfl (Nat.le_of_ble_eq_true rfl) (ws' := [(m, .inr (3, [.int (nI 0), .ref a1, .ref a2, .ref a3, .ref a4, .ref a5, .ref a6, .ref a7, .ref a8, .int fi, .int le])), (a1, .inl (ww_g X 0, 240, .inl pl)), (a2, .inl (ww_g X 1, 240, .inl wr)), (a3, .inl (ww_g X 1, 240, .inl pg)), (a4, .inl (ww_g X 0, 240, .inl pv)), (a5, .inl (ww_g X 0, 4, .inl sz)), (a6, .inl (ww_g X 0, 80, .inl ow)), (a7, .inl (ww_g X 0, 80, .inl vl)), (a8, .inl (ww_g X 0, 60, .inl bf))]) rfl ?_
      refine ww_aload_n O dd_MO_value_19 0 rfl ?_
      refine ww_get O ci_MO rfl 0 (by decide) lf_MO_35 rfl dd_MO_value_20 0 rfl rfl ?_
      refine ww_if_leN O dd_MO_value_23 (tgt := 30) rfl (by omega) (fun h23 => ?_) (fun h23 => ?_)
      · refine ww_aload_n O dd_MO_value_30 0 rfl ?_
        refine ww_get O ci_MO rfl 7 (by decide) lf_MO_29 rfl dd_MO_value_31 0 rfl rfl ?_
        refine ww_iload_n O dd_MO_value_34 1 rfl ?_
        refine ww_iald O dd_MO_value_35 7 rfl (by omega) (by decide) rfl ?_
        exact F.i dd_MO_value_36
      · exfalso; omega
    · exfalso; omega
set_option maxRecDepth 4000 in
theorem cc_MO_free (l : Launch) (D : va_G) (g : Nat → ClassId) (m : Nat) (a1 : Nat) (a2 : Nat) (a3 : Nat) (a4 : Nat) (a5 : Nat) (a6 : Nat) (a7 : Nat) (a8 : Nat) (cd : Int32) (fi : Int32) (le : Int32) (pl : Nat → Int32) (wr : Nat → Int32) (pg : Nat → Int32) (pv : Nat → Int32) (sz : Nat → Int32) (ow : Nat → Int32) (vl : Nat → Int32) (bf : Nat → Int32) (hr : ∀ b, b < 240 → px_rg (pl b)) : ww_ct l D g yy_MO_free bb_MO_free 1 (some .int) (ww_rm 5) [.ref m] [(m, .inr (3, [.int cd, .ref a1, .ref a2, .ref a3, .ref a4, .ref a5, .ref a6, .ref a7, .ref a8, .int fi, .int le])), (a1, .inl (g 0, 240, .inl pl)), (a2, .inl (g 1, 240, .inl wr)), (a3, .inl (g 1, 240, .inl pg)), (a4, .inl (g 0, 240, .inl pv)), (a5, .inl (g 0, 4, .inl sz)), (a6, .inl (g 0, 80, .inl ow)), (a7, .inl (g 0, 80, .inl vl)), (a8, .inl (g 0, 60, .inl bf))] (some (.int (nI 80 - nI (px_sum (fun k => px_mt pl wr (60 * k)) 4)))) [(m, .inr (3, [.int (nI 0), .ref a1, .ref a2, .ref a3, .ref a4, .ref a5, .ref a6, .ref a7, .ref a8, .int ((px_xs pl wr le fi 4).2), .int ((px_xs pl wr le fi 4).1)])), (a1, .inl (g 0, 240, .inl pl)), (a2, .inl (g 1, 240, .inl wr)), (a3, .inl (g 1, 240, .inl pg)), (a4, .inl (g 0, 240, .inl pv)), (a5, .inl (g 0, 4, .inl sz)), (a6, .inl (g 0, 80, .inl ow)), (a7, .inl (g 0, 80, .inl vl)), (a8, .inl (g 0, 60, .inl bf))] := by
  refine ww_start (by decide +kernel) rfl rfl (Nat.le_of_ble_eq_true rfl) (L0 := [(0, .ref m)]) rfl ?_
  intro X O hl hD hg hR hn F
  subst hl hD hg
  refine ww_aload_n O dd_MO_free_0 0 rfl ?_
  refine ww_iconst O dd_MO_free_1 (v := nI 0) rfl ?_
  refine ww_put O ci_MO cy_MO cy_MO_ok cn_MO rfl 0 (by decide) lf_MO_35 rfl rfl (ty := .int) (by decide +kernel) dd_MO_free_2 0 rfl rfl rfl (Nat.le_of_ble_eq_true rfl) (ws' := [(m, .inr (3, [.int (nI 0), .ref a1, .ref a2, .ref a3, .ref a4, .ref a5, .ref a6, .ref a7, .ref a8, .int fi, .int le])), (a1, .inl (ww_g X 0, 240, .inl pl)), (a2, .inl (ww_g X 1, 240, .inl wr)), (a3, .inl (ww_g X 1, 240, .inl pg)), (a4, .inl (ww_g X 0, 240, .inl pv)), (a5, .inl (ww_g X 0, 4, .inl sz)), (a6, .inl (ww_g X 0, 80, .inl ow)), (a7, .inl (ww_g X 0, 80, .inl vl)), (a8, .inl (ww_g X 0, 60, .inl bf))]) rfl ?_
  refine ww_aload_n O dd_MO_free_5 0 rfl ?_
  refine ww_callV (q0 := 0) (ci := 3) O (cc_MO_allFree _ _ _ m a1 a2 a3 a4 a5 a6 a7 a8 (nI 0) fi le pl wr pg pv sz ow vl bf (by omega)) lc_MO_85 lx_MO_allFree__I rfl rfl rfl (by rw [hR]; decide) (by rw [hR]; decide) (by rw [hR]; decide) rfl (Nat.le_of_ble_eq_true rfl) dd_MO_free_6 rfl [0, 1, 2, 3, 4, 5, 6, 7, 8] [] [0, 1, 2, 3, 4, 5, 6, 7, 8] rfl (by decide) rfl (by decide) (by decide) (ws' := [(m, .inr (3, [.int (nI 0), .ref a1, .ref a2, .ref a3, .ref a4, .ref a5, .ref a6, .ref a7, .ref a8, .int ((px_xs pl wr le fi 4).2), .int ((px_xs pl wr le fi 4).1)])), (a1, .inl (ww_g X 0, 240, .inl pl)), (a2, .inl (ww_g X 1, 240, .inl wr)), (a3, .inl (ww_g X 1, 240, .inl pg)), (a4, .inl (ww_g X 0, 240, .inl pv)), (a5, .inl (ww_g X 0, 4, .inl sz)), (a6, .inl (ww_g X 0, 80, .inl ow)), (a7, .inl (ww_g X 0, 80, .inl vl)), (a8, .inl (ww_g X 0, 60, .inl bf))]) rfl rfl (by decide) ?_
  exact F.i dd_MO_free_9
set_option maxRecDepth 4000 in
theorem cc_MO_reserved (l : Launch) (D : va_G) (g : Nat → ClassId) (m : Nat) (a1 : Nat) (a2 : Nat) (a3 : Nat) (a4 : Nat) (a5 : Nat) (a6 : Nat) (a7 : Nat) (a8 : Nat) (cd : Int32) (fi : Int32) (le : Int32) (pl : Nat → Int32) (wr : Nat → Int32) (pg : Nat → Int32) (pv : Nat → Int32) (sz : Nat → Int32) (ow : Nat → Int32) (vl : Nat → Int32) (bf : Nat → Int32) (hr : ∀ b, b < 240 → px_rg (pl b)) : ww_ct l D g yy_MO_reserved bb_MO_reserved 1 (some .int) (ww_rm 5) [.ref m] [(m, .inr (3, [.int cd, .ref a1, .ref a2, .ref a3, .ref a4, .ref a5, .ref a6, .ref a7, .ref a8, .int fi, .int le])), (a1, .inl (g 0, 240, .inl pl)), (a2, .inl (g 1, 240, .inl wr)), (a3, .inl (g 1, 240, .inl pg)), (a4, .inl (g 0, 240, .inl pv)), (a5, .inl (g 0, 4, .inl sz)), (a6, .inl (g 0, 80, .inl ow)), (a7, .inl (g 0, 80, .inl vl)), (a8, .inl (g 0, 60, .inl bf))] (some (.int (nI (px_sum (fun k => px_res pl wr pg (60 * k)) 4)))) [(m, .inr (3, [.int (nI 0), .ref a1, .ref a2, .ref a3, .ref a4, .ref a5, .ref a6, .ref a7, .ref a8, .int ((px_xs pl wr le fi 4).2), .int ((px_xs pl wr le fi 4).1)])), (a1, .inl (g 0, 240, .inl pl)), (a2, .inl (g 1, 240, .inl wr)), (a3, .inl (g 1, 240, .inl pg)), (a4, .inl (g 0, 240, .inl pv)), (a5, .inl (g 0, 4, .inl sz)), (a6, .inl (g 0, 80, .inl ow)), (a7, .inl (g 0, 80, .inl vl)), (a8, .inl (g 0, 60, .inl bf))] := by
  refine ww_start (by decide +kernel) rfl rfl (Nat.le_of_ble_eq_true rfl) (L0 := [(0, .ref m)]) rfl ?_
  intro X O hl hD hg hR hn F
  subst hl hD hg
  refine ww_aload_n O dd_MO_reserved_0 0 rfl ?_
  refine ww_iconst O dd_MO_reserved_1 (v := nI 0) rfl ?_
  refine ww_put O ci_MO cy_MO cy_MO_ok cn_MO rfl 0 (by decide) lf_MO_35 rfl rfl (ty := .int) (by decide +kernel) dd_MO_reserved_2 0 rfl rfl rfl (Nat.le_of_ble_eq_true rfl) (ws' := [(m, .inr (3, [.int (nI 0), .ref a1, .ref a2, .ref a3, .ref a4, .ref a5, .ref a6, .ref a7, .ref a8, .int fi, .int le])), (a1, .inl (ww_g X 0, 240, .inl pl)), (a2, .inl (ww_g X 1, 240, .inl wr)), (a3, .inl (ww_g X 1, 240, .inl pg)), (a4, .inl (ww_g X 0, 240, .inl pv)), (a5, .inl (ww_g X 0, 4, .inl sz)), (a6, .inl (ww_g X 0, 80, .inl ow)), (a7, .inl (ww_g X 0, 80, .inl vl)), (a8, .inl (ww_g X 0, 60, .inl bf))]) rfl ?_
  refine ww_aload_n O dd_MO_reserved_5 0 rfl ?_
  refine ww_callV (q0 := 0) (ci := 3) O (cc_MO_allReserved _ _ _ m a1 a2 a3 a4 a5 a6 a7 a8 (nI 0) fi le pl wr pg pv sz ow vl bf (by omega)) lc_MO_89 lx_MO_allReserved__I rfl rfl rfl (by rw [hR]; decide) (by rw [hR]; decide) (by rw [hR]; decide) rfl (Nat.le_of_ble_eq_true rfl) dd_MO_reserved_6 rfl [0, 1, 2, 3, 4, 5, 6, 7, 8] [] [0, 1, 2, 3, 4, 5, 6, 7, 8] rfl (by decide) rfl (by decide) (by decide) (ws' := [(m, .inr (3, [.int (nI 0), .ref a1, .ref a2, .ref a3, .ref a4, .ref a5, .ref a6, .ref a7, .ref a8, .int ((px_xs pl wr le fi 4).2), .int ((px_xs pl wr le fi 4).1)])), (a1, .inl (ww_g X 0, 240, .inl pl)), (a2, .inl (ww_g X 1, 240, .inl wr)), (a3, .inl (ww_g X 1, 240, .inl pg)), (a4, .inl (ww_g X 0, 240, .inl pv)), (a5, .inl (ww_g X 0, 4, .inl sz)), (a6, .inl (ww_g X 0, 80, .inl ow)), (a7, .inl (ww_g X 0, 80, .inl vl)), (a8, .inl (ww_g X 0, 60, .inl bf))]) rfl rfl (by decide) ?_
  exact F.i dd_MO_reserved_9
set_option maxRecDepth 4000 in
theorem cc_MO_crash (l : Launch) (D : va_G) (g : Nat → ClassId) (m : Nat) (a1 : Nat) (a2 : Nat) (a3 : Nat) (a4 : Nat) (a5 : Nat) (a6 : Nat) (a7 : Nat) (a8 : Nat) (cd : Int32) (fi : Int32) (le : Int32) (pl : Nat → Int32) (wr : Nat → Int32) (pg : Nat → Int32) (pv : Nat → Int32) (sz : Nat → Int32) (ow : Nat → Int32) (vl : Nat → Int32) (bf : Nat → Int32)  : ww_ct l D g yy_MO_crash bb_MO_crash 3 (some .int) (ww_rm 1) [.ref m] [(m, .inr (3, [.int cd, .ref a1, .ref a2, .ref a3, .ref a4, .ref a5, .ref a6, .ref a7, .ref a8, .int fi, .int le])), (a1, .inl (g 0, 240, .inl pl)), (a2, .inl (g 1, 240, .inl wr)), (a3, .inl (g 1, 240, .inl pg)), (a4, .inl (g 0, 240, .inl pv)), (a5, .inl (g 0, 4, .inl sz)), (a6, .inl (g 0, 80, .inl ow)), (a7, .inl (g 0, 80, .inl vl)), (a8, .inl (g 0, 60, .inl bf))] (some (.int (nI (px_cnt (px_on pg) 0 240)))) [(m, .inr (3, [.int (nI 0), .ref a1, .ref a2, .ref a3, .ref a4, .ref a5, .ref a6, .ref a7, .ref a8, .int fi, .int le])), (a1, .inl (g 0, 240, .inl pl)), (a2, .inl (g 1, 240, .inl wr)), (a3, .inl (g 1, 240, .inl (px_fill pg 0 240 (nI 0)))), (a4, .inl (g 0, 240, .inl pv)), (a5, .inl (g 0, 4, .inl sz)), (a6, .inl (g 0, 80, .inl ow)), (a7, .inl (g 0, 80, .inl vl)), (a8, .inl (g 0, 60, .inl bf))] := by
  refine ww_start (by decide +kernel) rfl rfl (Nat.le_of_ble_eq_true rfl) (L0 := [(0, .ref m)]) rfl ?_
  intro X O hl hD hg hR hn F
  subst hl hD hg
  have loop : ∀ (k b n : Nat), 240 ≤ b + k → b ≤ 240 → n = px_cnt (px_on pg) 0 b → ww_at X 0 0 9 [(0, .ref m), (1, .int (nI n)), (2, .int (nI b))] [] [(m, .inr (3, [.int (nI 0), .ref a1, .ref a2, .ref a3, .ref a4, .ref a5, .ref a6, .ref a7, .ref a8, .int fi, .int le])), (a1, .inl (ww_g X 0, 240, .inl pl)), (a2, .inl (ww_g X 1, 240, .inl wr)), (a3, .inl (ww_g X 1, 240, .inl (px_fill pg 0 (b - 0) (nI 0)))), (a4, .inl (ww_g X 0, 240, .inl pv)), (a5, .inl (ww_g X 0, 4, .inl sz)), (a6, .inl (ww_g X 0, 80, .inl ow)), (a7, .inl (ww_g X 0, 80, .inl vl)), (a8, .inl (ww_g X 0, 60, .inl bf))] := by
    intro k
    induction k with
    | zero =>
      intro b n h1 h2 h5
      have hn9 := px_cnt_le (px_on pg) 0 b
      refine ww_iload_n O dd_MO_crash_9 2 rfl ?_
      refine ww_sipush O dd_MO_crash_10 (v := nI 240) rfl ?_
      refine ww_icmp_geN O dd_MO_crash_13 (tgt := 46) rfl (by omega) (by omega) (fun h13 => ?_) (fun h13 => ?_)
      · refine ww_iload_n O dd_MO_crash_46 1 rfl ?_
        have eb : b = 240 := by omega
        subst eb
        subst h5
        exact F.i dd_MO_crash_47
      · exfalso; omega
    | succ k ih =>
      intro b n h1 h2 h5
      have hn9 := px_cnt_le (px_on pg) 0 b
      refine ww_iload_n O dd_MO_crash_9 2 rfl ?_
      refine ww_sipush O dd_MO_crash_10 (v := nI 240) rfl ?_
      refine ww_icmp_geN O dd_MO_crash_13 (tgt := 46) rfl (by omega) (by omega) (fun h13 => ?_) (fun h13 => ?_)
      · refine ww_iload_n O dd_MO_crash_46 1 rfl ?_
        have eb : b = 240 := by omega
        subst eb
        subst h5
        exact F.i dd_MO_crash_47
      · refine ww_aload_n O dd_MO_crash_16 0 rfl ?_
        refine ww_get O ci_MO rfl 3 (by decide) lf_MO_17 rfl dd_MO_crash_17 0 rfl rfl ?_
        refine ww_iload_n O dd_MO_crash_20 2 rfl ?_
        refine ww_zald O dd_MO_crash_21 3 rfl (by omega) (by decide) rfl ?_
        rw [px_fill_o (by omega)]
        refine ww_if_eq O dd_MO_crash_22 (tgt := 31) rfl (fun h22 => ?_) (fun h22 => ?_)
        · refine ww_iload_n O dd_MO_crash_31 1 rfl ?_
          refine ww_istore_n O dd_MO_crash_32 (by rw [hn]; decide) rfl (L' := [(0, .ref m), (1, .int (nI n)), (2, .int (nI b))]) rfl ?_
          refine ww_aload_n O dd_MO_crash_33 0 rfl ?_
          refine ww_get O ci_MO rfl 3 (by decide) lf_MO_17 rfl dd_MO_crash_34 0 rfl rfl ?_
          refine ww_iload_n O dd_MO_crash_37 2 rfl ?_
          refine ww_iconst O dd_MO_crash_38 (v := nI 0) rfl ?_
          refine ww_zast O dd_MO_crash_39 3 rfl (by omega) (by decide) rfl (ws' := [(m, .inr (3, [.int (nI 0), .ref a1, .ref a2, .ref a3, .ref a4, .ref a5, .ref a6, .ref a7, .ref a8, .int fi, .int le])), (a1, .inl (ww_g X 0, 240, .inl pl)), (a2, .inl (ww_g X 1, 240, .inl wr)), (a3, .inl (ww_g X 1, 240, .inl (upd (px_fill pg 0 (b - 0) (nI 0)) b (nI 0)))), (a4, .inl (ww_g X 0, 240, .inl pv)), (a5, .inl (ww_g X 0, 4, .inl sz)), (a6, .inl (ww_g X 0, 80, .inl ow)), (a7, .inl (ww_g X 0, 80, .inl vl)), (a8, .inl (ww_g X 0, 60, .inl bf))]) rfl ?_
          refine ww_iinc O dd_MO_crash_40 2 rfl (v := nI (b + 1)) (nI_add _ 1) (by rw [hn]; decide) rfl (L' := [(0, .ref m), (1, .int (nI n)), (2, .int (nI (b + 1)))]) rfl ?_
          refine ww_goto O dd_MO_crash_43 (tgt := 9) rfl ?_
          rw [px_fill_sa (Nat.zero_le b)]
          exact ih (b + 1) n (by omega) (by omega) (px_c0f h5 (by simp [px_on, h22]))
        · refine ww_iload_n O dd_MO_crash_25 1 rfl ?_
          refine ww_iconst O dd_MO_crash_26 (v := nI 1) rfl ?_
          refine ww_iadd O dd_MO_crash_27 (v := nI (n + 1)) (nI_add _ _) ?_
          refine ww_goto O dd_MO_crash_28 (tgt := 32) rfl ?_
          refine ww_istore_n O dd_MO_crash_32 (by rw [hn]; decide) rfl (L' := [(0, .ref m), (1, .int (nI (n + 1))), (2, .int (nI b))]) rfl ?_
          refine ww_aload_n O dd_MO_crash_33 0 rfl ?_
          refine ww_get O ci_MO rfl 3 (by decide) lf_MO_17 rfl dd_MO_crash_34 0 rfl rfl ?_
          refine ww_iload_n O dd_MO_crash_37 2 rfl ?_
          refine ww_iconst O dd_MO_crash_38 (v := nI 0) rfl ?_
          refine ww_zast O dd_MO_crash_39 3 rfl (by omega) (by decide) rfl (ws' := [(m, .inr (3, [.int (nI 0), .ref a1, .ref a2, .ref a3, .ref a4, .ref a5, .ref a6, .ref a7, .ref a8, .int fi, .int le])), (a1, .inl (ww_g X 0, 240, .inl pl)), (a2, .inl (ww_g X 1, 240, .inl wr)), (a3, .inl (ww_g X 1, 240, .inl (upd (px_fill pg 0 (b - 0) (nI 0)) b (nI 0)))), (a4, .inl (ww_g X 0, 240, .inl pv)), (a5, .inl (ww_g X 0, 4, .inl sz)), (a6, .inl (ww_g X 0, 80, .inl ow)), (a7, .inl (ww_g X 0, 80, .inl vl)), (a8, .inl (ww_g X 0, 60, .inl bf))]) rfl ?_
          refine ww_iinc O dd_MO_crash_40 2 rfl (v := nI (b + 1)) (nI_add _ 1) (by rw [hn]; decide) rfl (L' := [(0, .ref m), (1, .int (nI (n + 1))), (2, .int (nI (b + 1)))]) rfl ?_
          refine ww_goto O dd_MO_crash_43 (tgt := 9) rfl ?_
          rw [px_fill_sa (Nat.zero_le b)]
          exact ih (b + 1) (n + 1) (by omega) (by omega) (px_c0t h5 (by simp [px_on, h22]))
  have h0 := loop 240 0 0 (by omega) (by omega) rfl
  rw [Nat.sub_self, px_fill_0] at h0
  refine ww_aload_n O dd_MO_crash_0 0 rfl ?_
  refine ww_iconst O dd_MO_crash_1 (v := nI 0) rfl ?_
  refine ww_put O ci_MO cy_MO cy_MO_ok cn_MO rfl 0 (by decide) lf_MO_35 rfl rfl (ty := .int) (by decide +kernel) dd_MO_crash_2 0 rfl rfl rfl (Nat.le_of_ble_eq_true rfl) (ws' := [(m, .inr (3, [.int (nI 0), .ref a1, .ref a2, .ref a3, .ref a4, .ref a5, .ref a6, .ref a7, .ref a8, .int fi, .int le])), (a1, .inl (ww_g X 0, 240, .inl pl)), (a2, .inl (ww_g X 1, 240, .inl wr)), (a3, .inl (ww_g X 1, 240, .inl pg)), (a4, .inl (ww_g X 0, 240, .inl pv)), (a5, .inl (ww_g X 0, 4, .inl sz)), (a6, .inl (ww_g X 0, 80, .inl ow)), (a7, .inl (ww_g X 0, 80, .inl vl)), (a8, .inl (ww_g X 0, 60, .inl bf))]) rfl ?_
  refine ww_iconst O dd_MO_crash_5 (v := nI 0) rfl ?_
  refine ww_istore_n O dd_MO_crash_6 (by rw [hn]; decide) rfl (L' := [(0, .ref m), (1, .int (nI 0))]) rfl ?_
  refine ww_iconst O dd_MO_crash_7 (v := nI 0) rfl ?_
  refine ww_istore_n O dd_MO_crash_8 (by rw [hn]; decide) rfl (L' := [(0, .ref m), (1, .int (nI 0)), (2, .int (nI 0))]) rfl ?_
  exact h0
set_option maxRecDepth 4000 in
theorem cc_MO_punch_bad1 (l : Launch) (D : va_G) (g : Nat → ClassId) (m : Nat) (a1 : Nat) (a2 : Nat) (a3 : Nat) (a4 : Nat) (a5 : Nat) (a6 : Nat) (a7 : Nat) (a8 : Nat) (cd : Int32) (fi : Int32) (le : Int32) (pl : Nat → Int32) (wr : Nat → Int32) (pg : Nat → Int32) (pv : Nat → Int32) (sz : Nat → Int32) (ow : Nat → Int32) (vl : Nat → Int32) (bf : Nat → Int32) (x : Int32) (y : Int32) (z : Int32) (hbad : px_nf x 3 = true ∨ px_nf y 59 = true) : ww_ct l D g yy_MO_punch bb_MO_punch 4 (some .int) (ww_rm 3) [.ref m, .int x, .int y, .int z] [(m, .inr (3, [.int cd, .ref a1, .ref a2, .ref a3, .ref a4, .ref a5, .ref a6, .ref a7, .ref a8, .int fi, .int le])), (a1, .inl (g 0, 240, .inl pl)), (a2, .inl (g 1, 240, .inl wr)), (a3, .inl (g 1, 240, .inl pg)), (a4, .inl (g 0, 240, .inl pv)), (a5, .inl (g 0, 4, .inl sz)), (a6, .inl (g 0, 80, .inl ow)), (a7, .inl (g 0, 80, .inl vl)), (a8, .inl (g 0, 60, .inl bf))] (some (.int (nI 0))) [(m, .inr (3, [.int (nI 1), .ref a1, .ref a2, .ref a3, .ref a4, .ref a5, .ref a6, .ref a7, .ref a8, .int fi, .int le])), (a1, .inl (g 0, 240, .inl pl)), (a2, .inl (g 1, 240, .inl wr)), (a3, .inl (g 1, 240, .inl pg)), (a4, .inl (g 0, 240, .inl pv)), (a5, .inl (g 0, 4, .inl sz)), (a6, .inl (g 0, 80, .inl ow)), (a7, .inl (g 0, 80, .inl vl)), (a8, .inl (g 0, 60, .inl bf))] := by
  refine ww_start (by decide +kernel) rfl rfl (Nat.le_of_ble_eq_true rfl) (L0 := [(0, .ref m), (1, .int x), (2, .int y), (3, .int z)]) rfl ?_
  intro X O hl hD hg hR hn F
  subst hl hD hg
  refine ww_aload_n O dd_MO_punch_0 0 rfl ?_
  refine ww_iload_n O dd_MO_punch_1 1 rfl ?_
  refine ww_callS O (cc_MO_noFile _ _ _ x ) lc_MO_79 ls_MO_noFile_I_Z (by rw [hR]; decide) (by rw [hR]; decide) (by rw [hR]; decide) rfl (Nat.le_of_ble_eq_true rfl) dd_MO_punch_2 rfl [] [0, 1, 2, 3, 4, 5, 6, 7, 8] [0, 1, 2, 3, 4, 5, 6, 7, 8] rfl (by decide) rfl (by decide) (by decide) (ws' := [(m, .inr (3, [.int cd, .ref a1, .ref a2, .ref a3, .ref a4, .ref a5, .ref a6, .ref a7, .ref a8, .int fi, .int le])), (a1, .inl (ww_g X 0, 240, .inl pl)), (a2, .inl (ww_g X 1, 240, .inl wr)), (a3, .inl (ww_g X 1, 240, .inl pg)), (a4, .inl (ww_g X 0, 240, .inl pv)), (a5, .inl (ww_g X 0, 4, .inl sz)), (a6, .inl (ww_g X 0, 80, .inl ow)), (a7, .inl (ww_g X 0, 80, .inl vl)), (a8, .inl (ww_g X 0, 60, .inl bf))]) rfl rfl (by decide) ?_
  refine ww_if_neB O dd_MO_punch_5 (tgt := 15) rfl (fun h5 => ?_) (fun h5 => ?_)
  · refine ww_iconst O dd_MO_punch_15 (v := nI 1) rfl ?_
    refine ww_goto O dd_MO_punch_16 (tgt := 37) rfl ?_
    refine ww_put O ci_MO cy_MO cy_MO_ok cn_MO rfl 0 (by decide) lf_MO_35 rfl rfl (ty := .int) (by decide +kernel) dd_MO_punch_37 0 rfl rfl rfl (Nat.le_of_ble_eq_true rfl) (ws' := [(m, .inr (3, [.int (nI 1), .ref a1, .ref a2, .ref a3, .ref a4, .ref a5, .ref a6, .ref a7, .ref a8, .int fi, .int le])), (a1, .inl (ww_g X 0, 240, .inl pl)), (a2, .inl (ww_g X 1, 240, .inl wr)), (a3, .inl (ww_g X 1, 240, .inl pg)), (a4, .inl (ww_g X 0, 240, .inl pv)), (a5, .inl (ww_g X 0, 4, .inl sz)), (a6, .inl (ww_g X 0, 80, .inl ow)), (a7, .inl (ww_g X 0, 80, .inl vl)), (a8, .inl (ww_g X 0, 60, .inl bf))]) rfl ?_
    refine ww_aload_n O dd_MO_punch_40 0 rfl ?_
    refine ww_get O ci_MO rfl 0 (by decide) lf_MO_35 rfl dd_MO_punch_41 0 rfl rfl ?_
    refine ww_if_leN O dd_MO_punch_44 (tgt := 51) rfl (by omega) (fun h44 => ?_) (fun h44 => ?_)
    · exfalso; omega
    · refine ww_iconst O dd_MO_punch_47 (v := nI 0) rfl ?_
      refine ww_goto O dd_MO_punch_48 (tgt := 69) rfl ?_
      exact F.i dd_MO_punch_69
  · refine ww_iload_n O dd_MO_punch_8 2 rfl ?_
    refine ww_callS O (cc_MO_noBlock _ _ _ y ) lc_MO_82 ls_MO_noBlock_I_Z (by rw [hR]; decide) (by rw [hR]; decide) (by rw [hR]; decide) rfl (Nat.le_of_ble_eq_true rfl) dd_MO_punch_9 rfl [] [0, 1, 2, 3, 4, 5, 6, 7, 8] [0, 1, 2, 3, 4, 5, 6, 7, 8] rfl (by decide) rfl (by decide) (by decide) (ws' := [(m, .inr (3, [.int cd, .ref a1, .ref a2, .ref a3, .ref a4, .ref a5, .ref a6, .ref a7, .ref a8, .int fi, .int le])), (a1, .inl (ww_g X 0, 240, .inl pl)), (a2, .inl (ww_g X 1, 240, .inl wr)), (a3, .inl (ww_g X 1, 240, .inl pg)), (a4, .inl (ww_g X 0, 240, .inl pv)), (a5, .inl (ww_g X 0, 4, .inl sz)), (a6, .inl (ww_g X 0, 80, .inl ow)), (a7, .inl (ww_g X 0, 80, .inl vl)), (a8, .inl (ww_g X 0, 60, .inl bf))]) rfl rfl (by decide) ?_
    refine ww_if_eqB O dd_MO_punch_12 (tgt := 19) rfl (fun h12 => ?_) (fun h12 => ?_)
    · exact absurd (hbad.elim (fun q => by rw [q] at h5; exact absurd h5 (by decide)) (fun q => by rw [q] at h12; exact absurd h12 (by decide))) id
    · refine ww_iconst O dd_MO_punch_15 (v := nI 1) rfl ?_
      refine ww_goto O dd_MO_punch_16 (tgt := 37) rfl ?_
      refine ww_put O ci_MO cy_MO cy_MO_ok cn_MO rfl 0 (by decide) lf_MO_35 rfl rfl (ty := .int) (by decide +kernel) dd_MO_punch_37 0 rfl rfl rfl (Nat.le_of_ble_eq_true rfl) (ws' := [(m, .inr (3, [.int (nI 1), .ref a1, .ref a2, .ref a3, .ref a4, .ref a5, .ref a6, .ref a7, .ref a8, .int fi, .int le])), (a1, .inl (ww_g X 0, 240, .inl pl)), (a2, .inl (ww_g X 1, 240, .inl wr)), (a3, .inl (ww_g X 1, 240, .inl pg)), (a4, .inl (ww_g X 0, 240, .inl pv)), (a5, .inl (ww_g X 0, 4, .inl sz)), (a6, .inl (ww_g X 0, 80, .inl ow)), (a7, .inl (ww_g X 0, 80, .inl vl)), (a8, .inl (ww_g X 0, 60, .inl bf))]) rfl ?_
      refine ww_aload_n O dd_MO_punch_40 0 rfl ?_
      refine ww_get O ci_MO rfl 0 (by decide) lf_MO_35 rfl dd_MO_punch_41 0 rfl rfl ?_
      refine ww_if_leN O dd_MO_punch_44 (tgt := 51) rfl (by omega) (fun h44 => ?_) (fun h44 => ?_)
      · exfalso; omega
      · refine ww_iconst O dd_MO_punch_47 (v := nI 0) rfl ?_
        refine ww_goto O dd_MO_punch_48 (tgt := 69) rfl ?_
        exact F.i dd_MO_punch_69
set_option maxRecDepth 4000 in
theorem cc_MO_punch_bad2 (l : Launch) (D : va_G) (g : Nat → ClassId) (m : Nat) (a1 : Nat) (a2 : Nat) (a3 : Nat) (a4 : Nat) (a5 : Nat) (a6 : Nat) (a7 : Nat) (a8 : Nat) (cd : Int32) (fi : Int32) (le : Int32) (pl : Nat → Int32) (wr : Nat → Int32) (pg : Nat → Int32) (pv : Nat → Int32) (sz : Nat → Int32) (ow : Nat → Int32) (vl : Nat → Int32) (bf : Nat → Int32) (f : Nat) (b : Nat) (x : Int32) (hf : f < 4) (hb : b < 60) (hbad : x < nI 1 ∨ ¬ x ≤ nI (60 - b)) : ww_ct l D g yy_MO_punch bb_MO_punch 4 (some .int) (ww_rm 3) [.ref m, .int (nI f), .int (nI b), .int x] [(m, .inr (3, [.int cd, .ref a1, .ref a2, .ref a3, .ref a4, .ref a5, .ref a6, .ref a7, .ref a8, .int fi, .int le])), (a1, .inl (g 0, 240, .inl pl)), (a2, .inl (g 1, 240, .inl wr)), (a3, .inl (g 1, 240, .inl pg)), (a4, .inl (g 0, 240, .inl pv)), (a5, .inl (g 0, 4, .inl sz)), (a6, .inl (g 0, 80, .inl ow)), (a7, .inl (g 0, 80, .inl vl)), (a8, .inl (g 0, 60, .inl bf))] (some (.int (nI 0))) [(m, .inr (3, [.int (nI 2), .ref a1, .ref a2, .ref a3, .ref a4, .ref a5, .ref a6, .ref a7, .ref a8, .int fi, .int le])), (a1, .inl (g 0, 240, .inl pl)), (a2, .inl (g 1, 240, .inl wr)), (a3, .inl (g 1, 240, .inl pg)), (a4, .inl (g 0, 240, .inl pv)), (a5, .inl (g 0, 4, .inl sz)), (a6, .inl (g 0, 80, .inl ow)), (a7, .inl (g 0, 80, .inl vl)), (a8, .inl (g 0, 60, .inl bf))] := by
  refine ww_start (by decide +kernel) rfl rfl (Nat.le_of_ble_eq_true rfl) (L0 := [(0, .ref m), (1, .int (nI f)), (2, .int (nI b)), (3, .int x)]) rfl ?_
  intro X O hl hD hg hR hn F
  subst hl hD hg
  refine ww_aload_n O dd_MO_punch_0 0 rfl ?_
  refine ww_iload_n O dd_MO_punch_1 1 rfl ?_
  refine ww_callS O (cc_MO_noFile _ _ _ (nI f) ) lc_MO_79 ls_MO_noFile_I_Z (by rw [hR]; decide) (by rw [hR]; decide) (by rw [hR]; decide) rfl (Nat.le_of_ble_eq_true rfl) dd_MO_punch_2 rfl [] [0, 1, 2, 3, 4, 5, 6, 7, 8] [0, 1, 2, 3, 4, 5, 6, 7, 8] rfl (by decide) rfl (by decide) (by decide) (ws' := [(m, .inr (3, [.int cd, .ref a1, .ref a2, .ref a3, .ref a4, .ref a5, .ref a6, .ref a7, .ref a8, .int fi, .int le])), (a1, .inl (ww_g X 0, 240, .inl pl)), (a2, .inl (ww_g X 1, 240, .inl wr)), (a3, .inl (ww_g X 1, 240, .inl pg)), (a4, .inl (ww_g X 0, 240, .inl pv)), (a5, .inl (ww_g X 0, 4, .inl sz)), (a6, .inl (ww_g X 0, 80, .inl ow)), (a7, .inl (ww_g X 0, 80, .inl vl)), (a8, .inl (ww_g X 0, 60, .inl bf))]) rfl rfl (by decide) ?_
  rw [px_nf_nI (k := 3) (by omega) (by decide)]
  refine ww_if_neB O dd_MO_punch_5 (tgt := 15) rfl (fun h5 => ?_) (fun h5 => ?_)
  · exact absurd h5 (by decide)
  · refine ww_iload_n O dd_MO_punch_8 2 rfl ?_
    refine ww_callS O (cc_MO_noBlock _ _ _ (nI b) ) lc_MO_82 ls_MO_noBlock_I_Z (by rw [hR]; decide) (by rw [hR]; decide) (by rw [hR]; decide) rfl (Nat.le_of_ble_eq_true rfl) dd_MO_punch_9 rfl [] [0, 1, 2, 3, 4, 5, 6, 7, 8] [0, 1, 2, 3, 4, 5, 6, 7, 8] rfl (by decide) rfl (by decide) (by decide) (ws' := [(m, .inr (3, [.int cd, .ref a1, .ref a2, .ref a3, .ref a4, .ref a5, .ref a6, .ref a7, .ref a8, .int fi, .int le])), (a1, .inl (ww_g X 0, 240, .inl pl)), (a2, .inl (ww_g X 1, 240, .inl wr)), (a3, .inl (ww_g X 1, 240, .inl pg)), (a4, .inl (ww_g X 0, 240, .inl pv)), (a5, .inl (ww_g X 0, 4, .inl sz)), (a6, .inl (ww_g X 0, 80, .inl ow)), (a7, .inl (ww_g X 0, 80, .inl vl)), (a8, .inl (ww_g X 0, 60, .inl bf))]) rfl rfl (by decide) ?_
    rw [px_nf_nI (k := 59) (by omega) (by decide)]
    refine ww_if_eqB O dd_MO_punch_12 (tgt := 19) rfl (fun h12 => ?_) (fun h12 => ?_)
    · refine ww_iload_n O dd_MO_punch_19 3 rfl ?_
      refine ww_iconst O dd_MO_punch_20 (v := nI 1) rfl ?_
      refine ww_icmp_lt O dd_MO_punch_21 (tgt := 32) rfl (fun h21 => ?_) (fun h21 => ?_)
      · refine ww_iconst O dd_MO_punch_32 (v := nI 2) rfl ?_
        refine ww_goto O dd_MO_punch_33 (tgt := 37) rfl ?_
        refine ww_put O ci_MO cy_MO cy_MO_ok cn_MO rfl 0 (by decide) lf_MO_35 rfl rfl (ty := .int) (by decide +kernel) dd_MO_punch_37 0 rfl rfl rfl (Nat.le_of_ble_eq_true rfl) (ws' := [(m, .inr (3, [.int (nI 2), .ref a1, .ref a2, .ref a3, .ref a4, .ref a5, .ref a6, .ref a7, .ref a8, .int fi, .int le])), (a1, .inl (ww_g X 0, 240, .inl pl)), (a2, .inl (ww_g X 1, 240, .inl wr)), (a3, .inl (ww_g X 1, 240, .inl pg)), (a4, .inl (ww_g X 0, 240, .inl pv)), (a5, .inl (ww_g X 0, 4, .inl sz)), (a6, .inl (ww_g X 0, 80, .inl ow)), (a7, .inl (ww_g X 0, 80, .inl vl)), (a8, .inl (ww_g X 0, 60, .inl bf))]) rfl ?_
        refine ww_aload_n O dd_MO_punch_40 0 rfl ?_
        refine ww_get O ci_MO rfl 0 (by decide) lf_MO_35 rfl dd_MO_punch_41 0 rfl rfl ?_
        refine ww_if_leN O dd_MO_punch_44 (tgt := 51) rfl (by omega) (fun h44 => ?_) (fun h44 => ?_)
        · exfalso; omega
        · refine ww_iconst O dd_MO_punch_47 (v := nI 0) rfl ?_
          refine ww_goto O dd_MO_punch_48 (tgt := 69) rfl ?_
          exact F.i dd_MO_punch_69
      · refine ww_iload_n O dd_MO_punch_24 3 rfl ?_
        refine ww_bipush O dd_MO_punch_25 (v := nI 60) rfl ?_
        refine ww_iload_n O dd_MO_punch_27 2 rfl ?_
        refine ww_isub O dd_MO_punch_28 (v := nI (60 - b)) (pk_sub (by omega)) ?_
        refine ww_icmp_le O dd_MO_punch_29 (tgt := 36) rfl (fun h29 => ?_) (fun h29 => ?_)
        · exact absurd h29 (hbad.elim (fun q => absurd q h21) id)
        · refine ww_iconst O dd_MO_punch_32 (v := nI 2) rfl ?_
          refine ww_goto O dd_MO_punch_33 (tgt := 37) rfl ?_
          refine ww_put O ci_MO cy_MO cy_MO_ok cn_MO rfl 0 (by decide) lf_MO_35 rfl rfl (ty := .int) (by decide +kernel) dd_MO_punch_37 0 rfl rfl rfl (Nat.le_of_ble_eq_true rfl) (ws' := [(m, .inr (3, [.int (nI 2), .ref a1, .ref a2, .ref a3, .ref a4, .ref a5, .ref a6, .ref a7, .ref a8, .int fi, .int le])), (a1, .inl (ww_g X 0, 240, .inl pl)), (a2, .inl (ww_g X 1, 240, .inl wr)), (a3, .inl (ww_g X 1, 240, .inl pg)), (a4, .inl (ww_g X 0, 240, .inl pv)), (a5, .inl (ww_g X 0, 4, .inl sz)), (a6, .inl (ww_g X 0, 80, .inl ow)), (a7, .inl (ww_g X 0, 80, .inl vl)), (a8, .inl (ww_g X 0, 60, .inl bf))]) rfl ?_
          refine ww_aload_n O dd_MO_punch_40 0 rfl ?_
          refine ww_get O ci_MO rfl 0 (by decide) lf_MO_35 rfl dd_MO_punch_41 0 rfl rfl ?_
          refine ww_if_leN O dd_MO_punch_44 (tgt := 51) rfl (by omega) (fun h44 => ?_) (fun h44 => ?_)
          · exfalso; omega
          · refine ww_iconst O dd_MO_punch_47 (v := nI 0) rfl ?_
            refine ww_goto O dd_MO_punch_48 (tgt := 69) rfl ?_
            exact F.i dd_MO_punch_69
    · exact absurd h12 (by decide)
set_option maxRecDepth 4000 in
theorem cc_MO_punch (l : Launch) (D : va_G) (g : Nat → ClassId) (m : Nat) (a1 : Nat) (a2 : Nat) (a3 : Nat) (a4 : Nat) (a5 : Nat) (a6 : Nat) (a7 : Nat) (a8 : Nat) (cd : Int32) (fi : Int32) (le : Int32) (pl : Nat → Int32) (wr : Nat → Int32) (pg : Nat → Int32) (pv : Nat → Int32) (sz : Nat → Int32) (ow : Nat → Int32) (vl : Nat → Int32) (bf : Nat → Int32) (f : Nat) (b : Nat) (n : Nat) (hr : ∀ b, b < 240 → px_rg (pl b)) (hf : f < 4) (hb : b < 60) (hn1 : 0 < n) (hn : n ≤ 60 - b) : ww_ct l D g yy_MO_punch bb_MO_punch 4 (some .int) (ww_rm 3) [.ref m, .int (nI f), .int (nI b), .int (nI n)] [(m, .inr (3, [.int cd, .ref a1, .ref a2, .ref a3, .ref a4, .ref a5, .ref a6, .ref a7, .ref a8, .int fi, .int le])), (a1, .inl (g 0, 240, .inl pl)), (a2, .inl (g 1, 240, .inl wr)), (a3, .inl (g 1, 240, .inl pg)), (a4, .inl (g 0, 240, .inl pv)), (a5, .inl (g 0, 4, .inl sz)), (a6, .inl (g 0, 80, .inl ow)), (a7, .inl (g 0, 80, .inl vl)), (a8, .inl (g 0, 60, .inl bf))] (some (.int (nI (px_cnt (fun j => !px_hole pl j) (60 * f + b) n)))) [(m, .inr (3, [.int (nI 0), .ref a1, .ref a2, .ref a3, .ref a4, .ref a5, .ref a6, .ref a7, .ref a8, .int fi, .int le])), (a1, .inl (g 0, 240, .inl (px_fill pl (60 * f + b) n (-1)))), (a2, .inl (g 1, 240, .inl (px_fill wr (60 * f + b) n (nI 0)))), (a3, .inl (g 1, 240, .inl (px_fill pg (60 * f + b) n (nI 0)))), (a4, .inl (g 0, 240, .inl pv)), (a5, .inl (g 0, 4, .inl sz)), (a6, .inl (g 0, 80, .inl (px_rel (fun _ => true) pl n (60 * f + b) ow))), (a7, .inl (g 0, 80, .inl vl)), (a8, .inl (g 0, 60, .inl bf))] := by
  refine ww_start (by decide +kernel) rfl rfl (Nat.le_of_ble_eq_true rfl) (L0 := [(0, .ref m), (1, .int (nI f)), (2, .int (nI b)), (3, .int (nI n))]) rfl ?_
  intro X O hl hD hg hR hn F
  subst hl hD hg
  have hsub : 60 * f + b + n - (60 * f + b) = n := by omega
  refine ww_aload_n O dd_MO_punch_0 0 rfl ?_
  refine ww_iload_n O dd_MO_punch_1 1 rfl ?_
  refine ww_callS O (cc_MO_noFile _ _ _ (nI f) ) lc_MO_79 ls_MO_noFile_I_Z (by rw [hR]; decide) (by rw [hR]; decide) (by rw [hR]; decide) rfl (Nat.le_of_ble_eq_true rfl) dd_MO_punch_2 rfl [] [0, 1, 2, 3, 4, 5, 6, 7, 8] [0, 1, 2, 3, 4, 5, 6, 7, 8] rfl (by decide) rfl (by decide) (by decide) (ws' := [(m, .inr (3, [.int cd, .ref a1, .ref a2, .ref a3, .ref a4, .ref a5, .ref a6, .ref a7, .ref a8, .int fi, .int le])), (a1, .inl (ww_g X 0, 240, .inl pl)), (a2, .inl (ww_g X 1, 240, .inl wr)), (a3, .inl (ww_g X 1, 240, .inl pg)), (a4, .inl (ww_g X 0, 240, .inl pv)), (a5, .inl (ww_g X 0, 4, .inl sz)), (a6, .inl (ww_g X 0, 80, .inl ow)), (a7, .inl (ww_g X 0, 80, .inl vl)), (a8, .inl (ww_g X 0, 60, .inl bf))]) rfl rfl (by decide) ?_
  rw [px_nf_nI (k := 3) (by omega) (by decide)]
  refine ww_if_neB O dd_MO_punch_5 (tgt := 15) rfl (fun h5 => ?_) (fun h5 => ?_)
  · exact absurd h5 (by decide)
  · refine ww_iload_n O dd_MO_punch_8 2 rfl ?_
    refine ww_callS O (cc_MO_noBlock _ _ _ (nI b) ) lc_MO_82 ls_MO_noBlock_I_Z (by rw [hR]; decide) (by rw [hR]; decide) (by rw [hR]; decide) rfl (Nat.le_of_ble_eq_true rfl) dd_MO_punch_9 rfl [] [0, 1, 2, 3, 4, 5, 6, 7, 8] [0, 1, 2, 3, 4, 5, 6, 7, 8] rfl (by decide) rfl (by decide) (by decide) (ws' := [(m, .inr (3, [.int cd, .ref a1, .ref a2, .ref a3, .ref a4, .ref a5, .ref a6, .ref a7, .ref a8, .int fi, .int le])), (a1, .inl (ww_g X 0, 240, .inl pl)), (a2, .inl (ww_g X 1, 240, .inl wr)), (a3, .inl (ww_g X 1, 240, .inl pg)), (a4, .inl (ww_g X 0, 240, .inl pv)), (a5, .inl (ww_g X 0, 4, .inl sz)), (a6, .inl (ww_g X 0, 80, .inl ow)), (a7, .inl (ww_g X 0, 80, .inl vl)), (a8, .inl (ww_g X 0, 60, .inl bf))]) rfl rfl (by decide) ?_
    rw [px_nf_nI (k := 59) (by omega) (by decide)]
    refine ww_if_eqB O dd_MO_punch_12 (tgt := 19) rfl (fun h12 => ?_) (fun h12 => ?_)
    · refine ww_iload_n O dd_MO_punch_19 3 rfl ?_
      refine ww_iconst O dd_MO_punch_20 (v := nI 1) rfl ?_
      refine ww_icmp_ltN O dd_MO_punch_21 (tgt := 32) rfl (by omega) (by omega) (fun h21 => ?_) (fun h21 => ?_)
      · exfalso; omega
      · refine ww_iload_n O dd_MO_punch_24 3 rfl ?_
        refine ww_bipush O dd_MO_punch_25 (v := nI 60) rfl ?_
        refine ww_iload_n O dd_MO_punch_27 2 rfl ?_
        refine ww_isub O dd_MO_punch_28 (v := nI (60 - b)) (pk_sub (by omega)) ?_
        refine ww_icmp_leN O dd_MO_punch_29 (tgt := 36) rfl (by omega) (by omega) (fun h29 => ?_) (fun h29 => ?_)
        · refine ww_iconst O dd_MO_punch_36 (v := nI 0) rfl ?_
          refine ww_put O ci_MO cy_MO cy_MO_ok cn_MO rfl 0 (by decide) lf_MO_35 rfl rfl (ty := .int) (by decide +kernel) dd_MO_punch_37 0 rfl rfl rfl (Nat.le_of_ble_eq_true rfl) (ws' := [(m, .inr (3, [.int (nI 0), .ref a1, .ref a2, .ref a3, .ref a4, .ref a5, .ref a6, .ref a7, .ref a8, .int fi, .int le])), (a1, .inl (ww_g X 0, 240, .inl pl)), (a2, .inl (ww_g X 1, 240, .inl wr)), (a3, .inl (ww_g X 1, 240, .inl pg)), (a4, .inl (ww_g X 0, 240, .inl pv)), (a5, .inl (ww_g X 0, 4, .inl sz)), (a6, .inl (ww_g X 0, 80, .inl ow)), (a7, .inl (ww_g X 0, 80, .inl vl)), (a8, .inl (ww_g X 0, 60, .inl bf))]) rfl ?_
          refine ww_aload_n O dd_MO_punch_40 0 rfl ?_
          refine ww_get O ci_MO rfl 0 (by decide) lf_MO_35 rfl dd_MO_punch_41 0 rfl rfl ?_
          refine ww_if_leN O dd_MO_punch_44 (tgt := 51) rfl (by omega) (fun h44 => ?_) (fun h44 => ?_)
          · refine ww_aload_n O dd_MO_punch_51 0 rfl ?_
            refine ww_bipush O dd_MO_punch_52 (v := nI 60) rfl ?_
            refine ww_iload_n O dd_MO_punch_54 1 rfl ?_
            refine ww_imul O dd_MO_punch_55 (v := nI (60 * f)) (pk_mul _ _) ?_
            refine ww_iload_n O dd_MO_punch_56 2 rfl ?_
            refine ww_iadd O dd_MO_punch_57 (v := nI ((60 * f) + b)) (nI_add _ _) ?_
            refine ww_bipush O dd_MO_punch_58 (v := nI 60) rfl ?_
            refine ww_iload_n O dd_MO_punch_60 1 rfl ?_
            refine ww_imul O dd_MO_punch_61 (v := nI (60 * f)) (pk_mul _ _) ?_
            refine ww_iload_n O dd_MO_punch_62 2 rfl ?_
            refine ww_iadd O dd_MO_punch_63 (v := nI ((60 * f) + b)) (nI_add _ _) ?_
            refine ww_iload_n O dd_MO_punch_64 3 rfl ?_
            refine ww_iadd O dd_MO_punch_65 (v := nI (((60 * f) + b) + n)) (nI_add _ _) ?_
            refine ww_callV (q0 := 0) (ci := 3) O (cc_MO_empty _ _ _ m a1 a2 a3 a4 a5 a6 a7 a8 (nI 0) fi le pl wr pg pv sz ow vl bf ((60 * f) + b) (((60 * f) + b) + n) (by omega) (by omega) (by omega)) lc_MO_100 lx_MO_empty_II_I rfl rfl rfl (by rw [hR]; decide) (by rw [hR]; decide) (by rw [hR]; decide) rfl (Nat.le_of_ble_eq_true rfl) dd_MO_punch_66 rfl [0, 1, 2, 3, 4, 5, 6, 7, 8] [] [0, 1, 2, 3, 4, 5, 6, 7, 8] rfl (by decide) rfl (by decide) (by decide) (ws' := [(m, .inr (3, [.int (nI 0), .ref a1, .ref a2, .ref a3, .ref a4, .ref a5, .ref a6, .ref a7, .ref a8, .int fi, .int le])), (a1, .inl (ww_g X 0, 240, .inl (px_fill pl (((60 * f) + b)) ((((60 * f) + b) + n) - (((60 * f) + b))) (-1)))), (a2, .inl (ww_g X 1, 240, .inl (px_fill wr (((60 * f) + b)) ((((60 * f) + b) + n) - (((60 * f) + b))) (nI 0)))), (a3, .inl (ww_g X 1, 240, .inl (px_fill pg (((60 * f) + b)) ((((60 * f) + b) + n) - (((60 * f) + b))) (nI 0)))), (a4, .inl (ww_g X 0, 240, .inl pv)), (a5, .inl (ww_g X 0, 4, .inl sz)), (a6, .inl (ww_g X 0, 80, .inl (px_rel (fun _ => true) pl ((((60 * f) + b) + n) - (((60 * f) + b))) (((60 * f) + b)) ow))), (a7, .inl (ww_g X 0, 80, .inl vl)), (a8, .inl (ww_g X 0, 60, .inl bf))]) rfl rfl (by decide) ?_
            rw [hsub]
            exact F.i dd_MO_punch_69
          · exfalso; omega
        · exfalso; omega
    · exact absurd h12 (by decide)
set_option maxRecDepth 4000 in
theorem cc_MO_truncate_bad1 (l : Launch) (D : va_G) (g : Nat → ClassId) (m : Nat) (a1 : Nat) (a2 : Nat) (a3 : Nat) (a4 : Nat) (a5 : Nat) (a6 : Nat) (a7 : Nat) (a8 : Nat) (cd : Int32) (fi : Int32) (le : Int32) (pl : Nat → Int32) (wr : Nat → Int32) (pg : Nat → Int32) (pv : Nat → Int32) (sz : Nat → Int32) (ow : Nat → Int32) (vl : Nat → Int32) (bf : Nat → Int32) (x : Int32) (y : Int32) (hbad : px_nf x 3 = true) : ww_ct l D g yy_MO_truncate bb_MO_truncate 3 (some .int) (ww_rm 3) [.ref m, .int x, .int y] [(m, .inr (3, [.int cd, .ref a1, .ref a2, .ref a3, .ref a4, .ref a5, .ref a6, .ref a7, .ref a8, .int fi, .int le])), (a1, .inl (g 0, 240, .inl pl)), (a2, .inl (g 1, 240, .inl wr)), (a3, .inl (g 1, 240, .inl pg)), (a4, .inl (g 0, 240, .inl pv)), (a5, .inl (g 0, 4, .inl sz)), (a6, .inl (g 0, 80, .inl ow)), (a7, .inl (g 0, 80, .inl vl)), (a8, .inl (g 0, 60, .inl bf))] (some (.int (nI 0))) [(m, .inr (3, [.int (nI 1), .ref a1, .ref a2, .ref a3, .ref a4, .ref a5, .ref a6, .ref a7, .ref a8, .int fi, .int le])), (a1, .inl (g 0, 240, .inl pl)), (a2, .inl (g 1, 240, .inl wr)), (a3, .inl (g 1, 240, .inl pg)), (a4, .inl (g 0, 240, .inl pv)), (a5, .inl (g 0, 4, .inl sz)), (a6, .inl (g 0, 80, .inl ow)), (a7, .inl (g 0, 80, .inl vl)), (a8, .inl (g 0, 60, .inl bf))] := by
  refine ww_start (by decide +kernel) rfl rfl (Nat.le_of_ble_eq_true rfl) (L0 := [(0, .ref m), (1, .int x), (2, .int y)]) rfl ?_
  intro X O hl hD hg hR hn F
  subst hl hD hg
  refine ww_aload_n O dd_MO_truncate_0 0 rfl ?_
  refine ww_iload_n O dd_MO_truncate_1 1 rfl ?_
  refine ww_callS O (cc_MO_noFile _ _ _ x ) lc_MO_79 ls_MO_noFile_I_Z (by rw [hR]; decide) (by rw [hR]; decide) (by rw [hR]; decide) rfl (Nat.le_of_ble_eq_true rfl) dd_MO_truncate_2 rfl [] [0, 1, 2, 3, 4, 5, 6, 7, 8] [0, 1, 2, 3, 4, 5, 6, 7, 8] rfl (by decide) rfl (by decide) (by decide) (ws' := [(m, .inr (3, [.int cd, .ref a1, .ref a2, .ref a3, .ref a4, .ref a5, .ref a6, .ref a7, .ref a8, .int fi, .int le])), (a1, .inl (ww_g X 0, 240, .inl pl)), (a2, .inl (ww_g X 1, 240, .inl wr)), (a3, .inl (ww_g X 1, 240, .inl pg)), (a4, .inl (ww_g X 0, 240, .inl pv)), (a5, .inl (ww_g X 0, 4, .inl sz)), (a6, .inl (ww_g X 0, 80, .inl ow)), (a7, .inl (ww_g X 0, 80, .inl vl)), (a8, .inl (ww_g X 0, 60, .inl bf))]) rfl rfl (by decide) ?_
  refine ww_if_eqB O dd_MO_truncate_5 (tgt := 12) rfl (fun h5 => ?_) (fun h5 => ?_)
  · rw [hbad] at h5; exact absurd h5 (by decide)
  · refine ww_iconst O dd_MO_truncate_8 (v := nI 1) rfl ?_
    refine ww_goto O dd_MO_truncate_9 (tgt := 27) rfl ?_
    refine ww_put O ci_MO cy_MO cy_MO_ok cn_MO rfl 0 (by decide) lf_MO_35 rfl rfl (ty := .int) (by decide +kernel) dd_MO_truncate_27 0 rfl rfl rfl (Nat.le_of_ble_eq_true rfl) (ws' := [(m, .inr (3, [.int (nI 1), .ref a1, .ref a2, .ref a3, .ref a4, .ref a5, .ref a6, .ref a7, .ref a8, .int fi, .int le])), (a1, .inl (ww_g X 0, 240, .inl pl)), (a2, .inl (ww_g X 1, 240, .inl wr)), (a3, .inl (ww_g X 1, 240, .inl pg)), (a4, .inl (ww_g X 0, 240, .inl pv)), (a5, .inl (ww_g X 0, 4, .inl sz)), (a6, .inl (ww_g X 0, 80, .inl ow)), (a7, .inl (ww_g X 0, 80, .inl vl)), (a8, .inl (ww_g X 0, 60, .inl bf))]) rfl ?_
    refine ww_aload_n O dd_MO_truncate_30 0 rfl ?_
    refine ww_get O ci_MO rfl 0 (by decide) lf_MO_35 rfl dd_MO_truncate_31 0 rfl rfl ?_
    refine ww_if_leN O dd_MO_truncate_34 (tgt := 39) rfl (by omega) (fun h34 => ?_) (fun h34 => ?_)
    · exfalso; omega
    · refine ww_iconst O dd_MO_truncate_37 (v := nI 0) rfl ?_
      exact F.i dd_MO_truncate_38
set_option maxRecDepth 4000 in
theorem cc_MO_truncate_bad2 (l : Launch) (D : va_G) (g : Nat → ClassId) (m : Nat) (a1 : Nat) (a2 : Nat) (a3 : Nat) (a4 : Nat) (a5 : Nat) (a6 : Nat) (a7 : Nat) (a8 : Nat) (cd : Int32) (fi : Int32) (le : Int32) (pl : Nat → Int32) (wr : Nat → Int32) (pg : Nat → Int32) (pv : Nat → Int32) (sz : Nat → Int32) (ow : Nat → Int32) (vl : Nat → Int32) (bf : Nat → Int32) (f : Nat) (x : Int32) (hf : f < 4) (hbad : x < 0 ∨ ¬ x ≤ nI 60) : ww_ct l D g yy_MO_truncate bb_MO_truncate 3 (some .int) (ww_rm 3) [.ref m, .int (nI f), .int x] [(m, .inr (3, [.int cd, .ref a1, .ref a2, .ref a3, .ref a4, .ref a5, .ref a6, .ref a7, .ref a8, .int fi, .int le])), (a1, .inl (g 0, 240, .inl pl)), (a2, .inl (g 1, 240, .inl wr)), (a3, .inl (g 1, 240, .inl pg)), (a4, .inl (g 0, 240, .inl pv)), (a5, .inl (g 0, 4, .inl sz)), (a6, .inl (g 0, 80, .inl ow)), (a7, .inl (g 0, 80, .inl vl)), (a8, .inl (g 0, 60, .inl bf))] (some (.int (nI 0))) [(m, .inr (3, [.int (nI 2), .ref a1, .ref a2, .ref a3, .ref a4, .ref a5, .ref a6, .ref a7, .ref a8, .int fi, .int le])), (a1, .inl (g 0, 240, .inl pl)), (a2, .inl (g 1, 240, .inl wr)), (a3, .inl (g 1, 240, .inl pg)), (a4, .inl (g 0, 240, .inl pv)), (a5, .inl (g 0, 4, .inl sz)), (a6, .inl (g 0, 80, .inl ow)), (a7, .inl (g 0, 80, .inl vl)), (a8, .inl (g 0, 60, .inl bf))] := by
  refine ww_start (by decide +kernel) rfl rfl (Nat.le_of_ble_eq_true rfl) (L0 := [(0, .ref m), (1, .int (nI f)), (2, .int x)]) rfl ?_
  intro X O hl hD hg hR hn F
  subst hl hD hg
  refine ww_aload_n O dd_MO_truncate_0 0 rfl ?_
  refine ww_iload_n O dd_MO_truncate_1 1 rfl ?_
  refine ww_callS O (cc_MO_noFile _ _ _ (nI f) ) lc_MO_79 ls_MO_noFile_I_Z (by rw [hR]; decide) (by rw [hR]; decide) (by rw [hR]; decide) rfl (Nat.le_of_ble_eq_true rfl) dd_MO_truncate_2 rfl [] [0, 1, 2, 3, 4, 5, 6, 7, 8] [0, 1, 2, 3, 4, 5, 6, 7, 8] rfl (by decide) rfl (by decide) (by decide) (ws' := [(m, .inr (3, [.int cd, .ref a1, .ref a2, .ref a3, .ref a4, .ref a5, .ref a6, .ref a7, .ref a8, .int fi, .int le])), (a1, .inl (ww_g X 0, 240, .inl pl)), (a2, .inl (ww_g X 1, 240, .inl wr)), (a3, .inl (ww_g X 1, 240, .inl pg)), (a4, .inl (ww_g X 0, 240, .inl pv)), (a5, .inl (ww_g X 0, 4, .inl sz)), (a6, .inl (ww_g X 0, 80, .inl ow)), (a7, .inl (ww_g X 0, 80, .inl vl)), (a8, .inl (ww_g X 0, 60, .inl bf))]) rfl rfl (by decide) ?_
  rw [px_nf_nI (k := 3) (by omega) (by decide)]
  refine ww_if_eqB O dd_MO_truncate_5 (tgt := 12) rfl (fun h5 => ?_) (fun h5 => ?_)
  · refine ww_iload_n O dd_MO_truncate_12 2 rfl ?_
    refine ww_if_lt O dd_MO_truncate_13 (tgt := 22) rfl (fun h13 => ?_) (fun h13 => ?_)
    · refine ww_iconst O dd_MO_truncate_22 (v := nI 2) rfl ?_
      refine ww_goto O dd_MO_truncate_23 (tgt := 27) rfl ?_
      refine ww_put O ci_MO cy_MO cy_MO_ok cn_MO rfl 0 (by decide) lf_MO_35 rfl rfl (ty := .int) (by decide +kernel) dd_MO_truncate_27 0 rfl rfl rfl (Nat.le_of_ble_eq_true rfl) (ws' := [(m, .inr (3, [.int (nI 2), .ref a1, .ref a2, .ref a3, .ref a4, .ref a5, .ref a6, .ref a7, .ref a8, .int fi, .int le])), (a1, .inl (ww_g X 0, 240, .inl pl)), (a2, .inl (ww_g X 1, 240, .inl wr)), (a3, .inl (ww_g X 1, 240, .inl pg)), (a4, .inl (ww_g X 0, 240, .inl pv)), (a5, .inl (ww_g X 0, 4, .inl sz)), (a6, .inl (ww_g X 0, 80, .inl ow)), (a7, .inl (ww_g X 0, 80, .inl vl)), (a8, .inl (ww_g X 0, 60, .inl bf))]) rfl ?_
      refine ww_aload_n O dd_MO_truncate_30 0 rfl ?_
      refine ww_get O ci_MO rfl 0 (by decide) lf_MO_35 rfl dd_MO_truncate_31 0 rfl rfl ?_
      refine ww_if_leN O dd_MO_truncate_34 (tgt := 39) rfl (by omega) (fun h34 => ?_) (fun h34 => ?_)
      · exfalso; omega
      · refine ww_iconst O dd_MO_truncate_37 (v := nI 0) rfl ?_
        exact F.i dd_MO_truncate_38
    · refine ww_iload_n O dd_MO_truncate_16 2 rfl ?_
      refine ww_bipush O dd_MO_truncate_17 (v := nI 60) rfl ?_
      refine ww_icmp_le O dd_MO_truncate_19 (tgt := 26) rfl (fun h19 => ?_) (fun h19 => ?_)
      · exact absurd h19 (hbad.elim (fun q => absurd q h13) id)
      · refine ww_iconst O dd_MO_truncate_22 (v := nI 2) rfl ?_
        refine ww_goto O dd_MO_truncate_23 (tgt := 27) rfl ?_
        refine ww_put O ci_MO cy_MO cy_MO_ok cn_MO rfl 0 (by decide) lf_MO_35 rfl rfl (ty := .int) (by decide +kernel) dd_MO_truncate_27 0 rfl rfl rfl (Nat.le_of_ble_eq_true rfl) (ws' := [(m, .inr (3, [.int (nI 2), .ref a1, .ref a2, .ref a3, .ref a4, .ref a5, .ref a6, .ref a7, .ref a8, .int fi, .int le])), (a1, .inl (ww_g X 0, 240, .inl pl)), (a2, .inl (ww_g X 1, 240, .inl wr)), (a3, .inl (ww_g X 1, 240, .inl pg)), (a4, .inl (ww_g X 0, 240, .inl pv)), (a5, .inl (ww_g X 0, 4, .inl sz)), (a6, .inl (ww_g X 0, 80, .inl ow)), (a7, .inl (ww_g X 0, 80, .inl vl)), (a8, .inl (ww_g X 0, 60, .inl bf))]) rfl ?_
        refine ww_aload_n O dd_MO_truncate_30 0 rfl ?_
        refine ww_get O ci_MO rfl 0 (by decide) lf_MO_35 rfl dd_MO_truncate_31 0 rfl rfl ?_
        refine ww_if_leN O dd_MO_truncate_34 (tgt := 39) rfl (by omega) (fun h34 => ?_) (fun h34 => ?_)
        · exfalso; omega
        · refine ww_iconst O dd_MO_truncate_37 (v := nI 0) rfl ?_
          exact F.i dd_MO_truncate_38
  · exact absurd h5 (by decide)
set_option maxRecDepth 4000 in
theorem cc_MO_truncate (l : Launch) (D : va_G) (g : Nat → ClassId) (m : Nat) (a1 : Nat) (a2 : Nat) (a3 : Nat) (a4 : Nat) (a5 : Nat) (a6 : Nat) (a7 : Nat) (a8 : Nat) (cd : Int32) (fi : Int32) (le : Int32) (pl : Nat → Int32) (wr : Nat → Int32) (pg : Nat → Int32) (pv : Nat → Int32) (sz : Nat → Int32) (ow : Nat → Int32) (vl : Nat → Int32) (bf : Nat → Int32) (f : Nat) (b : Nat) (hr : ∀ b, b < 240 → px_rg (pl b)) (hf : f < 4) (hb : b ≤ 60) : ww_ct l D g yy_MO_truncate bb_MO_truncate 3 (some .int) (ww_rm 3) [.ref m, .int (nI f), .int (nI b)] [(m, .inr (3, [.int cd, .ref a1, .ref a2, .ref a3, .ref a4, .ref a5, .ref a6, .ref a7, .ref a8, .int fi, .int le])), (a1, .inl (g 0, 240, .inl pl)), (a2, .inl (g 1, 240, .inl wr)), (a3, .inl (g 1, 240, .inl pg)), (a4, .inl (g 0, 240, .inl pv)), (a5, .inl (g 0, 4, .inl sz)), (a6, .inl (g 0, 80, .inl ow)), (a7, .inl (g 0, 80, .inl vl)), (a8, .inl (g 0, 60, .inl bf))] (some (.int (nI (px_cnt (fun j => !px_hole pl j) (60 * f + b) (60 - b))))) [(m, .inr (3, [.int (nI 0), .ref a1, .ref a2, .ref a3, .ref a4, .ref a5, .ref a6, .ref a7, .ref a8, .int fi, .int le])), (a1, .inl (g 0, 240, .inl (px_fill pl (60 * f + b) (60 - b) (-1)))), (a2, .inl (g 1, 240, .inl (px_fill wr (60 * f + b) (60 - b) (nI 0)))), (a3, .inl (g 1, 240, .inl (px_fill pg (60 * f + b) (60 - b) (nI 0)))), (a4, .inl (g 0, 240, .inl pv)), (a5, .inl (g 0, 4, .inl (upd sz f (nI b)))), (a6, .inl (g 0, 80, .inl (px_rel (fun _ => true) pl (60 - b) (60 * f + b) ow))), (a7, .inl (g 0, 80, .inl vl)), (a8, .inl (g 0, 60, .inl bf))] := by
  refine ww_start (by decide +kernel) rfl rfl (Nat.le_of_ble_eq_true rfl) (L0 := [(0, .ref m), (1, .int (nI f)), (2, .int (nI b))]) rfl ?_
  intro X O hl hD hg hR hn F
  subst hl hD hg
  have hsub : 60 * f + 60 - (60 * f + b) = 60 - b := by omega
  refine ww_aload_n O dd_MO_truncate_0 0 rfl ?_
  refine ww_iload_n O dd_MO_truncate_1 1 rfl ?_
  refine ww_callS O (cc_MO_noFile _ _ _ (nI f) ) lc_MO_79 ls_MO_noFile_I_Z (by rw [hR]; decide) (by rw [hR]; decide) (by rw [hR]; decide) rfl (Nat.le_of_ble_eq_true rfl) dd_MO_truncate_2 rfl [] [0, 1, 2, 3, 4, 5, 6, 7, 8] [0, 1, 2, 3, 4, 5, 6, 7, 8] rfl (by decide) rfl (by decide) (by decide) (ws' := [(m, .inr (3, [.int cd, .ref a1, .ref a2, .ref a3, .ref a4, .ref a5, .ref a6, .ref a7, .ref a8, .int fi, .int le])), (a1, .inl (ww_g X 0, 240, .inl pl)), (a2, .inl (ww_g X 1, 240, .inl wr)), (a3, .inl (ww_g X 1, 240, .inl pg)), (a4, .inl (ww_g X 0, 240, .inl pv)), (a5, .inl (ww_g X 0, 4, .inl sz)), (a6, .inl (ww_g X 0, 80, .inl ow)), (a7, .inl (ww_g X 0, 80, .inl vl)), (a8, .inl (ww_g X 0, 60, .inl bf))]) rfl rfl (by decide) ?_
  rw [px_nf_nI (k := 3) (by omega) (by decide)]
  refine ww_if_eqB O dd_MO_truncate_5 (tgt := 12) rfl (fun h5 => ?_) (fun h5 => ?_)
  · refine ww_iload_n O dd_MO_truncate_12 2 rfl ?_
    refine ww_if_ltN O dd_MO_truncate_13 (tgt := 22) rfl (by omega) (fun h13 => ?_) (fun h13 => ?_)
    · exfalso; omega
    · refine ww_iload_n O dd_MO_truncate_16 2 rfl ?_
      refine ww_bipush O dd_MO_truncate_17 (v := nI 60) rfl ?_
      refine ww_icmp_leN O dd_MO_truncate_19 (tgt := 26) rfl (by omega) (by omega) (fun h19 => ?_) (fun h19 => ?_)
      · refine ww_iconst O dd_MO_truncate_26 (v := nI 0) rfl ?_
        refine ww_put O ci_MO cy_MO cy_MO_ok cn_MO rfl 0 (by decide) lf_MO_35 rfl rfl (ty := .int) (by decide +kernel) dd_MO_truncate_27 0 rfl rfl rfl (Nat.le_of_ble_eq_true rfl) (ws' := [(m, .inr (3, [.int (nI 0), .ref a1, .ref a2, .ref a3, .ref a4, .ref a5, .ref a6, .ref a7, .ref a8, .int fi, .int le])), (a1, .inl (ww_g X 0, 240, .inl pl)), (a2, .inl (ww_g X 1, 240, .inl wr)), (a3, .inl (ww_g X 1, 240, .inl pg)), (a4, .inl (ww_g X 0, 240, .inl pv)), (a5, .inl (ww_g X 0, 4, .inl sz)), (a6, .inl (ww_g X 0, 80, .inl ow)), (a7, .inl (ww_g X 0, 80, .inl vl)), (a8, .inl (ww_g X 0, 60, .inl bf))]) rfl ?_
        refine ww_aload_n O dd_MO_truncate_30 0 rfl ?_
        refine ww_get O ci_MO rfl 0 (by decide) lf_MO_35 rfl dd_MO_truncate_31 0 rfl rfl ?_
        refine ww_if_leN O dd_MO_truncate_34 (tgt := 39) rfl (by omega) (fun h34 => ?_) (fun h34 => ?_)
        · refine ww_aload_n O dd_MO_truncate_39 0 rfl ?_
          refine ww_get O ci_MO rfl 5 (by decide) lf_MO_23 rfl dd_MO_truncate_40 0 rfl rfl ?_
          refine ww_iload_n O dd_MO_truncate_43 1 rfl ?_
          refine ww_iload_n O dd_MO_truncate_44 2 rfl ?_
          refine ww_iast O dd_MO_truncate_45 5 rfl (by omega) (by decide) (ws' := [(m, .inr (3, [.int (nI 0), .ref a1, .ref a2, .ref a3, .ref a4, .ref a5, .ref a6, .ref a7, .ref a8, .int fi, .int le])), (a1, .inl (ww_g X 0, 240, .inl pl)), (a2, .inl (ww_g X 1, 240, .inl wr)), (a3, .inl (ww_g X 1, 240, .inl pg)), (a4, .inl (ww_g X 0, 240, .inl pv)), (a5, .inl (ww_g X 0, 4, .inl (upd sz f (nI b)))), (a6, .inl (ww_g X 0, 80, .inl ow)), (a7, .inl (ww_g X 0, 80, .inl vl)), (a8, .inl (ww_g X 0, 60, .inl bf))]) rfl ?_
          refine ww_aload_n O dd_MO_truncate_46 0 rfl ?_
          refine ww_bipush O dd_MO_truncate_47 (v := nI 60) rfl ?_
          refine ww_iload_n O dd_MO_truncate_49 1 rfl ?_
          refine ww_imul O dd_MO_truncate_50 (v := nI (60 * f)) (pk_mul _ _) ?_
          refine ww_iload_n O dd_MO_truncate_51 2 rfl ?_
          refine ww_iadd O dd_MO_truncate_52 (v := nI ((60 * f) + b)) (nI_add _ _) ?_
          refine ww_bipush O dd_MO_truncate_53 (v := nI 60) rfl ?_
          refine ww_iload_n O dd_MO_truncate_55 1 rfl ?_
          refine ww_imul O dd_MO_truncate_56 (v := nI (60 * f)) (pk_mul _ _) ?_
          refine ww_bipush O dd_MO_truncate_57 (v := nI 60) rfl ?_
          refine ww_iadd O dd_MO_truncate_59 (v := nI ((60 * f) + 60)) (nI_add _ _) ?_
          refine ww_callV (q0 := 0) (ci := 3) O (cc_MO_empty _ _ _ m a1 a2 a3 a4 a5 a6 a7 a8 (nI 0) fi le pl wr pg pv (upd sz f (nI b)) ow vl bf ((60 * f) + b) ((60 * f) + 60) (by omega) (by omega) (by omega)) lc_MO_100 lx_MO_empty_II_I rfl rfl rfl (by rw [hR]; decide) (by rw [hR]; decide) (by rw [hR]; decide) rfl (Nat.le_of_ble_eq_true rfl) dd_MO_truncate_60 rfl [0, 1, 2, 3, 4, 5, 6, 7, 8] [] [0, 1, 2, 3, 4, 5, 6, 7, 8] rfl (by decide) rfl (by decide) (by decide) (ws' := [(m, .inr (3, [.int (nI 0), .ref a1, .ref a2, .ref a3, .ref a4, .ref a5, .ref a6, .ref a7, .ref a8, .int fi, .int le])), (a1, .inl (ww_g X 0, 240, .inl (px_fill pl (((60 * f) + b)) (((60 * f) + 60) - (((60 * f) + b))) (-1)))), (a2, .inl (ww_g X 1, 240, .inl (px_fill wr (((60 * f) + b)) (((60 * f) + 60) - (((60 * f) + b))) (nI 0)))), (a3, .inl (ww_g X 1, 240, .inl (px_fill pg (((60 * f) + b)) (((60 * f) + 60) - (((60 * f) + b))) (nI 0)))), (a4, .inl (ww_g X 0, 240, .inl pv)), (a5, .inl (ww_g X 0, 4, .inl (upd sz f (nI b)))), (a6, .inl (ww_g X 0, 80, .inl (px_rel (fun _ => true) pl (((60 * f) + 60) - (((60 * f) + b))) (((60 * f) + b)) ow))), (a7, .inl (ww_g X 0, 80, .inl vl)), (a8, .inl (ww_g X 0, 60, .inl bf))]) rfl rfl (by decide) ?_
          rw [hsub]
          exact F.i dd_MO_truncate_63
        · exfalso; omega
      · exfalso; omega
  · exact absurd h5 (by decide)
end
