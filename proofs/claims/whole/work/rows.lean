section
-- ===== PART A: goes FIRST, ahead of the names: the tables' words, and 'selects' of the private methods out of them =====
/-- a private method of a class that the tables say can be made, by its rows of tables_1 -/
def lw_okq (q : MethodName × Nat) : Prop := (q.1.cls ≠ "java/lang/invoke/MethodHandle" ∧ q.1.cls ≠ "java/lang/invoke/VarHandle") ∧ Cond.instantiable q.1.cls q.2 ∈ tables_1 ∧ Cond.privateMethod q.1 ∈ tables_1 ∧ Cond.instanceMethod q.1 ∈ tables_1
theorem lw_p0 : lw_okq (⟨"java/lang/Throwable", "fillInStackTrace", "(I)Ljava/lang/Throwable;"⟩, 6) := ⟨⟨by decide +kernel, by decide +kernel⟩, List.mem_of_getElem? (i := 489) (by decide +kernel), List.mem_of_getElem? (i := 487) (by decide +kernel), List.mem_of_getElem? (i := 488) (by decide +kernel)⟩
theorem lw_p1 : lw_okq (⟨"FrameSwapper$Composer", "rememberBefore", "()V"⟩, 11) := ⟨⟨by decide +kernel, by decide +kernel⟩, List.mem_of_getElem? (i := 189) (by decide +kernel), List.mem_of_getElem? (i := 689) (by decide +kernel), List.mem_of_getElem? (i := 690) (by decide +kernel)⟩
theorem lw_p2 : lw_okq (⟨"FrameSwapper$Planes", "isFit", "(LFrameSwapper$Pile;I)Z"⟩, 3) := ⟨⟨by decide +kernel, by decide +kernel⟩, List.mem_of_getElem? (i := 197) (by decide +kernel), List.mem_of_getElem? (i := 709) (by decide +kernel), List.mem_of_getElem? (i := 710) (by decide +kernel)⟩
theorem lw_p3 : lw_okq (⟨"FrameSwapper$Planes", "give", "(IILFrameSwapper$Picture;)V"⟩, 3) := ⟨⟨by decide +kernel, by decide +kernel⟩, List.mem_of_getElem? (i := 197) (by decide +kernel), List.mem_of_getElem? (i := 722) (by decide +kernel), List.mem_of_getElem? (i := 723) (by decide +kernel)⟩
theorem lw_p4 : lw_okq (⟨"FrameSwapper$Composer", "noteChanges", "(LFrameSwapper$Desk;)V"⟩, 11) := ⟨⟨by decide +kernel, by decide +kernel⟩, List.mem_of_getElem? (i := 189) (by decide +kernel), List.mem_of_getElem? (i := 727) (by decide +kernel), List.mem_of_getElem? (i := 728) (by decide +kernel)⟩
theorem lw_p5 : lw_okq (⟨"FrameSwapper$Misses", "isCovered", "(LFrameSwapper$Rectangle;)Z"⟩, 2) := ⟨⟨by decide +kernel, by decide +kernel⟩, List.mem_of_getElem? (i := 226) (by decide +kernel), List.mem_of_getElem? (i := 740) (by decide +kernel), List.mem_of_getElem? (i := 741) (by decide +kernel)⟩
theorem lw_p6 : lw_okq (⟨"FrameSwapper$Misses", "joinNearest", "()V"⟩, 2) := ⟨⟨by decide +kernel, by decide +kernel⟩, List.mem_of_getElem? (i := 226) (by decide +kernel), List.mem_of_getElem? (i := 749) (by decide +kernel), List.mem_of_getElem? (i := 750) (by decide +kernel)⟩
theorem lw_p7 : lw_okq (⟨"FrameSwapper$Misses", "dropAt", "(I)V"⟩, 2) := ⟨⟨by decide +kernel, by decide +kernel⟩, List.mem_of_getElem? (i := 226) (by decide +kernel), List.mem_of_getElem? (i := 761) (by decide +kernel), List.mem_of_getElem? (i := 762) (by decide +kernel)⟩
theorem lw_p8 : lw_okq (⟨"FrameSwapper$Composer", "startHole", "(I)V"⟩, 11) := ⟨⟨by decide +kernel, by decide +kernel⟩, List.mem_of_getElem? (i := 189) (by decide +kernel), List.mem_of_getElem? (i := 769) (by decide +kernel), List.mem_of_getElem? (i := 770) (by decide +kernel)⟩
theorem lw_p9 : lw_okq (⟨"FrameSwapper$Composer", "makeStep", "()V"⟩, 11) := ⟨⟨by decide +kernel, by decide +kernel⟩, List.mem_of_getElem? (i := 189) (by decide +kernel), List.mem_of_getElem? (i := 777) (by decide +kernel), List.mem_of_getElem? (i := 778) (by decide +kernel)⟩
theorem lw_p10 : lw_okq (⟨"FrameSwapper$Composer", "nextLevel", "(LFrameSwapper$Rectangle;)I"⟩, 11) := ⟨⟨by decide +kernel, by decide +kernel⟩, List.mem_of_getElem? (i := 189) (by decide +kernel), List.mem_of_getElem? (i := 792) (by decide +kernel), List.mem_of_getElem? (i := 793) (by decide +kernel)⟩
theorem lw_p11 : lw_okq (⟨"FrameSwapperModel", "freePixels", "()I"⟩, 52) := ⟨⟨by decide +kernel, by decide +kernel⟩, List.mem_of_getElem? (i := 797) (by decide +kernel), List.mem_of_getElem? (i := 971) (by decide +kernel), List.mem_of_getElem? (i := 972) (by decide +kernel)⟩
theorem lw_p12 : lw_okq (⟨"FrameSwapperModel", "hasDraft", "(I)Z"⟩, 52) := ⟨⟨by decide +kernel, by decide +kernel⟩, List.mem_of_getElem? (i := 797) (by decide +kernel), List.mem_of_getElem? (i := 979) (by decide +kernel), List.mem_of_getElem? (i := 980) (by decide +kernel)⟩
theorem lw_p13 : lw_okq (⟨"FrameSwapperModel", "has", "(III)Z"⟩, 52) := ⟨⟨by decide +kernel, by decide +kernel⟩, List.mem_of_getElem? (i := 797) (by decide +kernel), List.mem_of_getElem? (i := 999) (by decide +kernel), List.mem_of_getElem? (i := 1000) (by decide +kernel)⟩
theorem lw_p14 : lw_okq (⟨"FrameSwapperModel", "isCopy", "(IIII)Z"⟩, 52) := ⟨⟨by decide +kernel, by decide +kernel⟩, List.mem_of_getElem? (i := 797) (by decide +kernel), List.mem_of_getElem? (i := 1011) (by decide +kernel), List.mem_of_getElem? (i := 1012) (by decide +kernel)⟩
theorem lw_p15 : lw_okq (⟨"FrameSwapperModel", "copyPicture", "(II)V"⟩, 52) := ⟨⟨by decide +kernel, by decide +kernel⟩, List.mem_of_getElem? (i := 797) (by decide +kernel), List.mem_of_getElem? (i := 1019) (by decide +kernel), List.mem_of_getElem? (i := 1020) (by decide +kernel)⟩
def lw_privs_1 : List (MethodName × Nat) := [(⟨"java/lang/Throwable", "fillInStackTrace", "(I)Ljava/lang/Throwable;"⟩, 6), (⟨"FrameSwapper$Composer", "rememberBefore", "()V"⟩, 11), (⟨"FrameSwapper$Planes", "isFit", "(LFrameSwapper$Pile;I)Z"⟩, 3), (⟨"FrameSwapper$Planes", "give", "(IILFrameSwapper$Picture;)V"⟩, 3), (⟨"FrameSwapper$Composer", "noteChanges", "(LFrameSwapper$Desk;)V"⟩, 11), (⟨"FrameSwapper$Misses", "isCovered", "(LFrameSwapper$Rectangle;)Z"⟩, 2), (⟨"FrameSwapper$Misses", "joinNearest", "()V"⟩, 2), (⟨"FrameSwapper$Misses", "dropAt", "(I)V"⟩, 2), (⟨"FrameSwapper$Composer", "startHole", "(I)V"⟩, 11), (⟨"FrameSwapper$Composer", "makeStep", "()V"⟩, 11), (⟨"FrameSwapper$Composer", "nextLevel", "(LFrameSwapper$Rectangle;)I"⟩, 11), (⟨"FrameSwapperModel", "freePixels", "()I"⟩, 52), (⟨"FrameSwapperModel", "hasDraft", "(I)Z"⟩, 52), (⟨"FrameSwapperModel", "has", "(III)Z"⟩, 52), (⟨"FrameSwapperModel", "isCopy", "(IIII)Z"⟩, 52), (⟨"FrameSwapperModel", "copyPicture", "(II)V"⟩, 52)]
theorem lw_r1 : ∀ q ∈ lw_privs_1, lw_okq q := List.forall_mem_cons.mpr ⟨lw_p0, List.forall_mem_cons.mpr ⟨lw_p1, List.forall_mem_cons.mpr ⟨lw_p2, List.forall_mem_cons.mpr ⟨lw_p3, List.forall_mem_cons.mpr ⟨lw_p4, List.forall_mem_cons.mpr ⟨lw_p5, List.forall_mem_cons.mpr ⟨lw_p6, List.forall_mem_cons.mpr ⟨lw_p7, List.forall_mem_cons.mpr ⟨lw_p8, List.forall_mem_cons.mpr ⟨lw_p9, List.forall_mem_cons.mpr ⟨lw_p10, List.forall_mem_cons.mpr ⟨lw_p11, List.forall_mem_cons.mpr ⟨lw_p12, List.forall_mem_cons.mpr ⟨lw_p13, List.forall_mem_cons.mpr ⟨lw_p14, List.forall_mem_cons.mpr ⟨lw_p15, fun _ h => absurd h List.not_mem_nil⟩⟩⟩⟩⟩⟩⟩⟩⟩⟩⟩⟩⟩⟩⟩⟩
theorem lw_p16 : lw_okq (⟨"FrameSwapperModel", "begin", "()V"⟩, 52) := ⟨⟨by decide +kernel, by decide +kernel⟩, List.mem_of_getElem? (i := 797) (by decide +kernel), List.mem_of_getElem? (i := 1027) (by decide +kernel), List.mem_of_getElem? (i := 1028) (by decide +kernel)⟩
theorem lw_p17 : lw_okq (⟨"FrameSwapperModel", "show", "(I)V"⟩, 52) := ⟨⟨by decide +kernel, by decide +kernel⟩, List.mem_of_getElem? (i := 797) (by decide +kernel), List.mem_of_getElem? (i := 1031) (by decide +kernel), List.mem_of_getElem? (i := 1032) (by decide +kernel)⟩
theorem lw_p18 : lw_okq (⟨"FrameSwapperModel", "cut", "(IIII)V"⟩, 52) := ⟨⟨by decide +kernel, by decide +kernel⟩, List.mem_of_getElem? (i := 797) (by decide +kernel), List.mem_of_getElem? (i := 1035) (by decide +kernel), List.mem_of_getElem? (i := 1036) (by decide +kernel)⟩
theorem lw_p19 : lw_okq (⟨"FrameSwapperModel", "isPlane", "(I)Z"⟩, 52) := ⟨⟨by decide +kernel, by decide +kernel⟩, List.mem_of_getElem? (i := 797) (by decide +kernel), List.mem_of_getElem? (i := 1039) (by decide +kernel), List.mem_of_getElem? (i := 1040) (by decide +kernel)⟩
theorem lw_p20 : lw_okq (⟨"FrameSwapperModel", "choosePlanes", "()V"⟩, 52) := ⟨⟨by decide +kernel, by decide +kernel⟩, List.mem_of_getElem? (i := 797) (by decide +kernel), List.mem_of_getElem? (i := 1043) (by decide +kernel), List.mem_of_getElem? (i := 1044) (by decide +kernel)⟩
theorem lw_p21 : lw_okq (⟨"FrameSwapperModel", "nth", "(II)I"⟩, 52) := ⟨⟨by decide +kernel, by decide +kernel⟩, List.mem_of_getElem? (i := 797) (by decide +kernel), List.mem_of_getElem? (i := 1047) (by decide +kernel), List.mem_of_getElem? (i := 1048) (by decide +kernel)⟩
theorem lw_p22 : lw_okq (⟨"FrameSwapperModel", "isAbove", "(II)Z"⟩, 52) := ⟨⟨by decide +kernel, by decide +kernel⟩, List.mem_of_getElem? (i := 797) (by decide +kernel), List.mem_of_getElem? (i := 1051) (by decide +kernel), List.mem_of_getElem? (i := 1052) (by decide +kernel)⟩
theorem lw_p23 : lw_okq (⟨"FrameSwapperModel", "miss", "()V"⟩, 52) := ⟨⟨by decide +kernel, by decide +kernel⟩, List.mem_of_getElem? (i := 797) (by decide +kernel), List.mem_of_getElem? (i := 1055) (by decide +kernel), List.mem_of_getElem? (i := 1056) (by decide +kernel)⟩
theorem lw_p24 : lw_okq (⟨"FrameSwapperModel", "lies", "(II)Z"⟩, 52) := ⟨⟨by decide +kernel, by decide +kernel⟩, List.mem_of_getElem? (i := 797) (by decide +kernel), List.mem_of_getElem? (i := 1059) (by decide +kernel), List.mem_of_getElem? (i := 1060) (by decide +kernel)⟩
theorem lw_p25 : lw_okq (⟨"FrameSwapperModel", "join", "(I)V"⟩, 52) := ⟨⟨by decide +kernel, by decide +kernel⟩, List.mem_of_getElem? (i := 797) (by decide +kernel), List.mem_of_getElem? (i := 1063) (by decide +kernel), List.mem_of_getElem? (i := 1064) (by decide +kernel)⟩
theorem lw_p26 : lw_okq (⟨"FrameSwapperModel", "hullWide", "(II)I"⟩, 52) := ⟨⟨by decide +kernel, by decide +kernel⟩, List.mem_of_getElem? (i := 797) (by decide +kernel), List.mem_of_getElem? (i := 1068) (by decide +kernel), List.mem_of_getElem? (i := 1069) (by decide +kernel)⟩
theorem lw_p27 : lw_okq (⟨"FrameSwapperModel", "hullHigh", "(II)I"⟩, 52) := ⟨⟨by decide +kernel, by decide +kernel⟩, List.mem_of_getElem? (i := 797) (by decide +kernel), List.mem_of_getElem? (i := 1072) (by decide +kernel), List.mem_of_getElem? (i := 1073) (by decide +kernel)⟩
theorem lw_p28 : lw_okq (⟨"FrameSwapperModel", "findStep", "()V"⟩, 52) := ⟨⟨by decide +kernel, by decide +kernel⟩, List.mem_of_getElem? (i := 797) (by decide +kernel), List.mem_of_getElem? (i := 1076) (by decide +kernel), List.mem_of_getElem? (i := 1077) (by decide +kernel)⟩
theorem lw_p29 : lw_okq (⟨"FrameSwapperModel", "meet", "(I)V"⟩, 52) := ⟨⟨by decide +kernel, by decide +kernel⟩, List.mem_of_getElem? (i := 797) (by decide +kernel), List.mem_of_getElem? (i := 1080) (by decide +kernel), List.mem_of_getElem? (i := 1081) (by decide +kernel)⟩
theorem lw_p30 : lw_okq (⟨"FrameSwapperModel", "make", "()V"⟩, 52) := ⟨⟨by decide +kernel, by decide +kernel⟩, List.mem_of_getElem? (i := 797) (by decide +kernel), List.mem_of_getElem? (i := 1084) (by decide +kernel), List.mem_of_getElem? (i := 1085) (by decide +kernel)⟩
theorem lw_p31 : lw_okq (⟨"FrameSwapperModel", "paint", "(I)V"⟩, 52) := ⟨⟨by decide +kernel, by decide +kernel⟩, List.mem_of_getElem? (i := 797) (by decide +kernel), List.mem_of_getElem? (i := 1088) (by decide +kernel), List.mem_of_getElem? (i := 1089) (by decide +kernel)⟩
def lw_privs_2 : List (MethodName × Nat) := [(⟨"FrameSwapperModel", "begin", "()V"⟩, 52), (⟨"FrameSwapperModel", "show", "(I)V"⟩, 52), (⟨"FrameSwapperModel", "cut", "(IIII)V"⟩, 52), (⟨"FrameSwapperModel", "isPlane", "(I)Z"⟩, 52), (⟨"FrameSwapperModel", "choosePlanes", "()V"⟩, 52), (⟨"FrameSwapperModel", "nth", "(II)I"⟩, 52), (⟨"FrameSwapperModel", "isAbove", "(II)Z"⟩, 52), (⟨"FrameSwapperModel", "miss", "()V"⟩, 52), (⟨"FrameSwapperModel", "lies", "(II)Z"⟩, 52), (⟨"FrameSwapperModel", "join", "(I)V"⟩, 52), (⟨"FrameSwapperModel", "hullWide", "(II)I"⟩, 52), (⟨"FrameSwapperModel", "hullHigh", "(II)I"⟩, 52), (⟨"FrameSwapperModel", "findStep", "()V"⟩, 52), (⟨"FrameSwapperModel", "meet", "(I)V"⟩, 52), (⟨"FrameSwapperModel", "make", "()V"⟩, 52), (⟨"FrameSwapperModel", "paint", "(I)V"⟩, 52)]
theorem lw_r2 : ∀ q ∈ lw_privs_2, lw_okq q := List.forall_mem_cons.mpr ⟨lw_p16, List.forall_mem_cons.mpr ⟨lw_p17, List.forall_mem_cons.mpr ⟨lw_p18, List.forall_mem_cons.mpr ⟨lw_p19, List.forall_mem_cons.mpr ⟨lw_p20, List.forall_mem_cons.mpr ⟨lw_p21, List.forall_mem_cons.mpr ⟨lw_p22, List.forall_mem_cons.mpr ⟨lw_p23, List.forall_mem_cons.mpr ⟨lw_p24, List.forall_mem_cons.mpr ⟨lw_p25, List.forall_mem_cons.mpr ⟨lw_p26, List.forall_mem_cons.mpr ⟨lw_p27, List.forall_mem_cons.mpr ⟨lw_p28, List.forall_mem_cons.mpr ⟨lw_p29, List.forall_mem_cons.mpr ⟨lw_p30, List.forall_mem_cons.mpr ⟨lw_p31, fun _ h => absurd h List.not_mem_nil⟩⟩⟩⟩⟩⟩⟩⟩⟩⟩⟩⟩⟩⟩⟩⟩
theorem lw_p32 : lw_okq (⟨"FrameSwapperModel", "pixelOf", "(III)I"⟩, 52) := ⟨⟨by decide +kernel, by decide +kernel⟩, List.mem_of_getElem? (i := 797) (by decide +kernel), List.mem_of_getElem? (i := 1092) (by decide +kernel), List.mem_of_getElem? (i := 1093) (by decide +kernel)⟩
theorem lw_p33 : lw_okq (⟨"FrameSwapperModel", "look", "()V"⟩, 52) := ⟨⟨by decide +kernel, by decide +kernel⟩, List.mem_of_getElem? (i := 797) (by decide +kernel), List.mem_of_getElem? (i := 1106) (by decide +kernel), List.mem_of_getElem? (i := 1107) (by decide +kernel)⟩
theorem lw_p34 : lw_okq (⟨"FrameSwapperModel", "change", "()V"⟩, 52) := ⟨⟨by decide +kernel, by decide +kernel⟩, List.mem_of_getElem? (i := 797) (by decide +kernel), List.mem_of_getElem? (i := 1110) (by decide +kernel), List.mem_of_getElem? (i := 1111) (by decide +kernel)⟩
def lw_privs_3 : List (MethodName × Nat) := [(⟨"FrameSwapperModel", "pixelOf", "(III)I"⟩, 52), (⟨"FrameSwapperModel", "look", "()V"⟩, 52), (⟨"FrameSwapperModel", "change", "()V"⟩, 52)]
theorem lw_r3 : ∀ q ∈ lw_privs_3, lw_okq q := List.forall_mem_cons.mpr ⟨lw_p32, List.forall_mem_cons.mpr ⟨lw_p33, List.forall_mem_cons.mpr ⟨lw_p34, fun _ h => absurd h List.not_mem_nil⟩⟩⟩
def lw_privs : List (MethodName × Nat) := lw_privs_1 ++ (lw_privs_2 ++ (lw_privs_3))
def lw_tbl : List Cond := k2_sels lw_privs ++ tables_1
theorem lw_privs_ok : ∀ q ∈ lw_privs, lw_okq q := by
  show ∀ q ∈ lw_privs_1 ++ (lw_privs_2 ++ (lw_privs_3)), lw_okq q
  exact List.forall_mem_append.mpr ⟨lw_r1, List.forall_mem_append.mpr ⟨lw_r2, lw_r3⟩⟩
end
section
/-! ===== classes and their fields ===== -/
def Rq_FS : String := "FrameSwapper"
def Tq_FS : u_T := fun k => match k with
  | 0 => ("FrameSwapper", "desk", "LFrameSwapper$Desk;", true)
  | 1 => ("FrameSwapper", "composer", "LFrameSwapper$Composer;", true)
  | 2 => ("FrameSwapper", "beam", "LFrameSwapper$Beam;", true)
  | 3 => ("FrameSwapper", "area", "LFrameSwapper$Rectangle;", true)
  | _ => ("FrameSwapper", "carried", "LFrameSwapper$Picture;", true)
def tq_FS : Nat → FieldType := fun k => match k with
  | 0 => .object "FrameSwapper$Desk"
  | 1 => .object "FrameSwapper$Composer"
  | 2 => .object "FrameSwapper$Beam"
  | 3 => .object "FrameSwapper$Rectangle"
  | _ => .object "FrameSwapper$Picture"
theorem nq_FS : ∀ a, a < 5 → ∀ b, b < 5 → a ≠ b → (Tq_FS a).2.1 ≠ (Tq_FS b).2.1 := by decide +kernel
theorem tq_FS_ok : ∀ k, k < 5 → parseFieldDescriptor (Tq_FS k).2.2.1 = some (tq_FS k) := by decide +kernel
def Rq_RE : String := "FrameSwapper$Rectangle"
def Tq_RE : u_T := fun k => match k with
  | 0 => ("FrameSwapper$Rectangle", "x", "I", false)
  | 1 => ("FrameSwapper$Rectangle", "y", "I", false)
  | 2 => ("FrameSwapper$Rectangle", "columns", "I", false)
  | _ => ("FrameSwapper$Rectangle", "rows", "I", false)
def tq_RE : Nat → FieldType := fun k => match k with
  | 0 => .int
  | 1 => .int
  | 2 => .int
  | _ => .int
theorem nq_RE : ∀ a, a < 4 → ∀ b, b < 4 → a ≠ b → (Tq_RE a).2.1 ≠ (Tq_RE b).2.1 := by decide +kernel
theorem tq_RE_ok : ∀ k, k < 4 → parseFieldDescriptor (Tq_RE k).2.2.1 = some (tq_RE k) := by decide +kernel
def Rq_PI : String := "FrameSwapper$Picture"
def Tq_PI : u_T := fun k => match k with
  | 0 => ("FrameSwapper$Picture", "isThere", "Z", false)
  | 1 => ("FrameSwapper$Picture", "columns", "I", false)
  | 2 => ("FrameSwapper$Picture", "rows", "I", false)
  | 3 => ("FrameSwapper$Picture", "x", "I", false)
  | 4 => ("FrameSwapper$Picture", "y", "I", false)
  | 5 => ("FrameSwapper$Picture", "order", "I", false)
  | 6 => ("FrameSwapper$Picture", "alpha", "I", false)
  | 7 => ("FrameSwapper$Picture", "visible", "Z", false)
  | 8 => ("FrameSwapper$Picture", "pixels", "[I", true)
  | 9 => ("FrameSwapper$Picture", "clip", "LFrameSwapper$Rectangle;", true)
  | _ => ("FrameSwapper$Picture", "shown", "LFrameSwapper$Rectangle;", true)
def tq_PI : Nat → FieldType := fun k => match k with
  | 0 => .boolean
  | 1 => .int
  | 2 => .int
  | 3 => .int
  | 4 => .int
  | 5 => .int
  | 6 => .int
  | 7 => .boolean
  | 8 => .array .int
  | 9 => .object "FrameSwapper$Rectangle"
  | _ => .object "FrameSwapper$Rectangle"
theorem nq_PI : ∀ a, a < 11 → ∀ b, b < 11 → a ≠ b → (Tq_PI a).2.1 ≠ (Tq_PI b).2.1 := by decide +kernel
theorem tq_PI_ok : ∀ k, k < 11 → parseFieldDescriptor (Tq_PI k).2.2.1 = some (tq_PI k) := by decide +kernel
def Rq_PL : String := "FrameSwapper$Pile"
def Tq_PL : u_T := fun k => match k with
  | 0 => ("FrameSwapper$Pile", "pictures", "[LFrameSwapper$Picture;", true)
  | 1 => ("FrameSwapper$Pile", "upward", "[I", true)
  | _ => ("FrameSwapper$Pile", "height", "I", false)
def tq_PL : Nat → FieldType := fun k => match k with
  | 0 => .array (.object "FrameSwapper$Picture")
  | 1 => .array .int
  | _ => .int
theorem nq_PL : ∀ a, a < 3 → ∀ b, b < 3 → a ≠ b → (Tq_PL a).2.1 ≠ (Tq_PL b).2.1 := by decide +kernel
theorem tq_PL_ok : ∀ k, k < 3 → parseFieldDescriptor (Tq_PL k).2.2.1 = some (tq_PL k) := by decide +kernel
def Rq_DE : String := "FrameSwapper$Desk"
def Tq_DE : u_T := fun k => match k with
  | 0 => ("FrameSwapper$Desk", "drafts", "[LFrameSwapper$Picture;", true)
  | 1 => ("FrameSwapper$Desk", "committed", "LFrameSwapper$Pile;", true)
  | 2 => ("FrameSwapper$Desk", "clients", "[I", true)
  | 3 => ("FrameSwapper$Desk", "leaving", "[Z", true)
  | 4 => ("FrameSwapper$Desk", "waiting", "[Z", true)
  | 5 => ("FrameSwapper$Desk", "commits", "I", false)
  | _ => ("FrameSwapper$Desk", "freePixels", "I", false)
def tq_DE : Nat → FieldType := fun k => match k with
  | 0 => .array (.object "FrameSwapper$Picture")
  | 1 => .object "FrameSwapper$Pile"
  | 2 => .array .int
  | 3 => .array .boolean
  | 4 => .array .boolean
  | 5 => .int
  | _ => .int
theorem nq_DE : ∀ a, a < 7 → ∀ b, b < 7 → a ≠ b → (Tq_DE a).2.1 ≠ (Tq_DE b).2.1 := by decide +kernel
theorem tq_DE_ok : ∀ k, k < 7 → parseFieldDescriptor (Tq_DE k).2.2.1 = some (tq_DE k) := by decide +kernel
def Rq_MI : String := "FrameSwapper$Misses"
def Tq_MI : u_T := fun k => match k with
  | 0 => ("FrameSwapper$Misses", "list", "[LFrameSwapper$Rectangle;", true)
  | _ => ("FrameSwapper$Misses", "size", "I", false)
def tq_MI : Nat → FieldType := fun k => match k with
  | 0 => .array (.object "FrameSwapper$Rectangle")
  | _ => .int
theorem nq_MI : ∀ a, a < 2 → ∀ b, b < 2 → a ≠ b → (Tq_MI a).2.1 ≠ (Tq_MI b).2.1 := by decide +kernel
theorem tq_MI_ok : ∀ k, k < 2 → parseFieldDescriptor (Tq_MI k).2.2.1 = some (tq_MI k) := by decide +kernel
def Rq_ME : String := "FrameSwapper$Memory"
def Tq_ME : u_T := fun k => match k with
  | 0 => ("FrameSwapper$Memory", "pixels", "[I", true)
  | _ => ("FrameSwapper$Memory", "misses", "LFrameSwapper$Misses;", true)
def tq_ME : Nat → FieldType := fun k => match k with
  | 0 => .array .int
  | _ => .object "FrameSwapper$Misses"
theorem nq_ME : ∀ a, a < 2 → ∀ b, b < 2 → a ≠ b → (Tq_ME a).2.1 ≠ (Tq_ME b).2.1 := by decide +kernel
theorem tq_ME_ok : ∀ k, k < 2 → parseFieldDescriptor (Tq_ME k).2.2.1 = some (tq_ME k) := by decide +kernel
def Rq_PN : String := "FrameSwapper$Planes"
def Tq_PN : u_T := fun k => match k with
  | 0 => ("FrameSwapper$Planes", "numbers", "[I", true)
  | 1 => ("FrameSwapper$Planes", "shown", "[LFrameSwapper$Rectangle;", true)
  | _ => ("FrameSwapper$Planes", "colors", "[[I", true)
def tq_PN : Nat → FieldType := fun k => match k with
  | 0 => .array .int
  | 1 => .array (.object "FrameSwapper$Rectangle")
  | _ => .array (.array .int)
theorem nq_PN : ∀ a, a < 3 → ∀ b, b < 3 → a ≠ b → (Tq_PN a).2.1 ≠ (Tq_PN b).2.1 := by decide +kernel
theorem tq_PN_ok : ∀ k, k < 3 → parseFieldDescriptor (Tq_PN k).2.2.1 = some (tq_PN k) := by decide +kernel
def Rq_CO : String := "FrameSwapper$Composer"
def Tq_CO : u_T := fun k => match k with
  | 0 => ("FrameSwapper$Composer", "taken", "LFrameSwapper$Pile;", true)
  | 1 => ("FrameSwapper$Composer", "chosen", "LFrameSwapper$Planes;", true)
  | 2 => ("FrameSwapper$Composer", "wasInPlane", "[Z", true)
  | 3 => ("FrameSwapper$Composer", "shownBefore", "[LFrameSwapper$Rectangle;", true)
  | 4 => ("FrameSwapper$Composer", "front", "LFrameSwapper$Memory;", false)
  | 5 => ("FrameSwapper$Composer", "back", "LFrameSwapper$Memory;", false)
  | 6 => ("FrameSwapper$Composer", "state", "I", false)
  | 7 => ("FrameSwapper$Composer", "takenCommit", "I", false)
  | 8 => ("FrameSwapper$Composer", "frontCommit", "I", false)
  | 9 => ("FrameSwapper$Composer", "hole", "I", false)
  | _ => ("FrameSwapper$Composer", "level", "I", false)
def tq_CO : Nat → FieldType := fun k => match k with
  | 0 => .object "FrameSwapper$Pile"
  | 1 => .object "FrameSwapper$Planes"
  | 2 => .array .boolean
  | 3 => .array (.object "FrameSwapper$Rectangle")
  | 4 => .object "FrameSwapper$Memory"
  | 5 => .object "FrameSwapper$Memory"
  | 6 => .int
  | 7 => .int
  | 8 => .int
  | 9 => .int
  | _ => .int
theorem nq_CO : ∀ a, a < 11 → ∀ b, b < 11 → a ≠ b → (Tq_CO a).2.1 ≠ (Tq_CO b).2.1 := by decide +kernel
theorem tq_CO_ok : ∀ k, k < 11 → parseFieldDescriptor (Tq_CO k).2.2.1 = some (tq_CO k) := by decide +kernel
def Rq_BE : String := "FrameSwapper$Beam"
def Tq_BE : u_T := fun k => match k with
  | 0 => ("FrameSwapper$Beam", "planes", "LFrameSwapper$Planes;", true)
  | 1 => ("FrameSwapper$Beam", "scanned", "[I", true)
  | 2 => ("FrameSwapper$Beam", "seen", "[I", true)
  | 3 => ("FrameSwapper$Beam", "row", "I", false)
  | 4 => ("FrameSwapper$Beam", "frames", "I", false)
  | _ => ("FrameSwapper$Beam", "seenCommit", "I", false)
def tq_BE : Nat → FieldType := fun k => match k with
  | 0 => .object "FrameSwapper$Planes"
  | 1 => .array .int
  | 2 => .array .int
  | 3 => .int
  | 4 => .int
  | _ => .int
theorem nq_BE : ∀ a, a < 6 → ∀ b, b < 6 → a ≠ b → (Tq_BE a).2.1 ≠ (Tq_BE b).2.1 := by decide +kernel
theorem tq_BE_ok : ∀ k, k < 6 → parseFieldDescriptor (Tq_BE k).2.2.1 = some (tq_BE k) := by decide +kernel
def Rq_MO : String := "FrameSwapperModel"
def Tq_MO : u_T := fun k => match k with
  | 0 => ("FrameSwapperModel", "code", "I", false)
  | 1 => ("FrameSwapperModel", "used", "[Z", true)
  | 2 => ("FrameSwapperModel", "client", "[I", true)
  | 3 => ("FrameSwapperModel", "columns", "[I", true)
  | 4 => ("FrameSwapperModel", "rows", "[I", true)
  | 5 => ("FrameSwapperModel", "destroyed", "[Z", true)
  | 6 => ("FrameSwapperModel", "gone", "[Z", true)
  | 7 => ("FrameSwapperModel", "there", "[Z", true)
  | 8 => ("FrameSwapperModel", "px", "[I", true)
  | 9 => ("FrameSwapperModel", "py", "[I", true)
  | 10 => ("FrameSwapperModel", "order", "[I", true)
  | 11 => ("FrameSwapperModel", "alpha", "[I", true)
  | 12 => ("FrameSwapperModel", "visible", "[Z", true)
  | 13 => ("FrameSwapperModel", "cx", "[I", true)
  | 14 => ("FrameSwapperModel", "cy", "[I", true)
  | 15 => ("FrameSwapperModel", "cw", "[I", true)
  | 16 => ("FrameSwapperModel", "ch", "[I", true)
  | 17 => ("FrameSwapperModel", "pixels", "[I", true)
  | 18 => ("FrameSwapperModel", "copied", "[I", true)
  | 19 => ("FrameSwapperModel", "commits", "I", false)
  | 20 => ("FrameSwapperModel", "taken", "I", false)
  | 21 => ("FrameSwapperModel", "committed", "[Z", true)
  | 22 => ("FrameSwapperModel", "state", "I", false)
  | 23 => ("FrameSwapperModel", "back", "I", false)
  | 24 => ("FrameSwapperModel", "memory", "[I", true)
  | 25 => ("FrameSwapperModel", "misses", "[I", true)
  | 26 => ("FrameSwapperModel", "mx", "[I", true)
  | 27 => ("FrameSwapperModel", "my", "[I", true)
  | 28 => ("FrameSwapperModel", "mw", "[I", true)
  | 29 => ("FrameSwapperModel", "mh", "[I", true)
  | 30 => ("FrameSwapperModel", "planes", "[I", true)
  | 31 => ("FrameSwapperModel", "at", "I", false)
  | 32 => ("FrameSwapperModel", "step", "I", false)
  | 33 => ("FrameSwapperModel", "wasX", "[I", true)
  | 34 => ("FrameSwapperModel", "wasY", "[I", true)
  | 35 => ("FrameSwapperModel", "wasW", "[I", true)
  | 36 => ("FrameSwapperModel", "wasH", "[I", true)
  | 37 => ("FrameSwapperModel", "wasPlane", "[Z", true)
  | 38 => ("FrameSwapperModel", "x", "I", false)
  | 39 => ("FrameSwapperModel", "y", "I", false)
  | 40 => ("FrameSwapperModel", "w", "I", false)
  | 41 => ("FrameSwapperModel", "h", "I", false)
  | 42 => ("FrameSwapperModel", "row", "I", false)
  | 43 => ("FrameSwapperModel", "frames", "I", false)
  | 44 => ("FrameSwapperModel", "set", "I", false)
  | 45 => ("FrameSwapperModel", "shows", "I", false)
  | 46 => ("FrameSwapperModel", "setX", "[I", true)
  | 47 => ("FrameSwapperModel", "setY", "[I", true)
  | 48 => ("FrameSwapperModel", "setW", "[I", true)
  | 49 => ("FrameSwapperModel", "setH", "[I", true)
  | 50 => ("FrameSwapperModel", "setPixels", "[I", true)
  | _ => ("FrameSwapperModel", "seen", "[I", true)
def tq_MO : Nat → FieldType := fun k => match k with
  | 0 => .int
  | 1 => .array .boolean
  | 2 => .array .int
  | 3 => .array .int
  | 4 => .array .int
  | 5 => .array .boolean
  | 6 => .array .boolean
  | 7 => .array .boolean
  | 8 => .array .int
  | 9 => .array .int
  | 10 => .array .int
  | 11 => .array .int
  | 12 => .array .boolean
  | 13 => .array .int
  | 14 => .array .int
  | 15 => .array .int
  | 16 => .array .int
  | 17 => .array .int
  | 18 => .array .int
  | 19 => .int
  | 20 => .int
  | 21 => .array .boolean
  | 22 => .int
  | 23 => .int
  | 24 => .array .int
  | 25 => .array .int
  | 26 => .array .int
  | 27 => .array .int
  | 28 => .array .int
  | 29 => .array .int
  | 30 => .array .int
  | 31 => .int
  | 32 => .int
  | 33 => .array .int
  | 34 => .array .int
  | 35 => .array .int
  | 36 => .array .int
  | 37 => .array .boolean
  | 38 => .int
  | 39 => .int
  | 40 => .int
  | 41 => .int
  | 42 => .int
  | 43 => .int
  | 44 => .int
  | 45 => .int
  | 46 => .array .int
  | 47 => .array .int
  | 48 => .array .int
  | 49 => .array .int
  | 50 => .array .int
  | _ => .array .int
theorem nq_MO : ∀ a, a < 52 → ∀ b, b < 52 → a ≠ b → (Tq_MO a).2.1 ≠ (Tq_MO b).2.1 := by decide +kernel
theorem tq_MO_ok : ∀ k, k < 52 → parseFieldDescriptor (Tq_MO k).2.2.1 = some (tq_MO k) := by decide +kernel
def fx_cl : List vw_C := [(Rq_FS, Tq_FS, 5), (Rq_RE, Tq_RE, 4), (Rq_PI, Tq_PI, 11), (Rq_PL, Tq_PL, 3), (Rq_DE, Tq_DE, 7), (Rq_MI, Tq_MI, 2), (Rq_ME, Tq_ME, 2), (Rq_PN, Tq_PN, 3), (Rq_CO, Tq_CO, 11), (Rq_BE, Tq_BE, 6), (Rq_MO, Tq_MO, 52)]
def fx_fkl : List (List Nat) := [[2, 2, 2, 2, 2], [0, 0, 0, 0], [1, 0, 0, 0, 0, 0, 0, 1, 2, 2, 2], [2, 2, 0], [2, 2, 2, 2, 2, 0, 0], [2, 0], [2, 2], [2, 2, 2], [2, 2, 2, 2, 2, 2, 0, 0, 0, 0, 0], [2, 2, 2, 0, 0, 0], [0, 2, 2, 2, 2, 2, 2, 2, 2, 2, 2, 2, 2, 2, 2, 2, 2, 2, 2, 0, 0, 2, 0, 0, 2, 2, 2, 2, 2, 2, 2, 0, 0, 2, 2, 2, 2, 2, 0, 0, 0, 0, 0, 0, 0, 0, 2, 2, 2, 2, 2, 2]]
/-- what the field k of the class ci holds: an int, a boolean, a reference -/
def fx_fk (ci k : Nat) : Nat := ((fx_fkl[ci]?).getD [])[k]?.getD 0
/-- the kinds of arrays: what they hold -/
def fx_tys : List FieldType := [.int, .boolean, .long, .object "FrameSwapper$Picture", .object "FrameSwapper$Rectangle", .array .int]
/-- words that the narrowing premise holds: statics that throwing reads, classes that are not castable -/
def fx_ex : List Cond := [.isRef (.static "java/lang/Throwable" "UNASSIGNED_STACK" "[Ljava/lang/StackTraceElement;"), .isRef (.static "java/lang/Throwable" "SUPPRESSED_SENTINEL" "Ljava/util/List;"), .not (.castable "java/lang/IllegalStateException" "java/lang/IllegalArgumentException"), .not (.castable "java/lang/IndexOutOfBoundsException" "java/lang/IllegalArgumentException")]
def fx_tb : List Cond := lw_tbl ++ fx_ex
end
section
/-! ===== ints without overflow ===== -/
theorem iz_rg (a : Int32) : -2147483648 ≤ a.toInt ∧ a.toInt < 2147483648 := ⟨Int32.le_toInt a, Int32.toInt_lt a⟩
theorem iz_bm {z : Int} (h : -2147483648 ≤ z ∧ z < 2147483648) : z.bmod (2 ^ 32) = z := by
  exact Int.bmod_eq_of_le (by omega) (by omega)
theorem iz_add {a b : Int32} (h : -2147483648 ≤ a.toInt + b.toInt ∧ a.toInt + b.toInt < 2147483648) : (a + b).toInt = a.toInt + b.toInt := by
  rw [Int32.toInt_add, iz_bm h]
theorem iz_sub {a b : Int32} (h : -2147483648 ≤ a.toInt - b.toInt ∧ a.toInt - b.toInt < 2147483648) : (a - b).toInt = a.toInt - b.toInt := by
  rw [Int32.toInt_sub, iz_bm h]
theorem iz_mul {a b : Int32} (h : -2147483648 ≤ a.toInt * b.toInt ∧ a.toInt * b.toInt < 2147483648) : (a * b).toInt = a.toInt * b.toInt := by
  rw [Int32.toInt_mul, iz_bm h]
theorem iz_eq {a b : Int32} : a = b ↔ a.toInt = b.toInt := ⟨fun h => by rw [h], fun h => Int32.toInt_inj.mp h⟩
theorem iz_lt {a b : Int32} : a < b ↔ a.toInt < b.toInt := Int32.lt_iff_toInt_lt
theorem iz_le {a b : Int32} : a ≤ b ↔ a.toInt ≤ b.toInt := Int32.le_iff_toInt_le
theorem iz_nn {a : Int32} (h : 0 ≤ a.toInt) : (a.toNatClampNeg : Int) = a.toInt := by
  show ((a.toInt.toNat : Nat) : Int) = a.toInt
  omega
theorem iz_in {a : Int32} {n : Nat} (h : 0 ≤ a.toInt) (h2 : a.toInt < n) : vp_in a n := vp_in_iff.mpr ⟨h, h2⟩
/-- the int of a number -/
def iz (z : Int) : Int32 := Int32.ofInt z
theorem iz_ti {z : Int} (h : -2147483648 ≤ z ∧ z < 2147483648) : (iz z).toInt = z := by
  exact Int32.toInt_ofInt_of_le (by omega) (by omega)
end
section
/-! ===== the heap as functions: ints, references, shapes, the next address ===== -/
abbrev fx_H : Type := (Nat → Nat → Int32) × (Nat → Nat → Option Nat) × (Nat → Option (Nat ⊕ (Nat × Nat))) × Nat
def fx_i (h : fx_H) (a k : Nat) : Int32 := h.1 a k
def fx_r (h : fx_H) (a k : Nat) : Option Nat := h.2.1 a k
def fx_s (h : fx_H) (a : Nat) : Option (Nat ⊕ (Nat × Nat)) := h.2.2.1 a
def fx_n (h : fx_H) : Nat := h.2.2.2
def fx_wi (h : fx_H) (a k : Nat) (v : Int32) : fx_H := (fun b j => if b = a ∧ j = k then v else h.1 b j, h.2.1, h.2.2.1, h.2.2.2)
def fx_wr (h : fx_H) (a k : Nat) (v : Option Nat) : fx_H := (h.1, fun b j => if b = a ∧ j = k then v else h.2.1 b j, h.2.2.1, h.2.2.2)
def fx_nw (h : fx_H) (x : Nat ⊕ (Nat × Nat)) : fx_H := (fun b j => if b = h.2.2.2 then 0 else h.1 b j, fun b j => if b = h.2.2.2 then none else h.2.1 b j, fun b => if b = h.2.2.2 then some x else h.2.2.1 b, h.2.2.2 + 1)
def fx_sk (h : fx_H) (n : Nat) : fx_H := (h.1, h.2.1, h.2.2.1, h.2.2.2 + n)
/-- System.arraycopy of ints -/
def fx_cp (h : fx_H) (a b sp dp n : Nat) : fx_H := (fun q j => if q = b then va_cpy (h.1 a) (h.1 b) sp dp n j else h.1 q j, h.2.1, h.2.2.1, h.2.2.2)
theorem fx_i_wi (h : fx_H) (a k b j : Nat) (v : Int32) : fx_i (fx_wi h a k v) b j = if b = a ∧ j = k then v else fx_i h b j := rfl
theorem fx_r_wi (h : fx_H) (a k b j : Nat) (v : Int32) : fx_r (fx_wi h a k v) b j = fx_r h b j := rfl
theorem fx_s_wi (h : fx_H) (a k b : Nat) (v : Int32) : fx_s (fx_wi h a k v) b = fx_s h b := rfl
theorem fx_n_wi (h : fx_H) (a k : Nat) (v : Int32) : fx_n (fx_wi h a k v) = fx_n h := rfl
theorem fx_r_wr (h : fx_H) (a k b j : Nat) (v : Option Nat) : fx_r (fx_wr h a k v) b j = if b = a ∧ j = k then v else fx_r h b j := rfl
theorem fx_i_wr (h : fx_H) (a k b j : Nat) (v : Option Nat) : fx_i (fx_wr h a k v) b j = fx_i h b j := rfl
theorem fx_s_wr (h : fx_H) (a k b : Nat) (v : Option Nat) : fx_s (fx_wr h a k v) b = fx_s h b := rfl
theorem fx_n_wr (h : fx_H) (a k : Nat) (v : Option Nat) : fx_n (fx_wr h a k v) = fx_n h := rfl
theorem fx_i_nw (h : fx_H) (x : Nat ⊕ (Nat × Nat)) (b j : Nat) : fx_i (fx_nw h x) b j = if b = fx_n h then 0 else fx_i h b j := rfl
theorem fx_r_nw (h : fx_H) (x : Nat ⊕ (Nat × Nat)) (b j : Nat) : fx_r (fx_nw h x) b j = if b = fx_n h then none else fx_r h b j := rfl
theorem fx_s_nw (h : fx_H) (x : Nat ⊕ (Nat × Nat)) (b : Nat) : fx_s (fx_nw h x) b = if b = fx_n h then some x else fx_s h b := rfl
theorem fx_n_nw (h : fx_H) (x : Nat ⊕ (Nat × Nat)) : fx_n (fx_nw h x) = fx_n h + 1 := rfl
theorem fx_i_sk (h : fx_H) (n b j : Nat) : fx_i (fx_sk h n) b j = fx_i h b j := rfl
theorem fx_r_sk (h : fx_H) (n b j : Nat) : fx_r (fx_sk h n) b j = fx_r h b j := rfl
theorem fx_s_sk (h : fx_H) (n b : Nat) : fx_s (fx_sk h n) b = fx_s h b := rfl
theorem fx_n_sk (h : fx_H) (n : Nat) : fx_n (fx_sk h n) = fx_n h + n := rfl
theorem fx_i_cp (h : fx_H) (a b sp dp n q j : Nat) : fx_i (fx_cp h a b sp dp n) q j = if q = b then va_cpy (fx_i h a) (fx_i h b) sp dp n j else fx_i h q j := rfl
theorem fx_r_cp (h : fx_H) (a b sp dp n q j : Nat) : fx_r (fx_cp h a b sp dp n) q j = fx_r h q j := rfl
theorem fx_s_cp (h : fx_H) (a b sp dp n q : Nat) : fx_s (fx_cp h a b sp dp n) q = fx_s h q := rfl
theorem fx_n_cp (h : fx_H) (a b sp dp n : Nat) : fx_n (fx_cp h a b sp dp n) = fx_n h := rfl
/-! ===== the fixed point of view: launch, the law's first state and arguments, the classes' numbers and slots, the arrays' classes ===== -/
abbrev fx_G : Type := Launch × State × Array Value × va_G × (Nat → ClassId)
abbrev fx_l (g : fx_G) : Launch := g.1
abbrev fx_s0 (g : fx_G) : State := g.2.1
abbrev fx_a0 (g : fx_G) : Array Value := g.2.2.1
abbrev fx_D (g : fx_G) : va_G := g.2.2.2.1
abbrev fx_dA (g : fx_G) : Nat → ClassId := g.2.2.2.2
abbrev fx_b (g : fx_G) : Nat := g.2.1.heap.size
/-- what a slot of an object holds -/
def fx_v (h : fx_H) (ci a k : Nat) : Value := if fx_fk ci k = 2 then va_rf (fx_r h a k) else .int (fx_i h a k)
def fx_ar (h : fx_H) (a ak : Nat) : (Nat → Int32) ⊕ (Nat → Int64) ⊕ (Nat → UInt32) ⊕ (Nat → UInt64) ⊕ (Nat → Option Nat) := if ak < 2 then .inl (fx_i h a) else if ak = 2 then .inr (.inl (fun j => (fx_i h a j).toInt64)) else .inr (.inr (.inr (.inr (fx_r h a))))
def fx_c (g : fx_G) (h : fx_H) (H : Heap) (a : Nat) (x : Nat ⊕ (Nat × Nat)) : Prop := match x with
  | .inl ci => (∃ r : vw_C, fx_cl[ci]? = some r ∧ t_OB a ((fx_D g).1 ci) r.2.2 ((fx_D g).2 ci) H (fx_v h ci a)) ∧ ∀ k, fx_fk ci k = 1 → fx_i h a k = 0 ∨ fx_i h a k = 1
  | .inr (ak, n) => H[a]? = some (vp_cell (fx_dA g ak) (n, fx_ar h a ak)) ∧ (ak = 1 → ∀ k, fx_i h a k = 0 ∨ fx_i h a k = 1)
/-- the machine's heap H is what h says -/
def fx_R (g : fx_G) (h : fx_H) (H : Heap) : Prop := H.size = fx_n h ∧ fx_b g ≤ fx_n h ∧ (∀ q : Nat, q < fx_b g → H[q]? = (fx_s0 g).heap[q]?) ∧ ∀ (a : Nat) (x : Nat ⊕ (Nat × Nat)), fx_s h a = some x → fx_b g ≤ a ∧ a < fx_n h ∧ fx_c g h H a x
/-- what is given of the start -/
def fx_ok (g : fx_G) : Prop := (fx_l g).stackTraces = false ∧ (∀ w ∈ fx_tb, w.before (fx_a0 g) (fx_s0 g) = true) ∧ (∀ (c : Nat) (q : vw_C), fx_cl[c]? = some q → u_Kn (fx_s0 g) q.1 q.2.1 q.2.2 ((fx_D g).1 c) ((fx_D g).2 c)) ∧ ∀ (ak : Nat) (ty : FieldType), fx_tys[ak]? = some ty → ArrOfT (fx_s0 g) (fx_dA g ak) ty ∧ va_RA (fx_s0 g) (fx_dA g ak) ty
/-- a method: its name, its bytes, its locals, its answer's type, how many frames its calls nest and how many words they take, its table of handlers -/
abbrev fx_M : Type := MethodName × ByteArray × Nat × Option FieldType × (Nat × Nat) × List (Nat × Nat × Nat × Nat)
abbrev fx_y (M : fx_M) : MethodName := M.1
abbrev fx_cc (M : fx_M) : ByteArray := M.2.1
abbrev fx_ml (M : fx_M) : Nat := M.2.2.1
abbrev fx_rt (M : fx_M) : Option FieldType := M.2.2.2.1
abbrev fx_lv (M : fx_M) : Nat := M.2.2.2.2.1.1
abbrev fx_lw (M : fx_M) : Nat := M.2.2.2.2.1.2
abbrev fx_hd (M : fx_M) : List (Nat × Nat × Nat × Nat) := M.2.2.2.2.2
def fx_cw (M : fx_M) : Cond := match fx_hd M with
  | [] => .code (fx_y M) (fx_cc M) (fx_ml M) (fx_rt M)
  | _ :: _ => .codeWith (fx_y M) (fx_cc M) (fx_ml M) (fx_rt M) (fx_hd M)
def fx_rows (c : Code) : List (Nat × Nat × Nat × Nat) := c.exceptionTable.toList.map (fun h => (h.startPc, h.endPc, h.handlerPc, h.catchType))
/-- how a method ends: an int, nothing, or an exception of the class of that name -/
abbrev fx_O : Type := Option Int32 ⊕ String
def fx_oc (U t : State) (o : Outcome) (o' : fx_O) : Prop := match o' with
  | .inl v => o = .returned (v.map Value.int)
  | .inr E => ∃ (q : Addr) (ce : Cell), o = .threw q ∧ t.heap[q]? = some ce ∧ ce.vm = .none ∧ U.vm.findClass E = some ce.cls
def fx_P (g : fx_G) (Q : fx_O → fx_H → Prop) (mc ms : Nat) (U : State) (o : Outcome) (t : State) : Prop :=
  ∃ L : List Loc, U.WarmedH t.vm ∧ U.sameButNew ({ t with vm := U.vm } : State) L mc ms ∧ (∀ z ∈ L, fx_b g ≤ z.base) ∧ ∃ (o' : fx_O) (h' : fx_H), Q o' h' ∧ fx_R g h' t.heap ∧ fx_oc U t o o'
def fx_rm (M : fx_M) (mc ms : Nat) : Room := { frames := fx_lv M, cells := mc, slots := ms, locals := fx_lw M }
/-- a method's contract: from the heap h, with the arguments as, it ends so that Q; at most mc cells of ms slots are new -/
def fx_C (g : fx_G) (M : fx_M) (as : List Value) (h : fx_H) (Q : fx_O → fx_H → Prop) (mc ms : Nat) : Prop :=
  MetFree (fx_l g) (fx_y M) (headSpec [fx_cw M] (fx_rm M mc ms)) (fun a U => a = as.toArray ∧ (fx_s0 g).WarmedH U.vm ∧ fx_R g h U.heap) (fun _ _ _ _ _ => True) (fun _ U o t => fx_P g Q mc ms U o t)
/-- what holds of a frame of the method M -/
def fx_F (g : fx_G) (M : fx_M) (p : Program) (R : Room) (s : State) (m : MethodId) (meth : Method) (c : Code) : Prop :=
  p.tables.exec = Jvm.exec ∧ c.code = fx_cc M ∧ c.maxLocals = fx_ml M ∧ meth.sig.returnType = fx_rt M ∧ meth.locks = false ∧ (fx_s0 g).WarmedH s.vm ∧ s.vm.findClass (fx_y M).cls = some m.cls ∧ meth.name = (fx_y M).name ∧ fx_rows c = fx_hd M ∧ fx_lv M ≤ R.frames ∧ fx_lw M ≤ R.locals
def fx_E (g : fx_G) (Q : fx_O → fx_H → Prop) (R : Room) (s : State) (below : List Frame) : State → Prop := fun t => ∃ o, t.status = .running ∧ Ended t below o ∧ fx_P g Q R.cells R.slots s o t
/-- the method M stands at pc with locals lv, stack st, heap h, and may still make mc cells of ms slots: it comes to its end with Q -/
def fx_X (g : fx_G) (M : fx_M) (pc : Nat) (lv : List (Nat × Value)) (st : List Value) (h : fx_H) (Q : fx_O → fx_H → Prop) (mc ms : Nat) : Prop :=
  ∀ (p : Program) (e : Env) (R : Room) (s : State) (m : MethodId) (args : Array Value) (below : List Frame) (meth : Method) (c : Code), fx_F g M p R s m meth c →
  ∀ (H : Heap) (locs : List Loc) (cells slots : Nat) (ls : Array Slot), fx_R g h H → (∀ z ∈ locs, fx_b g ≤ z.base) → cells + mc ≤ R.cells → slots + ms ≤ R.slots → lv_has ls (fx_ml M) lv →
  W p (fx_l g) e R s m args below meth c H locs cells slots (fx_E g Q R s below) (F0 m pc ls st)
/-! ===== words ===== -/
theorem fx_word {g : fx_G} (ok : fx_ok g) {w : Cond} (hw : w ∈ fx_tb) (hg : goodWord w = true) {args : Array Value} {s : State} (hW : (fx_s0 g).WarmedH s.vm) : w.before args s = true := word_at hW (good_of_word hg) (ok.2.1 w hw)
theorem fx_Kn {g : fx_G} (ok : fx_ok g) {s : State} (hW : (fx_s0 g).WarmedH s.vm) {ci : Nat} {q : vw_C} (hq : fx_cl[ci]? = some q) : u_Kn s q.1 q.2.1 q.2.2 ((fx_D g).1 ci) ((fx_D g).2 ci) := u_Kn_moved hW.alike (ok.2.2.1 ci q hq)
theorem fx_Ty {g : fx_G} (ok : fx_ok g) {s : State} (hW : (fx_s0 g).WarmedH s.vm) {ak : Nat} {ty : FieldType} (hq : fx_tys[ak]? = some ty) : ArrOfT s (fx_dA g ak) ty ∧ va_RA s (fx_dA g ak) ty := ⟨arrOfT_moved hW.alike (ok.2.2.2 ak ty hq).1, (ok.2.2.2 ak ty hq).2.moved hW.alike⟩
theorem fx_lay {C : String} {T : u_T} {N : Nat} {w : Cond} (h : w ∈ u_ws C T N) : goodWord w = true := by
  obtain ⟨k, -, rfl⟩ := List.mem_map.mp h
  unfold u_lay
  split <;> rfl
theorem fx_cw_spec {M : fx_M} {s : State} {args : Array Value} {m : MethodId} (hn : s.methodNamed? (fx_y M) = some m) (h : (fx_cw M).before args s = true) :
    ∃ meth c, s.vm.method? m = some meth ∧ meth.code = some c ∧ c.code = fx_cc M ∧ c.maxLocals = fx_ml M ∧ meth.sig.returnType = fx_rt M ∧ meth.locks = false ∧ fx_rows c = fx_hd M ∧ parseMethodDescriptor (fx_y M).desc = some meth.sig := by
  obtain ⟨y, cc, ml, rt, lev, hd⟩ := M
  cases hd with
  | nil =>
    obtain ⟨meth, c, h1, h2, h3, h4, h5, h6, h7, h8⟩ := Cond.code_spec hn (show (Cond.code y cc ml rt).before args s = true from h)
    refine ⟨meth, c, h1, h2, h3, h4, h5, h6, ?_, h8⟩
    have h9 : c.exceptionTable = #[] := Array.isEmpty_iff.mp h7
    show fx_rows c = []
    rw [fx_rows, h9]
    rfl
  | cons a l =>
    have h' : (Cond.codeWith y cc ml rt (a :: l)).before args s = true := h
    have hn' : s.methodNamed? y = some m := hn
    simp only [Cond.before, Cond.holds, Cond.value, hn', Option.bind_some] at h'
    cases hm : s.vm.method? m with
    | none => simp [hm] at h'
    | some meth =>
      simp only [hm, Option.map_some, beq_iff_eq, Option.some.injEq, Bool.and_eq_true, decide_eq_true_eq, Bool.not_eq_true'] at h'
      obtain ⟨⟨⟨hc, hr⟩, hl⟩, hsig⟩ := h'
      cases hcode : meth.code with
      | none => simp [hcode] at hc
      | some c =>
        simp only [hcode, Option.any_some, Bool.and_eq_true, decide_eq_true_eq, beq_iff_eq] at hc
        exact ⟨meth, c, rfl, hcode, hc.1.1.1, hc.1.1.2, hr, hl, hc.1.2, hsig⟩
/-! ===== a contract out of a walk ===== -/
theorem fx_body {g : fx_G} {M : fx_M} {as : List Value} {h : fx_H} {Q : fx_O → fx_H → Prop} {mc ms : Nat} (hp : plainName (fx_y M).cls = true) (ha : (lg_sl as).length ≤ fx_ml M)
    (k : fx_X g M 0 (lv_args 0 as) [] h Q mc ms) : fx_C g M as h Q mc ms := by
  refine MetFree.of_bodyS (code := fx_cc M) (maxLocals := fx_ml M) (ret := fx_rt M) hp ?_ ?_
  · intro args s m hpre hn
    have hw : (fx_cw M).before args s = true := atoms_spec (ws := [fx_cw M]) hpre _ List.mem_cons_self
    obtain ⟨meth, c, h1, h2, h3, h4, h5, h6, -, -⟩ := fx_cw_spec hn hw
    exact ⟨meth, c, h1, h2, h3, h4, h5, h6⟩
  · intro p e s m args below meth c s₁ B hml hP _
    obtain ⟨rfl, hW, hR⟩ := hP
    have X := Stand.of_body B
    have hw : (fx_cw M).before as.toArray s = true := atoms_spec (ws := [fx_cw M]) B.pre _ List.mem_cons_self
    obtain ⟨meth', c', h1, h2, -, -, -, -, h7, -⟩ := fx_cw_spec B.named hw
    cases h1.symm.trans B.method
    cases h2.symm.trans X.code
    have hh0 : s₁.heap = s.heap := by rw [B.state]; rfl
    have hl := lv_entry as ha
    have F : fx_F g M p (headSpec [fx_cw M] (fx_rm M mc ms)).room s m meth c :=
      ⟨B.exec, B.bytes, hml, B.returns, B.notSynchronized, hW, findClass_of_methodNamed B.named, (name_of_methodNamed B.named B.method).1, h7, Nat.le_refl _, Nat.le_refl _⟩
    obtain ⟨t, st, o, hrun, hend, hpost⟩ := k p e _ s m as.toArray below meth c F s.heap [] 0 0 _ hR (fun z hz => nomatch hz) (by rw [Nat.zero_add]; exact Nat.le_refl _) (by rw [Nat.zero_add]; exact Nat.le_refl _) hl s₁ hh0 X
    rw [← lg_entry_eq] at st
    exact ⟨t, o, st, hrun, hend, hpost⟩
theorem fx_C_mono {g : fx_G} {M : fx_M} {as : List Value} {h : fx_H} {Q Q' : fx_O → fx_H → Prop} {mc ms : Nat} (hC : fx_C g M as h Q mc ms) (hq : ∀ o k, Q o k → Q' o k) : fx_C g M as h Q' mc ms := by
  intro p e a1 a2 a3 s m args below a4 a5 a6 a7
  obtain ⟨n, o, b1, b2, b3, L, c1, c2, c3, o', h', c4, c5⟩ := hC p e a1 a2 a3 s m args below a4 a5 a6 a7
  exact ⟨n, o, b1, b2, b3, L, c1, c2, c3, o', h', hq _ _ c4, c5⟩
theorem fx_X_mono {g : fx_G} {M : fx_M} {pc : Nat} {lv : List (Nat × Value)} {st : List Value} {h : fx_H} {Q Q' : fx_O → fx_H → Prop} {mc ms : Nat} (hC : fx_X g M pc lv st h Q mc ms) (hq : ∀ o k, Q o k → Q' o k) : fx_X g M pc lv st h Q' mc ms := by
  intro p e R s m args below meth c F H locs cells slots ls hR hL hc hs hl T hT X
  obtain ⟨t, st, o, b2, b3, L, c1, c2, c3, o', h', c4, c5⟩ := hC p e R s m args below meth c F H locs cells slots ls hR hL hc hs hl T hT X
  exact ⟨t, st, o, b2, b3, L, c1, c2, c3, o', h', hq _ _ c4, c5⟩
end
section
/-! ===== locals, stack, arithmetic, branches ===== -/
def fx_st (i : Nat) (v : Value) (lv : List (Nat × Value)) : List (Nat × Value) := (i, v) :: lv.filter (fun q => !(q.1 == i) && !(q.1 + 1 == i && q.2.category == 2))
theorem fx_iconst {g : fx_G} {M : fx_M} {pc : Nat} {lv : List (Nat × Value)} {st : List Value} {h : fx_H} {Q : fx_O → fx_H → Prop} {mc ms : Nat} {n : Int} {v : Int32} (d : decode (fx_cc M) pc = .ok (.iconst n, 1)) (hv : Int32.ofInt n = v)
    (K : fx_X g M (pc + 1) lv (.int v :: st) h Q mc ms) : fx_X g M pc lv (st) h Q mc ms := by
  intro p e R s m args below meth c F H locs cells slots ls hR hL hc hs hl
  exact lv_iconst F.1 F.2.1 d hv (K p e R s m args below meth c F H locs cells slots ls hR hL hc hs hl)
theorem fx_bipush {g : fx_G} {M : fx_M} {pc : Nat} {lv : List (Nat × Value)} {st : List Value} {h : fx_H} {Q : fx_O → fx_H → Prop} {mc ms : Nat} {n : Int} {v : Int32} (d : decode (fx_cc M) pc = .ok (.bipush n, 2)) (hv : (Int8.ofInt n).toInt32 = v)
    (K : fx_X g M (pc + 2) lv (.int v :: st) h Q mc ms) : fx_X g M pc lv (st) h Q mc ms := by
  intro p e R s m args below meth c F H locs cells slots ls hR hL hc hs hl
  exact lv_bipush F.1 F.2.1 d hv (K p e R s m args below meth c F H locs cells slots ls hR hL hc hs hl)
theorem fx_sipush {g : fx_G} {M : fx_M} {pc : Nat} {lv : List (Nat × Value)} {st : List Value} {h : fx_H} {Q : fx_O → fx_H → Prop} {mc ms : Nat} {n : Int} {v : Int32} (d : decode (fx_cc M) pc = .ok (.sipush n, 3)) (hv : (Int16.ofInt n).toInt32 = v)
    (K : fx_X g M (pc + 3) lv (.int v :: st) h Q mc ms) : fx_X g M pc lv (st) h Q mc ms := by
  intro p e R s m args below meth c F H locs cells slots ls hR hL hc hs hl
  exact lv_sipush F.1 F.2.1 d hv (K p e R s m args below meth c F H locs cells slots ls hR hL hc hs hl)
theorem fx_iload_n {g : fx_G} {M : fx_M} {pc : Nat} {lv : List (Nat × Value)} {st : List Value} {h : fx_H} {Q : fx_O → fx_H → Prop} {mc ms : Nat} {j : Fin 4} {i : Nat} {x : Int32} (k : Nat) (d : decode (fx_cc M) pc = .ok (.iload_n j, 1)) (hi : (j : Nat) = i) (hk : lv[k]? = some (i, .int x))
    (K : fx_X g M (pc + 1) lv (.int x :: st) h Q mc ms) : fx_X g M pc lv (st) h Q mc ms := by
  intro p e R s m args below meth c F H locs cells slots ls hR hL hc hs hl
  exact lv_iload_n F.1 F.2.1 d hi (lv_at hl k hk) (K p e R s m args below meth c F H locs cells slots ls hR hL hc hs hl)
theorem fx_iload {g : fx_G} {M : fx_M} {pc : Nat} {lv : List (Nat × Value)} {st : List Value} {h : fx_H} {Q : fx_O → fx_H → Prop} {mc ms : Nat} {i : Nat} {x : Int32} (k : Nat) (d : decode (fx_cc M) pc = .ok (.iload i, 2)) (hk : lv[k]? = some (i, .int x))
    (K : fx_X g M (pc + 2) lv (.int x :: st) h Q mc ms) : fx_X g M pc lv (st) h Q mc ms := by
  intro p e R s m args below meth c F H locs cells slots ls hR hL hc hs hl
  exact lv_iload F.1 F.2.1 d (lv_at hl k hk) (K p e R s m args below meth c F H locs cells slots ls hR hL hc hs hl)
theorem fx_istore_n {g : fx_G} {M : fx_M} {pc : Nat} {lv : List (Nat × Value)} {st : List Value} {h : fx_H} {Q : fx_O → fx_H → Prop} {mc ms : Nat} {j : Fin 4} {i : Nat} {x : Int32} {lv' : List (Nat × Value)} (d : decode (fx_cc M) pc = .ok (.istore_n j, 1)) (hi : (j : Nat) = i) (hn : i < fx_ml M) (hv : fx_st i (Value.int x) lv = lv')
    (K : fx_X g M (pc + 1) lv' st h Q mc ms) : fx_X g M pc lv (.int x :: st) h Q mc ms := by
  intro p e R s m args below meth c F H locs cells slots ls hR hL hc hs hl
  exact lv_istore_n F.1 F.2.1 d hi hl hn hv (fun ls' hl' => (K p e R s m args below meth c F H locs cells slots ls' hR hL hc hs hl'))
theorem fx_istore {g : fx_G} {M : fx_M} {pc : Nat} {lv : List (Nat × Value)} {st : List Value} {h : fx_H} {Q : fx_O → fx_H → Prop} {mc ms : Nat} {i : Nat} {x : Int32} {lv' : List (Nat × Value)} (d : decode (fx_cc M) pc = .ok (.istore i, 2)) (hn : i < fx_ml M) (hv : fx_st i (Value.int x) lv = lv')
    (K : fx_X g M (pc + 2) lv' st h Q mc ms) : fx_X g M pc lv (.int x :: st) h Q mc ms := by
  intro p e R s m args below meth c F H locs cells slots ls hR hL hc hs hl
  exact lv_istore F.1 F.2.1 d hl hn hv (fun ls' hl' => (K p e R s m args below meth c F H locs cells slots ls' hR hL hc hs hl'))
theorem fx_aload_n {g : fx_G} {M : fx_M} {pc : Nat} {lv : List (Nat × Value)} {st : List Value} {h : fx_H} {Q : fx_O → fx_H → Prop} {mc ms : Nat} {j : Fin 4} {i : Nat} {x : Nat} (k : Nat) (d : decode (fx_cc M) pc = .ok (.aload_n j, 1)) (hi : (j : Nat) = i) (hk : lv[k]? = some (i, .ref x))
    (K : fx_X g M (pc + 1) lv (.ref x :: st) h Q mc ms) : fx_X g M pc lv (st) h Q mc ms := by
  intro p e R s m args below meth c F H locs cells slots ls hR hL hc hs hl
  exact lv_aload_n F.1 F.2.1 d hi (lv_at hl k hk) (K p e R s m args below meth c F H locs cells slots ls hR hL hc hs hl)
theorem fx_aload {g : fx_G} {M : fx_M} {pc : Nat} {lv : List (Nat × Value)} {st : List Value} {h : fx_H} {Q : fx_O → fx_H → Prop} {mc ms : Nat} {i : Nat} {x : Nat} (k : Nat) (d : decode (fx_cc M) pc = .ok (.aload i, 2)) (hk : lv[k]? = some (i, .ref x))
    (K : fx_X g M (pc + 2) lv (.ref x :: st) h Q mc ms) : fx_X g M pc lv (st) h Q mc ms := by
  intro p e R s m args below meth c F H locs cells slots ls hR hL hc hs hl
  exact lv_aload F.1 F.2.1 d (lv_at hl k hk) (K p e R s m args below meth c F H locs cells slots ls hR hL hc hs hl)
theorem fx_astore_n {g : fx_G} {M : fx_M} {pc : Nat} {lv : List (Nat × Value)} {st : List Value} {h : fx_H} {Q : fx_O → fx_H → Prop} {mc ms : Nat} {j : Fin 4} {i : Nat} {x : Nat} {lv' : List (Nat × Value)} (d : decode (fx_cc M) pc = .ok (.astore_n j, 1)) (hi : (j : Nat) = i) (hn : i < fx_ml M) (hv : fx_st i (Value.ref x) lv = lv')
    (K : fx_X g M (pc + 1) lv' st h Q mc ms) : fx_X g M pc lv (.ref x :: st) h Q mc ms := by
  intro p e R s m args below meth c F H locs cells slots ls hR hL hc hs hl
  exact lv_astore_n F.1 F.2.1 d hi hl hn hv (fun ls' hl' => (K p e R s m args below meth c F H locs cells slots ls' hR hL hc hs hl'))
theorem fx_astore {g : fx_G} {M : fx_M} {pc : Nat} {lv : List (Nat × Value)} {st : List Value} {h : fx_H} {Q : fx_O → fx_H → Prop} {mc ms : Nat} {i : Nat} {x : Nat} {lv' : List (Nat × Value)} (d : decode (fx_cc M) pc = .ok (.astore i, 2)) (hn : i < fx_ml M) (hv : fx_st i (Value.ref x) lv = lv')
    (K : fx_X g M (pc + 2) lv' st h Q mc ms) : fx_X g M pc lv (.ref x :: st) h Q mc ms := by
  intro p e R s m args below meth c F H locs cells slots ls hR hL hc hs hl
  exact lv_astore F.1 F.2.1 d hl hn hv (fun ls' hl' => (K p e R s m args below meth c F H locs cells slots ls' hR hL hc hs hl'))
theorem fx_iinc {g : fx_G} {M : fx_M} {pc : Nat} {lv : List (Nat × Value)} {st : List Value} {h : fx_H} {Q : fx_O → fx_H → Prop} {mc ms : Nat} {i : Nat} {n : Int} {x v : Int32} {lv' : List (Nat × Value)} (k : Nat) (d : decode (fx_cc M) pc = .ok (.iinc i n, 3)) (hk : lv[k]? = some (i, .int x)) (hx : x + Int32.ofInt n = v) (hn : i < fx_ml M) (hv : fx_st i (Value.int v) lv = lv')
    (K : fx_X g M (pc + 3) lv' st h Q mc ms) : fx_X g M pc lv st h Q mc ms := by
  intro p e R s m args below meth c F H locs cells slots ls hR hL hc hs hl
  exact lv_iinc F.1 F.2.1 d hl hk hx hn hv (fun ls' hl' => (K p e R s m args below meth c F H locs cells slots ls' hR hL hc hs hl'))
theorem fx_iadd {g : fx_G} {M : fx_M} {pc : Nat} {lv : List (Nat × Value)} {st : List Value} {h : fx_H} {Q : fx_O → fx_H → Prop} {mc ms : Nat} {x y : Int32} (d : decode (fx_cc M) pc = .ok (.iadd, 1))
    (K : fx_X g M (pc + 1) lv (.int (x + y) :: st) h Q mc ms) : fx_X g M pc lv (.int y :: .int x :: st) h Q mc ms := by
  intro p e R s m args below meth c F H locs cells slots ls hR hL hc hs hl
  exact lv_iadd F.1 F.2.1 d (K p e R s m args below meth c F H locs cells slots ls hR hL hc hs hl)
theorem fx_isub {g : fx_G} {M : fx_M} {pc : Nat} {lv : List (Nat × Value)} {st : List Value} {h : fx_H} {Q : fx_O → fx_H → Prop} {mc ms : Nat} {x y : Int32} (d : decode (fx_cc M) pc = .ok (.isub, 1))
    (K : fx_X g M (pc + 1) lv (.int (x - y) :: st) h Q mc ms) : fx_X g M pc lv (.int y :: .int x :: st) h Q mc ms := by
  intro p e R s m args below meth c F H locs cells slots ls hR hL hc hs hl
  exact lv_isub F.1 F.2.1 d (K p e R s m args below meth c F H locs cells slots ls hR hL hc hs hl)
theorem fx_imul {g : fx_G} {M : fx_M} {pc : Nat} {lv : List (Nat × Value)} {st : List Value} {h : fx_H} {Q : fx_O → fx_H → Prop} {mc ms : Nat} {x y : Int32} (d : decode (fx_cc M) pc = .ok (.imul, 1))
    (K : fx_X g M (pc + 1) lv (.int (x * y) :: st) h Q mc ms) : fx_X g M pc lv (.int y :: .int x :: st) h Q mc ms := by
  intro p e R s m args below meth c F H locs cells slots ls hR hL hc hs hl
  exact lv_imul F.1 F.2.1 d (K p e R s m args below meth c F H locs cells slots ls hR hL hc hs hl)
theorem fx_iand {g : fx_G} {M : fx_M} {pc : Nat} {lv : List (Nat × Value)} {st : List Value} {h : fx_H} {Q : fx_O → fx_H → Prop} {mc ms : Nat} {x y : Int32} (d : decode (fx_cc M) pc = .ok (.iand, 1))
    (K : fx_X g M (pc + 1) lv (.int (x &&& y) :: st) h Q mc ms) : fx_X g M pc lv (.int y :: .int x :: st) h Q mc ms := by
  intro p e R s m args below meth c F H locs cells slots ls hR hL hc hs hl
  exact lv_iand F.1 F.2.1 d (K p e R s m args below meth c F H locs cells slots ls hR hL hc hs hl)
theorem fx_ior {g : fx_G} {M : fx_M} {pc : Nat} {lv : List (Nat × Value)} {st : List Value} {h : fx_H} {Q : fx_O → fx_H → Prop} {mc ms : Nat} {x y : Int32} (d : decode (fx_cc M) pc = .ok (.ior, 1))
    (K : fx_X g M (pc + 1) lv (.int (x ||| y) :: st) h Q mc ms) : fx_X g M pc lv (.int y :: .int x :: st) h Q mc ms := by
  intro p e R s m args below meth c F H locs cells slots ls hR hL hc hs hl
  exact lv_ior F.1 F.2.1 d (K p e R s m args below meth c F H locs cells slots ls hR hL hc hs hl)
theorem fx_ishl {g : fx_G} {M : fx_M} {pc : Nat} {lv : List (Nat × Value)} {st : List Value} {h : fx_H} {Q : fx_O → fx_H → Prop} {mc ms : Nat} {x y : Int32} (d : decode (fx_cc M) pc = .ok (.ishl, 1))
    (K : fx_X g M (pc + 1) lv (.int (x <<< (y &&& 31)) :: st) h Q mc ms) : fx_X g M pc lv (.int y :: .int x :: st) h Q mc ms := by
  intro p e R s m args below meth c F H locs cells slots ls hR hL hc hs hl
  exact lv_ishl F.1 F.2.1 d (K p e R s m args below meth c F H locs cells slots ls hR hL hc hs hl)
theorem fx_ishr {g : fx_G} {M : fx_M} {pc : Nat} {lv : List (Nat × Value)} {st : List Value} {h : fx_H} {Q : fx_O → fx_H → Prop} {mc ms : Nat} {x y : Int32} (d : decode (fx_cc M) pc = .ok (.ishr, 1))
    (K : fx_X g M (pc + 1) lv (.int (x >>> (y &&& 31)) :: st) h Q mc ms) : fx_X g M pc lv (.int y :: .int x :: st) h Q mc ms := by
  intro p e R s m args below meth c F H locs cells slots ls hR hL hc hs hl
  exact lv_ishr F.1 F.2.1 d (K p e R s m args below meth c F H locs cells slots ls hR hL hc hs hl)
theorem fx_idiv {g : fx_G} {M : fx_M} {pc : Nat} {lv : List (Nat × Value)} {st : List Value} {h : fx_H} {Q : fx_O → fx_H → Prop} {mc ms : Nat} {x y : Int32} (d : decode (fx_cc M) pc = .ok (.idiv, 1)) (hne : ¬ y = 0)
    (K : fx_X g M (pc + 1) lv (.int (x / y) :: st) h Q mc ms) : fx_X g M pc lv (.int y :: .int x :: st) h Q mc ms := by
  intro p e R s m args below meth c F H locs cells slots ls hR hL hc hs hl
  exact lv_idiv F.1 F.2.1 d hne (K p e R s m args below meth c F H locs cells slots ls hR hL hc hs hl)
theorem fx_irem {g : fx_G} {M : fx_M} {pc : Nat} {lv : List (Nat × Value)} {st : List Value} {h : fx_H} {Q : fx_O → fx_H → Prop} {mc ms : Nat} {x y : Int32} (d : decode (fx_cc M) pc = .ok (.irem, 1)) (hne : ¬ y = 0)
    (K : fx_X g M (pc + 1) lv (.int (x - x / y * y) :: st) h Q mc ms) : fx_X g M pc lv (.int y :: .int x :: st) h Q mc ms := by
  intro p e R s m args below meth c F H locs cells slots ls hR hL hc hs hl
  exact lv_irem F.1 F.2.1 d hne (K p e R s m args below meth c F H locs cells slots ls hR hL hc hs hl)
theorem fx_i2l {g : fx_G} {M : fx_M} {pc : Nat} {lv : List (Nat × Value)} {st : List Value} {h : fx_H} {Q : fx_O → fx_H → Prop} {mc ms : Nat} {x : Int32} (d : decode (fx_cc M) pc = .ok (.i2l, 1))
    (K : fx_X g M (pc + 1) lv (.long x.toInt64 :: st) h Q mc ms) : fx_X g M pc lv (.int x :: st) h Q mc ms := by
  intro p e R s m args below meth c F H locs cells slots ls hR hL hc hs hl
  exact lv_i2l F.1 F.2.1 d rfl (K p e R s m args below meth c F H locs cells slots ls hR hL hc hs hl)
theorem fx_dup {g : fx_G} {M : fx_M} {pc : Nat} {lv : List (Nat × Value)} {st : List Value} {h : fx_H} {Q : fx_O → fx_H → Prop} {mc ms : Nat} {a : Value} (d : decode (fx_cc M) pc = .ok (.dup, 1)) (ha : a.category = 1)
    (K : fx_X g M (pc + 1) lv (a :: a :: st) h Q mc ms) : fx_X g M pc lv (a :: st) h Q mc ms := by
  intro p e R s m args below meth c F H locs cells slots ls hR hL hc hs hl
  exact lv_dup F.1 F.2.1 d ha (K p e R s m args below meth c F H locs cells slots ls hR hL hc hs hl)
theorem fx_pop {g : fx_G} {M : fx_M} {pc : Nat} {lv : List (Nat × Value)} {st : List Value} {h : fx_H} {Q : fx_O → fx_H → Prop} {mc ms : Nat} {a : Value} (d : decode (fx_cc M) pc = .ok (.pop, 1)) (ha : a.category = 1)
    (K : fx_X g M (pc + 1) lv (st) h Q mc ms) : fx_X g M pc lv (a :: st) h Q mc ms := by
  intro p e R s m args below meth c F H locs cells slots ls hR hL hc hs hl
  exact lv_pop F.1 F.2.1 d ha (K p e R s m args below meth c F H locs cells slots ls hR hL hc hs hl)
theorem fx_dup_x1 {g : fx_G} {M : fx_M} {pc : Nat} {lv : List (Nat × Value)} {st : List Value} {h : fx_H} {Q : fx_O → fx_H → Prop} {mc ms : Nat} {a b : Value} (d : decode (fx_cc M) pc = .ok (.dup_x1, 1)) (ha : a.category = 1) (hb : b.category = 1)
    (K : fx_X g M (pc + 1) lv (a :: b :: a :: st) h Q mc ms) : fx_X g M pc lv (a :: b :: st) h Q mc ms := by
  intro p e R s m args below meth c F H locs cells slots ls hR hL hc hs hl
  exact lv_dup_x1 F.1 F.2.1 d ha hb (K p e R s m args below meth c F H locs cells slots ls hR hL hc hs hl)
theorem fx_dup_x2 {g : fx_G} {M : fx_M} {pc : Nat} {lv : List (Nat × Value)} {st : List Value} {h : fx_H} {Q : fx_O → fx_H → Prop} {mc ms : Nat} {a b e : Value} (d : decode (fx_cc M) pc = .ok (.dup_x2, 1)) (ha : a.category = 1) (hb : b.category = 1) (he : e.category = 1)
    (K : fx_X g M (pc + 1) lv (a :: b :: e :: a :: st) h Q mc ms) : fx_X g M pc lv (a :: b :: e :: st) h Q mc ms := by
  intro p e R s m args below meth c F H locs cells slots ls hR hL hc hs hl
  exact lv_dup_x2 F.1 F.2.1 d ha hb he (K p e R s m args below meth c F H locs cells slots ls hR hL hc hs hl)
theorem fx_dup2 {g : fx_G} {M : fx_M} {pc : Nat} {lv : List (Nat × Value)} {st : List Value} {h : fx_H} {Q : fx_O → fx_H → Prop} {mc ms : Nat} {a b : Value} (d : decode (fx_cc M) pc = .ok (.dup2, 1)) (ha : a.category = 1) (hb : b.category = 1)
    (K : fx_X g M (pc + 1) lv (a :: b :: a :: b :: st) h Q mc ms) : fx_X g M pc lv (a :: b :: st) h Q mc ms := by
  intro p e R s m args below meth c F H locs cells slots ls hR hL hc hs hl
  exact lv_dup2_11 F.1 F.2.1 d ha hb (K p e R s m args below meth c F H locs cells slots ls hR hL hc hs hl)
theorem fx_if_eq {g : fx_G} {M : fx_M} {pc : Nat} {lv : List (Nat × Value)} {st : List Value} {h : fx_H} {Q : fx_O → fx_H → Prop} {mc ms : Nat} {x : Int32} {off : Int} {tgt : Nat} (d : decode (fx_cc M) pc = .ok (.ifCond .eq off, 3)) (ht : (pc : Int) + off = (tgt : Int))
    (Kt : x = 0 → fx_X g M tgt lv st h Q mc ms) (Kf : ¬ x = 0 → fx_X g M (pc + 3) lv st h Q mc ms) : fx_X g M pc lv (.int x :: st) h Q mc ms := by
  intro p e R s m args below meth c F H locs cells slots ls hR hL hc hs hl
  exact lv_if_eq F.1 F.2.1 d ht (fun hcc => Kt hcc p e R s m args below meth c F H locs cells slots ls hR hL hc hs hl) (fun hcc => Kf hcc p e R s m args below meth c F H locs cells slots ls hR hL hc hs hl)
theorem fx_icmp_eq {g : fx_G} {M : fx_M} {pc : Nat} {lv : List (Nat × Value)} {st : List Value} {h : fx_H} {Q : fx_O → fx_H → Prop} {mc ms : Nat} {x y : Int32} {off : Int} {tgt : Nat} (d : decode (fx_cc M) pc = .ok (.if_icmp .eq off, 3)) (ht : (pc : Int) + off = (tgt : Int))
    (Kt : x = y → fx_X g M tgt lv st h Q mc ms) (Kf : ¬ x = y → fx_X g M (pc + 3) lv st h Q mc ms) : fx_X g M pc lv (.int y :: .int x :: st) h Q mc ms := by
  intro p e R s m args below meth c F H locs cells slots ls hR hL hc hs hl
  exact lv_icmp_eq F.1 F.2.1 d ht (fun hcc => Kt hcc p e R s m args below meth c F H locs cells slots ls hR hL hc hs hl) (fun hcc => Kf hcc p e R s m args below meth c F H locs cells slots ls hR hL hc hs hl)
theorem fx_if_ne {g : fx_G} {M : fx_M} {pc : Nat} {lv : List (Nat × Value)} {st : List Value} {h : fx_H} {Q : fx_O → fx_H → Prop} {mc ms : Nat} {x : Int32} {off : Int} {tgt : Nat} (d : decode (fx_cc M) pc = .ok (.ifCond .ne off, 3)) (ht : (pc : Int) + off = (tgt : Int))
    (Kt : ¬ x = 0 → fx_X g M tgt lv st h Q mc ms) (Kf : x = 0 → fx_X g M (pc + 3) lv st h Q mc ms) : fx_X g M pc lv (.int x :: st) h Q mc ms := by
  intro p e R s m args below meth c F H locs cells slots ls hR hL hc hs hl
  exact lv_if_ne F.1 F.2.1 d ht (fun hcc => Kt hcc p e R s m args below meth c F H locs cells slots ls hR hL hc hs hl) (fun hcc => Kf hcc p e R s m args below meth c F H locs cells slots ls hR hL hc hs hl)
theorem fx_icmp_ne {g : fx_G} {M : fx_M} {pc : Nat} {lv : List (Nat × Value)} {st : List Value} {h : fx_H} {Q : fx_O → fx_H → Prop} {mc ms : Nat} {x y : Int32} {off : Int} {tgt : Nat} (d : decode (fx_cc M) pc = .ok (.if_icmp .ne off, 3)) (ht : (pc : Int) + off = (tgt : Int))
    (Kt : ¬ x = y → fx_X g M tgt lv st h Q mc ms) (Kf : x = y → fx_X g M (pc + 3) lv st h Q mc ms) : fx_X g M pc lv (.int y :: .int x :: st) h Q mc ms := by
  intro p e R s m args below meth c F H locs cells slots ls hR hL hc hs hl
  exact lv_icmp_ne F.1 F.2.1 d ht (fun hcc => Kt hcc p e R s m args below meth c F H locs cells slots ls hR hL hc hs hl) (fun hcc => Kf hcc p e R s m args below meth c F H locs cells slots ls hR hL hc hs hl)
theorem fx_if_lt {g : fx_G} {M : fx_M} {pc : Nat} {lv : List (Nat × Value)} {st : List Value} {h : fx_H} {Q : fx_O → fx_H → Prop} {mc ms : Nat} {x : Int32} {off : Int} {tgt : Nat} (d : decode (fx_cc M) pc = .ok (.ifCond .lt off, 3)) (ht : (pc : Int) + off = (tgt : Int))
    (Kt : x < 0 → fx_X g M tgt lv st h Q mc ms) (Kf : ¬ x < 0 → fx_X g M (pc + 3) lv st h Q mc ms) : fx_X g M pc lv (.int x :: st) h Q mc ms := by
  intro p e R s m args below meth c F H locs cells slots ls hR hL hc hs hl
  exact lv_if_lt F.1 F.2.1 d ht (fun hcc => Kt hcc p e R s m args below meth c F H locs cells slots ls hR hL hc hs hl) (fun hcc => Kf hcc p e R s m args below meth c F H locs cells slots ls hR hL hc hs hl)
theorem fx_icmp_lt {g : fx_G} {M : fx_M} {pc : Nat} {lv : List (Nat × Value)} {st : List Value} {h : fx_H} {Q : fx_O → fx_H → Prop} {mc ms : Nat} {x y : Int32} {off : Int} {tgt : Nat} (d : decode (fx_cc M) pc = .ok (.if_icmp .lt off, 3)) (ht : (pc : Int) + off = (tgt : Int))
    (Kt : x < y → fx_X g M tgt lv st h Q mc ms) (Kf : ¬ x < y → fx_X g M (pc + 3) lv st h Q mc ms) : fx_X g M pc lv (.int y :: .int x :: st) h Q mc ms := by
  intro p e R s m args below meth c F H locs cells slots ls hR hL hc hs hl
  exact lv_icmp_lt F.1 F.2.1 d ht (fun hcc => Kt hcc p e R s m args below meth c F H locs cells slots ls hR hL hc hs hl) (fun hcc => Kf hcc p e R s m args below meth c F H locs cells slots ls hR hL hc hs hl)
theorem fx_if_ge {g : fx_G} {M : fx_M} {pc : Nat} {lv : List (Nat × Value)} {st : List Value} {h : fx_H} {Q : fx_O → fx_H → Prop} {mc ms : Nat} {x : Int32} {off : Int} {tgt : Nat} (d : decode (fx_cc M) pc = .ok (.ifCond .ge off, 3)) (ht : (pc : Int) + off = (tgt : Int))
    (Kt : 0 ≤ x → fx_X g M tgt lv st h Q mc ms) (Kf : ¬ 0 ≤ x → fx_X g M (pc + 3) lv st h Q mc ms) : fx_X g M pc lv (.int x :: st) h Q mc ms := by
  intro p e R s m args below meth c F H locs cells slots ls hR hL hc hs hl
  exact lv_if_ge F.1 F.2.1 d ht (fun hcc => Kt hcc p e R s m args below meth c F H locs cells slots ls hR hL hc hs hl) (fun hcc => Kf hcc p e R s m args below meth c F H locs cells slots ls hR hL hc hs hl)
theorem fx_icmp_ge {g : fx_G} {M : fx_M} {pc : Nat} {lv : List (Nat × Value)} {st : List Value} {h : fx_H} {Q : fx_O → fx_H → Prop} {mc ms : Nat} {x y : Int32} {off : Int} {tgt : Nat} (d : decode (fx_cc M) pc = .ok (.if_icmp .ge off, 3)) (ht : (pc : Int) + off = (tgt : Int))
    (Kt : y ≤ x → fx_X g M tgt lv st h Q mc ms) (Kf : ¬ y ≤ x → fx_X g M (pc + 3) lv st h Q mc ms) : fx_X g M pc lv (.int y :: .int x :: st) h Q mc ms := by
  intro p e R s m args below meth c F H locs cells slots ls hR hL hc hs hl
  exact lv_icmp_ge F.1 F.2.1 d ht (fun hcc => Kt hcc p e R s m args below meth c F H locs cells slots ls hR hL hc hs hl) (fun hcc => Kf hcc p e R s m args below meth c F H locs cells slots ls hR hL hc hs hl)
theorem fx_if_gt {g : fx_G} {M : fx_M} {pc : Nat} {lv : List (Nat × Value)} {st : List Value} {h : fx_H} {Q : fx_O → fx_H → Prop} {mc ms : Nat} {x : Int32} {off : Int} {tgt : Nat} (d : decode (fx_cc M) pc = .ok (.ifCond .gt off, 3)) (ht : (pc : Int) + off = (tgt : Int))
    (Kt : 0 < x → fx_X g M tgt lv st h Q mc ms) (Kf : ¬ 0 < x → fx_X g M (pc + 3) lv st h Q mc ms) : fx_X g M pc lv (.int x :: st) h Q mc ms := by
  intro p e R s m args below meth c F H locs cells slots ls hR hL hc hs hl
  exact lv_if_gt F.1 F.2.1 d ht (fun hcc => Kt hcc p e R s m args below meth c F H locs cells slots ls hR hL hc hs hl) (fun hcc => Kf hcc p e R s m args below meth c F H locs cells slots ls hR hL hc hs hl)
theorem fx_icmp_gt {g : fx_G} {M : fx_M} {pc : Nat} {lv : List (Nat × Value)} {st : List Value} {h : fx_H} {Q : fx_O → fx_H → Prop} {mc ms : Nat} {x y : Int32} {off : Int} {tgt : Nat} (d : decode (fx_cc M) pc = .ok (.if_icmp .gt off, 3)) (ht : (pc : Int) + off = (tgt : Int))
    (Kt : y < x → fx_X g M tgt lv st h Q mc ms) (Kf : ¬ y < x → fx_X g M (pc + 3) lv st h Q mc ms) : fx_X g M pc lv (.int y :: .int x :: st) h Q mc ms := by
  intro p e R s m args below meth c F H locs cells slots ls hR hL hc hs hl
  exact lv_icmp_gt F.1 F.2.1 d ht (fun hcc => Kt hcc p e R s m args below meth c F H locs cells slots ls hR hL hc hs hl) (fun hcc => Kf hcc p e R s m args below meth c F H locs cells slots ls hR hL hc hs hl)
theorem fx_if_le {g : fx_G} {M : fx_M} {pc : Nat} {lv : List (Nat × Value)} {st : List Value} {h : fx_H} {Q : fx_O → fx_H → Prop} {mc ms : Nat} {x : Int32} {off : Int} {tgt : Nat} (d : decode (fx_cc M) pc = .ok (.ifCond .le off, 3)) (ht : (pc : Int) + off = (tgt : Int))
    (Kt : x ≤ 0 → fx_X g M tgt lv st h Q mc ms) (Kf : ¬ x ≤ 0 → fx_X g M (pc + 3) lv st h Q mc ms) : fx_X g M pc lv (.int x :: st) h Q mc ms := by
  intro p e R s m args below meth c F H locs cells slots ls hR hL hc hs hl
  exact lv_if_le F.1 F.2.1 d ht (fun hcc => Kt hcc p e R s m args below meth c F H locs cells slots ls hR hL hc hs hl) (fun hcc => Kf hcc p e R s m args below meth c F H locs cells slots ls hR hL hc hs hl)
theorem fx_icmp_le {g : fx_G} {M : fx_M} {pc : Nat} {lv : List (Nat × Value)} {st : List Value} {h : fx_H} {Q : fx_O → fx_H → Prop} {mc ms : Nat} {x y : Int32} {off : Int} {tgt : Nat} (d : decode (fx_cc M) pc = .ok (.if_icmp .le off, 3)) (ht : (pc : Int) + off = (tgt : Int))
    (Kt : x ≤ y → fx_X g M tgt lv st h Q mc ms) (Kf : ¬ x ≤ y → fx_X g M (pc + 3) lv st h Q mc ms) : fx_X g M pc lv (.int y :: .int x :: st) h Q mc ms := by
  intro p e R s m args below meth c F H locs cells slots ls hR hL hc hs hl
  exact lv_icmp_le F.1 F.2.1 d ht (fun hcc => Kt hcc p e R s m args below meth c F H locs cells slots ls hR hL hc hs hl) (fun hcc => Kf hcc p e R s m args below meth c F H locs cells slots ls hR hL hc hs hl)
theorem fx_goto {g : fx_G} {M : fx_M} {pc : Nat} {lv : List (Nat × Value)} {st : List Value} {h : fx_H} {Q : fx_O → fx_H → Prop} {mc ms : Nat} {off : Int} {tgt : Nat} (d : decode (fx_cc M) pc = .ok (.goto off, 3)) (ht : (pc : Int) + off = (tgt : Int)) (K : fx_X g M tgt lv st h Q mc ms) : fx_X g M pc lv st h Q mc ms := by
  intro p e R s m args below meth c F H locs cells slots ls hR hL hc hs hl
  exact lv_goto F.1 F.2.1 d ht (K p e R s m args below meth c F H locs cells slots ls hR hL hc hs hl)
theorem fx_sub {g : fx_G} {M : fx_M} {pc : Nat} {lv : List (Nat × Value)} {st : List Value} {h : fx_H} {Q : fx_O → fx_H → Prop} {mc ms : Nat} (ks : List Nat) {lv' : List (Nat × Value)} (hv : lv_pick lv ks = lv') (K : fx_X g M pc lv' st h Q mc ms) : fx_X g M pc lv st h Q mc ms := by
  intro p e R s m args below meth c F H locs cells slots ls hR hL hc hs hl
  exact K p e R s m args below meth c F H locs cells slots ls hR hL hc hs (lv_sub hl ks hv)
end
section
/-! ===== fields and arrays ===== -/
/-- the own'th class's pool entry idx is the field k of the class ci; final or not -/
def fx_fw (own : String) (idx ci k : Nat) (fin : Bool) : Prop := ∃ (C : String) (T : u_T) (N : Nat) (ty : Nat → FieldType), fx_cl[ci]? = some (C, T, N) ∧ (∀ w ∈ u_ws C T N, w ∈ fx_tb) ∧ k < N ∧ Cond.fieldLink own idx (T k).1 (T k).2.1 (T k).2.2.1 ∈ fx_tb ∧
  (∀ j, j < N → parseFieldDescriptor (T j).2.2.1 = some (ty j)) ∧ (∀ a, a < N → ∀ b, b < N → a ≠ b → (T a).2.1 ≠ (T b).2.1) ∧ (T k).2.2.2 = fin ∧ (fin = true → (T k).1 = own) ∧ (fx_fk ci k = 0 → ty k = .int) ∧ (fx_fk ci k = 1 → ty k = .boolean) ∧ (fx_fk ci k = 2 → (ty k).isReference = true) ∧ fx_fk ci k < 3
def fx_fg (own : String) (idx ci k : Nat) : Prop := ∃ (C : String) (T : u_T) (N : Nat), fx_cl[ci]? = some (C, T, N) ∧ (∀ w ∈ u_ws C T N, w ∈ fx_tb) ∧ k < N ∧ Cond.fieldLink own idx (T k).1 (T k).2.1 (T k).2.2.1 ∈ fx_tb
theorem fx_fg_of {own : String} {idx ci k : Nat} {fin : Bool} (h : fx_fw own idx ci k fin) : fx_fg own idx ci k := by
  obtain ⟨C, T, N, ty, h1, h2, h3, h4, -⟩ := h
  exact ⟨C, T, N, h1, h2, h3, h4⟩
theorem fx_c_kept {g : fx_G} {h h' : fx_H} {H H' : Heap} {b : Nat} {x : Nat ⊕ (Nat × Nat)} (hc : fx_c g h H b x) (hi : ∀ k, fx_i h' b k = fx_i h b k) (hr : ∀ k, fx_r h' b k = fx_r h b k) (hH : H'[b]? = H[b]?) : fx_c g h' H' b x := by
  have e1 : fx_i h' b = fx_i h b := funext hi
  have e2 : fx_r h' b = fx_r h b := funext hr
  cases x with
  | inl ci =>
    obtain ⟨⟨r, h1, h2⟩, h3⟩ := hc
    have ev : fx_v h' ci b = fx_v h ci b := by
      funext k
      simp only [fx_v, hi, hr]
    refine ⟨⟨r, h1, ?_⟩, fun k hk => by rw [hi]; exact h3 k hk⟩
    rw [ev]
    exact h2.kept hH
  | inr q =>
    obtain ⟨ak, n⟩ := q
    obtain ⟨h1, h2⟩ := hc
    have ea : fx_ar h' b ak = fx_ar h b ak := by
      unfold fx_ar
      rw [e1, e2]
    exact ⟨by rw [hH, ea]; exact h1, fun hk k => by rw [hi]; exact h2 hk k⟩
theorem fx_R_upd {g : fx_G} {h h' : fx_H} {H H' : Heap} {a : Nat} (hR : fx_R g h H) (hn : fx_n h' = fx_n h) (hs : ∀ b, fx_s h' b = fx_s h b) (hi : ∀ b, b ≠ a → ∀ k, fx_i h' b k = fx_i h b k) (hr : ∀ b, b ≠ a → ∀ k, fx_r h' b k = fx_r h b k)
    (hb : fx_b g ≤ a) (e2 : H'.size = H.size) (e3 : ∀ q, q ≠ a → H'[q]? = H[q]?) (hx : ∀ x, fx_s h a = some x → fx_c g h' H' a x) : fx_R g h' H' := by
  obtain ⟨r1, r2, r3, r4⟩ := hR
  refine ⟨by rw [e2, hn]; exact r1, by rw [hn]; exact r2, fun q hq => ?_, fun b x hbx => ?_⟩
  · rw [e3 q (Nat.ne_of_lt (Nat.lt_of_lt_of_le hq hb))]
    exact r3 q hq
  · rw [hs] at hbx
    obtain ⟨k1, k2, k3⟩ := r4 b x hbx
    refine ⟨k1, by rw [hn]; exact k2, ?_⟩
    by_cases hba : b = a
    · subst hba
      exact hx x hbx
    · exact fx_c_kept k3 (hi b hba) (hr b hba) (e3 b hba)
theorem fx_R_new {g : fx_G} {h : fx_H} {H H' : Heap} {x : Nat ⊕ (Nat × Nat)} (hR : fx_R g h H) (e2 : H'.size = H.size + 1) (e3 : ∀ q, q < H.size → H'[q]? = H[q]?) (hx : fx_c g (fx_nw h x) H' (fx_n h) x) : fx_R g (fx_nw h x) H' := by
  obtain ⟨r1, r2, r3, r4⟩ := hR
  refine ⟨by rw [e2, r1]; rfl, Nat.le_trans r2 (Nat.le_succ _), fun q hq => ?_, fun b y hby => ?_⟩
  · rw [e3 q (by rw [r1]; exact Nat.lt_of_lt_of_le hq r2)]
    exact r3 q hq
  · rw [fx_s_nw] at hby
    by_cases hb : b = fx_n h
    · rw [if_pos hb] at hby
      cases hby
      subst hb
      exact ⟨r2, Nat.lt_succ_self _, hx⟩
    · rw [if_neg hb] at hby
      obtain ⟨k1, k2, k3⟩ := r4 b y hby
      refine ⟨k1, Nat.lt_succ_of_lt k2, fx_c_kept k3 (fun k => ?_) (fun k => ?_) (e3 b (by rw [r1]; exact k2))⟩
      · rw [fx_i_nw, if_neg hb]
      · rw [fx_r_nw, if_neg hb]
theorem fx_R_skip {g : fx_G} {h : fx_H} {H H' : Heap} {n : Nat} (hR : fx_R g h H) (e2 : H'.size = H.size + n) (e3 : ∀ q, q < H.size → H'[q]? = H[q]?) : fx_R g (fx_sk h n) H' := by
  obtain ⟨r1, r2, r3, r4⟩ := hR
  refine ⟨by rw [e2, r1]; rfl, Nat.le_trans r2 (Nat.le_add_right _ _), fun q hq => ?_, fun b y hby => ?_⟩
  · rw [e3 q (by rw [r1]; exact Nat.lt_of_lt_of_le hq r2)]
    exact r3 q hq
  · obtain ⟨k1, k2, k3⟩ := r4 b y hby
    exact ⟨k1, Nat.lt_of_lt_of_le k2 (Nat.le_add_right _ _), fx_c_kept k3 (fun _ => rfl) (fun _ => rfl) (e3 b (by rw [r1]; exact k2))⟩
section FXH
variable {g : fx_G} {M : fx_M} {pc : Nat} {lv : List (Nat × Value)} {st : List Value} {h : fx_H} {Q : fx_O → fx_H → Prop} {mc ms : Nat}
theorem fx_getv (ok : fx_ok g) {idx ci a k : Nat} (hf : fx_fg (fx_y M).cls idx ci k) (hs : fx_s h a = some (.inl ci)) (d : decode (fx_cc M) pc = .ok (.getfield idx, 3)) (K : fx_X g M (pc + 3) lv (fx_v h ci a k :: st) h Q mc ms) : fx_X g M pc lv (.ref a :: st) h Q mc ms := by
  intro p e R s m args below meth c F H locs cells slots ls hR hL hc hs' hl
  obtain ⟨C, T, N, hcl, hin, hk, hlk⟩ := hf
  have hW := F.2.2.2.2.2.1
  obtain ⟨⟨r, h1, cell, q1, q2, q3, q4⟩, -⟩ := (hR.2.2.2 a _ hs).2.2
  have hr : r = (C, T, N) := Option.some.inj (h1.symm.trans hcl)
  subst hr
  have hts : ∀ w ∈ u_ws C T N, w.before args s = true := fun w hw => fx_word ok (hin w hw) (fx_lay hw) hW
  obtain ⟨hS, hfc, kC, hkC, hkind⟩ := fx_Kn ok hW hcl
  obtain ⟨cf, kf, fi, f, hi, hsl⟩ := hS k hk
  refine W.getf F.1 F.2.1 F.2.2.2.2.2.2.1 (fx_word ok hlk rfl hW) hi (u_facts hfc hkC (u_lays hts (fun w hw => hw) hk) hi).1 q1 (by rw [q3]; exact fun h => by cases h) (v := fx_v h ci a k) ?_ rfl rfl d (K p e R s m args below meth c F H locs cells slots ls hR hL hc hs' hl)
  rw [hsl, q4 k hk]
theorem fx_geti (ok : fx_ok g) {idx ci a k : Nat} (hf : fx_fg (fx_y M).cls idx ci k) (hs : fx_s h a = some (.inl ci)) (d : decode (fx_cc M) pc = .ok (.getfield idx, 3)) (hk : fx_fk ci k ≠ 2) (K : fx_X g M (pc + 3) lv (.int (fx_i h a k) :: st) h Q mc ms) : fx_X g M pc lv (.ref a :: st) h Q mc ms := by
  refine fx_getv ok hf hs d ?_
  rw [fx_v, if_neg hk]
  exact K
theorem fx_getr (ok : fx_ok g) {idx ci a k b : Nat} (hf : fx_fg (fx_y M).cls idx ci k) (hs : fx_s h a = some (.inl ci)) (d : decode (fx_cc M) pc = .ok (.getfield idx, 3)) (hk : fx_fk ci k = 2) (hb : fx_r h a k = some b) (K : fx_X g M (pc + 3) lv (.ref b :: st) h Q mc ms) : fx_X g M pc lv (.ref a :: st) h Q mc ms := by
  refine fx_getv ok hf hs d ?_
  rw [fx_v, if_pos hk, hb]
  exact K
/-- a store into a field, in general: h' says what is there then -/
theorem fx_putv (ok : fx_ok g) {idx ci a k : Nat} {fin : Bool} {v : Value} {h' : fx_H} (hf : fx_fw (fx_y M).cls idx ci k fin) (hs : fx_s h a = some (.inl ci)) (hfin : fin = true → (fx_y M).name = "<init>") (d : decode (fx_cc M) pc = .ok (.putfield idx, 3))
    (hty : ∀ ty : FieldType, (fx_fk ci k = 0 → ty = .int) → (fx_fk ci k = 1 → ty = .boolean) → (fx_fk ci k = 2 → ty.isReference = true) → narrow ty v = v ∧ fits ty v = true)
    (hn' : fx_n h' = fx_n h) (hs' : ∀ b, fx_s h' b = fx_s h b) (hi' : ∀ b, b ≠ a → ∀ j, fx_i h' b j = fx_i h b j) (hr' : ∀ b, b ≠ a → ∀ j, fx_r h' b j = fx_r h b j) (hv : fx_v h' ci a k = v) (hv' : ∀ j, j ≠ k → fx_v h' ci a j = fx_v h ci a j) (hb' : (∀ j, fx_fk ci j = 1 → fx_i h a j = 0 ∨ fx_i h a j = 1) → ∀ j, fx_fk ci j = 1 → fx_i h' a j = 0 ∨ fx_i h' a j = 1)
    (K : fx_X g M (pc + 3) lv st h' Q mc ms) : fx_X g M pc lv (v :: .ref a :: st) h Q mc ms := by
  intro p e R s m args below meth c F H locs cells slots ls hR hL hc hs9 hl
  obtain ⟨C, T, N, ty, hcl, hin, hk, hlk, hty0, hnm, hfl, hdecl, ht0, ht1, ht2, -⟩ := hf
  have hW := F.2.2.2.2.2.1
  obtain ⟨hba, -, hcell⟩ := hR.2.2.2 a _ hs
  obtain ⟨⟨r, h1, cell, q1, q2, q3, q4⟩, hbool⟩ := hcell
  have hr : r = (C, T, N) := Option.some.inj (h1.symm.trans hcl)
  subst hr
  have hts : ∀ w ∈ u_ws C T N, w.before args s = true := fun w hw => fx_word ok (hin w hw) (fx_lay hw) hW
  have hKn := fx_Kn ok hW hcl
  have hap : ∀ x y, x < N → y < N → x ≠ y → ((fx_D g).2 ci) x ≠ ((fx_D g).2 ci) y := by
    intro x y hx hy hne
    obtain ⟨_, _, _, fa, hia, ea⟩ := hKn.1 x hx
    obtain ⟨_, _, _, fb, hib, eb⟩ := hKn.1 y hy
    rw [← ea, ← eb]
    refine u_apart (u_lays hts (fun w hw => hw) hx) (u_lays hts (fun w hw => hw) hy) hia hib ?_
    rw [(State.fieldFound?_type hia (hty0 x hx)).1, (State.fieldFound?_type hib (hty0 y hy)).1]
    exact hnm x hx y hy hne
  obtain ⟨hS, hfc, kC, hkC, hkind⟩ := hKn
  obtain ⟨cf, kf, fi, f, hi, hsl⟩ := hS k hk
  obtain ⟨hnar, hfit⟩ := hty (ty k) ht0 ht1 ht2
  have hlay := hts _ (u_in_lay hk)
  unfold u_lay at hlay
  have hst := (u_facts hfc hkC (u_lays hts (fun w hw => hw) hk) hi).1
  have fin9 : ∀ H' : Heap, H'[a]? = some (cell.setSlot f.slot v) → H'.size = H.size → (∀ q, q ≠ a → H'[q]? = H[q]?) → W p (fx_l g) e R s m args below meth c H' (locs ++ [⟨a, f.slot⟩]) cells slots (fx_E g Q R s below) (F0 m (pc + 3) ls st) := by
    intro H' e1 e2 e3
    refine K p e R s m args below meth c F H' _ cells slots ls ?_ (t_lc hL hba) hc hs9 hl
    refine fx_R_upd hR hn' hs' hi' hr' hba e2 e3 (fun x hx => ?_)
    cases hs.symm.trans hx
    rw [hsl] at e1
    refine ⟨⟨(C, T, N), hcl, t_OB.to (V := updV (fx_v h ci a) k v) ⟨_, e1, q2, q3, t_set q4 hap hk v⟩ (fun j _ => ?_)⟩, hb' hbool⟩
    by_cases hj : j = k
    · subst hj
      simp only [updV, if_pos]
      exact hv.symm
    · simp only [updV, if_neg hj]
      exact (hv' j hj).symm
  cases fin with
  | false =>
    rw [if_neg (by rw [hfl]; decide)] at hlay
    have h6 := u_store hfc hkC hkind hlay hi (hty0 k hk) hnar hfit
    exact W.putK F.1 F.2.1 (f := f) ⟨F.2.2.2.2.2.2.1, fx_word ok hlk rfl hW, ⟨_, _, _, hi⟩, hst⟩ (by rw [q2]; exact h6) q1 q3 (by rw [hsl]; exact k2_hasslot (q4 k hk)) rfl rfl d fin9
  | true =>
    rw [if_pos hfl] at hlay
    have hcf : m.cls = cf := by
      obtain ⟨_, _, c', _, _, _, -, -, hf', -, -, -, hown2, -⟩ := Cond.laysFinal_spec hlay
      have e1 : c' = cf := by have := hi.symm.trans hf'; simp at this; exact this.1.symm
      rw [hdecl rfl] at hown2
      rw [← e1]; exact Option.some.inj (F.2.2.2.2.2.2.1.symm.trans hown2)
    have h6 := u_fits hfc hkC hkind (Or.inr hlay) hi (hty0 k hk) hnar hfit
    exact W.putFinK F.1 F.2.1 F.2.2.2.2.2.2.1 (fx_word ok hlk rfl hW) hi hst hcf (F.2.2.2.2.2.2.2.1.trans (hfin rfl)) (by rw [q2]; exact h6) q1 q3 (by rw [hsl]; exact k2_hasslot (q4 k hk)) rfl rfl d fin9
theorem fx_nb {x : Int32} (h : x = 0 ∨ x = 1) : narrow .boolean (.int x) = .int x ∧ fits .boolean (.int x) = true := by
  rcases h with rfl | rfl <;> decide
theorem fx_puti (ok : fx_ok g) {idx ci a k : Nat} {fin : Bool} {x : Int32} (hf : fx_fw (fx_y M).cls idx ci k fin) (hs : fx_s h a = some (.inl ci)) (hfin : fin = true → (fx_y M).name = "<init>") (d : decode (fx_cc M) pc = .ok (.putfield idx, 3)) (hk : fx_fk ci k = 0 ∨ (fx_fk ci k = 1 ∧ (x = 0 ∨ x = 1)))
    (K : fx_X g M (pc + 3) lv st (fx_wi h a k x) Q mc ms) : fx_X g M pc lv (.int x :: .ref a :: st) h Q mc ms := by
  have hk2 : fx_fk ci k ≠ 2 := by omega
  refine fx_putv ok (h' := fx_wi h a k x) hf hs hfin d (fun ty t0 t1 _ => ?_) rfl (fun _ => rfl) (fun b hb j => ?_) (fun _ _ _ => rfl) ?_ (fun j hj => ?_) (fun hb j hj => ?_) K
  · rcases hk with hk | ⟨hk, hx⟩
    · rw [t0 hk]
      exact ⟨rfl, rfl⟩
    · rw [t1 hk]
      exact fx_nb hx
  · rw [fx_i_wi, if_neg (fun z => hb z.1)]
  · rw [fx_v, if_neg hk2, fx_i_wi, if_pos ⟨rfl, rfl⟩]
  · have e9 : fx_i (fx_wi h a k x) a j = fx_i h a j := by rw [fx_i_wi, if_neg (fun z => hj z.2)]
    simp only [fx_v, e9, fx_r_wi]
  · rw [fx_i_wi]
    by_cases hjk : j = k
    · rw [if_pos ⟨rfl, hjk⟩]
      subst hjk
      rcases hk with hk | ⟨_, hx⟩
      · omega
      · exact hx
    · rw [if_neg (fun z => hjk z.2)]
      exact hb j hj
theorem fx_putr (ok : fx_ok g) {idx ci a k b : Nat} {fin : Bool} (hf : fx_fw (fx_y M).cls idx ci k fin) (hs : fx_s h a = some (.inl ci)) (hfin : fin = true → (fx_y M).name = "<init>") (d : decode (fx_cc M) pc = .ok (.putfield idx, 3)) (hk : fx_fk ci k = 2)
    (K : fx_X g M (pc + 3) lv st (fx_wr h a k (some b)) Q mc ms) : fx_X g M pc lv (.ref b :: .ref a :: st) h Q mc ms := by
  refine fx_putv ok (h' := fx_wr h a k (some b)) hf hs hfin d (fun ty _ _ t2 => ?_) rfl (fun _ => rfl) (fun _ _ _ => rfl) (fun b hb j => ?_) ?_ (fun j hj => ?_) (fun hb j hj => hb j hj) K
  · have := t2 hk
    cases ty <;> first | exact ⟨rfl, rfl⟩ | cases this
  · rw [fx_r_wr, if_neg (fun z => hb z.1)]
  · rw [fx_v, if_pos hk, fx_r_wr, if_pos ⟨rfl, rfl⟩]
    rfl
  · have e9 : fx_r (fx_wr h a k (some b)) a j = fx_r h a j := by rw [fx_r_wr, if_neg (fun z => hj z.2)]
    simp only [fx_v, e9, fx_i_wr]
theorem fx_in {i : Int32} {n : Nat} (hin : vp_in i n) : i.toNatClampNeg < n := Nat.not_le.mp fun q => hin (Or.inr q)
theorem fx_iaload (ok : fx_ok g) {a n : Nat} {i : Int32} (hs : fx_s h a = some (.inr (0, n))) (hin : vp_in i n) (d : decode (fx_cc M) pc = .ok (.iaload, 1)) (K : fx_X g M (pc + 1) lv (.int (fx_i h a i.toNatClampNeg) :: st) h Q mc ms) : fx_X g M pc lv (.int i :: .ref a :: st) h Q mc ms := by
  intro p e R s m args below meth c F H locs cells slots ls hR hL hc hs' hl
  obtain ⟨hcell, -⟩ := (hR.2.2.2 a _ hs).2.2
  exact W.iald (v := .int (fx_i h a i.toNatClampNeg)) F.1 F.2.1 hcell ((fx_Ty ok F.2.2.2.2.2.1 (ak := 0) rfl).1 n (fun j => .int (fx_i h a j))) (fun q => by cases q) (by show ¬ (i < 0 ∨ (arrV _ _ _).slots.size ≤ _); rw [arrV_size]; exact hin) (by show (arrV _ _ _).slots[_]? = _; rw [arrV_read _ _ (fx_in hin)]) rfl rfl d (K p e R s m args below meth c F H locs cells slots ls hR hL hc hs' hl)
theorem fx_baload (ok : fx_ok g) {a n : Nat} {i : Int32} (hs : fx_s h a = some (.inr (1, n))) (hin : vp_in i n) (d : decode (fx_cc M) pc = .ok (.baload, 1)) (K : fx_X g M (pc + 1) lv (.int (fx_i h a i.toNatClampNeg) :: st) h Q mc ms) : fx_X g M pc lv (.int i :: .ref a :: st) h Q mc ms := by
  intro p e R s m args below meth c F H locs cells slots ls hR hL hc hs' hl
  obtain ⟨hcell, -⟩ := (hR.2.2.2 a _ hs).2.2
  exact W.zald (v := .int (fx_i h a i.toNatClampNeg)) F.1 F.2.1 hcell ((fx_Ty ok F.2.2.2.2.2.1 (ak := 1) rfl).1 n (fun j => .int (fx_i h a j))) (fun q => by cases q) (by show ¬ (i < 0 ∨ (arrV _ _ _).slots.size ≤ _); rw [arrV_size]; exact hin) (by show (arrV _ _ _).slots[_]? = _; rw [arrV_read _ _ (fx_in hin)]) rfl rfl d (K p e R s m args below meth c F H locs cells slots ls hR hL hc hs' hl)
theorem fx_laload (ok : fx_ok g) {a n : Nat} {i : Int32} (hs : fx_s h a = some (.inr (2, n))) (hin : vp_in i n) (d : decode (fx_cc M) pc = .ok (.laload, 1)) (K : fx_X g M (pc + 1) lv (.long (fx_i h a i.toNatClampNeg).toInt64 :: st) h Q mc ms) : fx_X g M pc lv (.int i :: .ref a :: st) h Q mc ms := by
  intro p e R s m args below meth c F H locs cells slots ls hR hL hc hs' hl
  obtain ⟨hcell, -⟩ := (hR.2.2.2 a _ hs).2.2
  exact W.lald (v := .long (fx_i h a i.toNatClampNeg).toInt64) F.1 F.2.1 hcell ((fx_Ty ok F.2.2.2.2.2.1 (ak := 2) rfl).1 n (fun j => .long (fx_i h a j).toInt64)) (fun q => by cases q) (by show ¬ (i < 0 ∨ (arrV _ _ _).slots.size ≤ _); rw [arrV_size]; exact hin) (by show (arrV _ _ _).slots[_]? = _; rw [arrV_read _ _ (fx_in hin)]) rfl rfl d (K p e R s m args below meth c F H locs cells slots ls hR hL hc hs' hl)
theorem fx_aaload (ok : fx_ok g) {a n ak b : Nat} {ty : FieldType} {i : Int32} (hs : fx_s h a = some (.inr (ak, n))) (hak : 3 ≤ ak) (hty : fx_tys[ak]? = some ty) (hrf : ty.isReference = true) (hin : vp_in i n) (hb : fx_r h a i.toNatClampNeg = some b) (d : decode (fx_cc M) pc = .ok (.aaload, 1)) (K : fx_X g M (pc + 1) lv (.ref b :: st) h Q mc ms) : fx_X g M pc lv (.int i :: .ref a :: st) h Q mc ms := by
  intro p e R s m args below meth c F H locs cells slots ls hR hL hc hs' hl
  obtain ⟨hcell, -⟩ := (hR.2.2.2 a _ hs).2.2
  have ea : fx_ar h a ak = .inr (.inr (.inr (.inr (fx_r h a)))) := by
    rw [fx_ar, if_neg (by omega), if_neg (by omega)]
  rw [ea] at hcell
  exact W.aald (v := .ref b) F.1 F.2.1 hcell ((fx_Ty ok F.2.2.2.2.2.1 hty).1 n (fun j => va_rf (fx_r h a j))) hrf (fun q => by cases q) (by show ¬ (i < 0 ∨ (arrV _ _ _).slots.size ≤ _); rw [arrV_size]; exact hin) (by show (arrV _ _ _).slots[_]? = _; rw [arrV_read _ _ (fx_in hin), hb]; rfl) rfl rfl d (K p e R s m args below meth c F H locs cells slots ls hR hL hc hs' hl)
theorem fx_alen (ok : fx_ok g) {a n ak : Nat} {ty : FieldType} {v : Int32} (hs : fx_s h a = some (.inr (ak, n))) (hty : fx_tys[ak]? = some ty) (hv : Int32.ofNat n = v) (d : decode (fx_cc M) pc = .ok (.arraylength, 1)) (K : fx_X g M (pc + 1) lv (.int v :: st) h Q mc ms) : fx_X g M pc lv (.ref a :: st) h Q mc ms := by
  intro p e R s m args below meth c F H locs cells slots ls hR hL hc hs' hl
  subst hv
  obtain ⟨hcell, -⟩ := (hR.2.2.2 a _ hs).2.2
  have h1 := (fx_Ty ok F.2.2.2.2.2.1 hty).1 n
  have hk := K p e R s m args below meth c F H locs cells slots ls hR hL hc hs' hl
  rcases hx : fx_ar h a ak with f | f | f | f | f
  · rw [hx, vp_cell_i] at hcell
    exact W.alen (n := Int32.ofNat n) F.1 F.2.1 hcell (h1 _) (by rw [arrV_size] <;> rfl) rfl rfl d hk
  · rw [hx, vp_cell_l] at hcell
    exact W.alen (n := Int32.ofNat n) F.1 F.2.1 hcell (h1 _) (by rw [arrV_size] <;> rfl) rfl rfl d hk
  · rw [hx, vp_cell_f] at hcell
    exact W.alen (n := Int32.ofNat n) F.1 F.2.1 hcell (h1 _) (by rw [arrV_size] <;> rfl) rfl rfl d hk
  · rw [hx, vp_cell_d] at hcell
    exact W.alen (n := Int32.ofNat n) F.1 F.2.1 hcell (h1 _) (by rw [arrV_size] <;> rfl) rfl rfl d hk
  · rw [hx, vp_cell_q] at hcell
    exact W.alen (n := Int32.ofNat n) F.1 F.2.1 hcell (h1 _) (by rw [arrV_size] <;> rfl) rfl rfl d hk
/-- an array's cell behind a store of an int -/
theorem fx_R_ast {H H' : Heap} {a n j : Nat} {x : Int32} {ak : Nat} (hR : fx_R g h H) (hs : fx_s h a = some (.inr (ak, n))) (hak : ak < 2) (hx : ak = 1 → x = 0 ∨ x = 1) (e1 : H'[a]? = some ((arrV (fx_dA g ak) n (fun i => .int (fx_i h a i))).setSlot j (.int x))) (e2 : H'.size = H.size) (e3 : ∀ q, q ≠ a → H'[q]? = H[q]?) : fx_R g (fx_wi h a j x) H' := by
  obtain ⟨hba, -, -, hbool⟩ := hR.2.2.2 a _ hs
  refine fx_R_upd hR rfl (fun _ => rfl) (fun b hb k => ?_) (fun _ _ _ => rfl) hba e2 e3 (fun y hy => ?_)
  · rw [fx_i_wi, if_neg (fun z => hb z.1)]
  · cases hs.symm.trans hy
    have ei : ∀ k, fx_i (fx_wi h a j x) a k = if k = j then x else fx_i h a k := by
      intro k
      rw [fx_i_wi]
      by_cases hk : k = j
      · rw [if_pos ⟨rfl, hk⟩, if_pos hk]
      · rw [if_neg (fun z => hk z.2), if_neg hk]
    refine ⟨?_, fun h1 k => ?_⟩
    · rw [e1, fx_ar, if_pos hak, vp_cell_i, arrV_store]
      congr 2
      funext k
      rw [ei]
      by_cases hk : k = j
      · simp [updV, hk]
      · simp [updV, hk]
    · rw [ei]
      by_cases hk : k = j
      · rw [if_pos hk]; exact hx h1
      · rw [if_neg hk]; exact hbool h1 k
theorem fx_iastore (ok : fx_ok g) {a n : Nat} {i x : Int32} (hs : fx_s h a = some (.inr (0, n))) (hin : vp_in i n) (d : decode (fx_cc M) pc = .ok (.iastore, 1)) (K : fx_X g M (pc + 1) lv st (fx_wi h a i.toNatClampNeg x) Q mc ms) : fx_X g M pc lv (.int x :: .int i :: .ref a :: st) h Q mc ms := by
  intro p e R s m args below meth c F H locs cells slots ls hR hL hc hs' hl
  obtain ⟨hba, -, hcell, -⟩ := hR.2.2.2 a _ hs
  refine W.iast F.1 F.2.1 hcell ((fx_Ty ok F.2.2.2.2.2.1 (ak := 0) rfl).1 n (fun j => .int (fx_i h a j))) (fun q => by cases q) (by show ¬ (i < 0 ∨ (arrV _ _ _).slots.size ≤ _); rw [arrV_size]; exact hin) rfl rfl d fun H1 e1 z oq => ?_
  exact K p e R s m args below meth c F H1 _ cells slots ls (fx_R_ast hR hs (by decide) (fun q => by cases q) e1 z oq) (t_lc hL hba) hc hs' hl
theorem fx_bastore (ok : fx_ok g) {a n : Nat} {i x : Int32} (hs : fx_s h a = some (.inr (1, n))) (hx : x = 0 ∨ x = 1) (hin : vp_in i n) (d : decode (fx_cc M) pc = .ok (.bastore, 1)) (K : fx_X g M (pc + 1) lv st (fx_wi h a i.toNatClampNeg x) Q mc ms) : fx_X g M pc lv (.int x :: .int i :: .ref a :: st) h Q mc ms := by
  intro p e R s m args below meth c F H locs cells slots ls hR hL hc hs' hl
  obtain ⟨hba, -, hcell, -⟩ := hR.2.2.2 a _ hs
  refine W.zast F.1 F.2.1 hcell ((fx_Ty ok F.2.2.2.2.2.1 (ak := 1) rfl).1 n (fun j => .int (fx_i h a j))) (fun q => by cases q) (by show ¬ (i < 0 ∨ (arrV _ _ _).slots.size ≤ _); rw [arrV_size]; exact hin) rfl rfl d fun H1 e1 z oq => ?_
  rw [(fx_nb hx).1] at e1
  exact K p e R s m args below meth c F H1 _ cells slots ls (fx_R_ast hR hs (by decide) (fun _ => hx) e1 z oq) (t_lc hL hba) hc hs' hl
theorem fx_lastore (ok : fx_ok g) {a n : Nat} {i x : Int32} (hs : fx_s h a = some (.inr (2, n))) (hin : vp_in i n) (d : decode (fx_cc M) pc = .ok (.lastore, 1)) (K : fx_X g M (pc + 1) lv st (fx_wi h a i.toNatClampNeg x) Q mc ms) : fx_X g M pc lv (.long x.toInt64 :: .int i :: .ref a :: st) h Q mc ms := by
  intro p e R s m args below meth c F H locs cells slots ls hR hL hc hs' hl
  obtain ⟨hba, -, hcell, -⟩ := hR.2.2.2 a _ hs
  refine W.last F.1 F.2.1 hcell ((fx_Ty ok F.2.2.2.2.2.1 (ak := 2) rfl).1 n (fun j => .long (fx_i h a j).toInt64)) (fun q => by cases q) (by show ¬ (i < 0 ∨ (arrV _ _ _).slots.size ≤ _); rw [arrV_size]; exact hin) rfl rfl d fun H1 e1 z oq => ?_
  refine K p e R s m args below meth c F H1 _ cells slots ls (fx_R_upd hR rfl (fun _ => rfl) (fun b hb k => ?_) (fun _ _ _ => rfl) hba z oq (fun y hy => ?_)) (t_lc hL hba) hc hs' hl
  · rw [fx_i_wi, if_neg (fun z => hb z.1)]
  · cases hs.symm.trans hy
    refine ⟨?_, fun q => by cases q⟩
    rw [e1]
    show some ((arrV (fx_dA g 2) n (fun j => .long (fx_i h a j).toInt64)).setSlot _ _) = some (arrV (fx_dA g 2) n (fun j => .long (fx_i (fx_wi h a i.toNatClampNeg x) a j).toInt64))
    rw [arrV_store]
    congr 2
    funext k
    rw [fx_i_wi]
    by_cases hk : k = i.toNatClampNeg
    · simp [updV, hk]
    · simp [updV, hk]
end FXH
end
section
/-! ===== how a method ends; calls ===== -/
section FXC
variable {g : fx_G} {M M' : fx_M} {pc : Nat} {lv : List (Nat × Value)} {st : List Value} {h : fx_H} {Q : fx_O → fx_H → Prop} {mc ms : Nat}
theorem fx_of_MQ {p : Program} {e : Env} {R : Room} {s : State} {m : MethodId} {args : Array Value} {below : List Frame} {meth : Method} {c : Code} {H : Heap} {locs : List Loc} {cells slots : Nat} {gf : JFrame}
    (hw : W p (fx_l g) e R s m args below meth c H locs R.cells R.slots (MQ below (fun _ U o t => ∃ (o' : fx_O) (h' : fx_H), Q o' h' ∧ fx_R g h' t.heap ∧ fx_oc U t o o') args s R.cells R.slots (fun q => fx_b g ≤ q)) gf) (hc : cells ≤ R.cells) (hs : slots ≤ R.slots) :
    W p (fx_l g) e R s m args below meth c H locs cells slots (fx_E g Q R s below) gf := by
  intro T hT X
  obtain ⟨t, st, o, h1, h2, h3, L, ⟨h4, h5, h6⟩, h7⟩ := W.widen hc hs hw T hT X
  exact ⟨t, st, o, h1, h2, L, h5, h6, h7, h3⟩
theorem fx_ireturn {x : Int32} (hr : fx_rt M = some .int) (d : decode (fx_cc M) pc = .ok (.ireturn, 1)) (hq : Q (.inl (some x)) h) : fx_X g M pc lv [.int x] h Q mc ms := by
  intro p e R s m args below meth c F H locs cells slots ls hR hL hc hs hl
  exact fx_of_MQ (W.iret F.1 F.2.1 (F.2.2.2.1.trans hr) (fun t ht _ => ⟨.inl (some x), h, hq, by rw [ht]; exact hR, rfl⟩) hL d F.2.2.2.2.1) (Nat.le_trans (Nat.le_add_right _ _) hc) (Nat.le_trans (Nat.le_add_right _ _) hs)
theorem fx_zreturn {x : Int32} (hr : fx_rt M = some .boolean) (hx : x = 0 ∨ x = 1) (d : decode (fx_cc M) pc = .ok (.ireturn, 1)) (hq : Q (.inl (some x)) h) : fx_X g M pc lv [.int x] h Q mc ms := by
  intro p e R s m args below meth c F H locs cells slots ls hR hL hc hs hl
  exact fx_of_MQ (W.zret F.1 F.2.1 (F.2.2.2.1.trans hr) (fx_nb hx).1 (fun t ht _ => ⟨.inl (some x), h, hq, by rw [ht]; exact hR, rfl⟩) hL d F.2.2.2.2.1) (Nat.le_trans (Nat.le_add_right _ _) hc) (Nat.le_trans (Nat.le_add_right _ _) hs)
theorem fx_vreturn (hr : fx_rt M = none) (d : decode (fx_cc M) pc = .ok (.return_, 1)) (hq : Q (.inl none) h) : fx_X g M pc lv [] h Q mc ms := by
  intro p e R s m args below meth c F H locs cells slots ls hR hL hc hs hl
  exact fx_of_MQ (W.vret F.1 F.2.1 (F.2.2.2.1.trans hr) (fun t ht _ => ⟨.inl none, h, hq, by rw [ht]; exact hR, rfl⟩) hL d F.2.2.2.2.1) (Nat.le_trans (Nat.le_add_right _ _) hc) (Nat.le_trans (Nat.le_add_right _ _) hs)
theorem fx_ldc (ok : fx_ok g) {idx : Nat} {v : Int32} (hk : Cond.constant (fx_y M).cls idx v ∈ fx_tb) (d : decode (fx_cc M) pc = .ok (.ldc idx, 2)) (K : fx_X g M (pc + 2) lv (.int v :: st) h Q mc ms) : fx_X g M pc lv st h Q mc ms := by
  intro p e R s m args below meth c F H locs cells slots ls hR hL hc hs hl
  exact W.ldc F.1 F.2.1 F.2.2.2.2.2.2.1 (fx_word ok hk (by first | rfl | simp [goodWord, Cond.onTables, Cond.keeps, Cond.steady]) F.2.2.2.2.2.1) rfl d (K p e R s m args below meth c F H locs cells slots ls hR hL hc hs hl)
theorem fx_lcmp {x y : Int64} (d : decode (fx_cc M) pc = .ok (.lcmp, 1)) (K : fx_X g M (pc + 1) lv (.int (lg_cmp x y) :: st) h Q mc ms) : fx_X g M pc lv (.long y :: .long x :: st) h Q mc ms := by
  intro p e R s m args below meth c F H locs cells slots ls hR hL hc hs hl
  exact W.lcmp F.1 F.2.1 d (K p e R s m args below meth c F H locs cells slots ls hR hL hc hs hl)
/-- an exception of the class E has come over the frame of M at pc -/
def fx_T (g : fx_G) (M : fx_M) (pc : Nat) (lv : List (Nat × Value)) (E : String) (h : fx_H) (Q : fx_O → fx_H → Prop) (mc ms : Nat) : Prop :=
  ∀ (p : Program) (e : Env) (R : Room) (s : State) (m : MethodId) (args : Array Value) (below : List Frame) (meth : Method) (c : Code), fx_F g M p R s m meth c →
  ∀ (H : Heap) (locs : List Loc) (cells slots : Nat) (ls : Array Slot) (rest : List Value) (q : Addr) (ce : Cell), fx_R g h H → (∀ z ∈ locs, fx_b g ≤ z.base) → cells + mc ≤ R.cells → slots + ms ≤ R.slots → lv_has ls (fx_ml M) lv →
  H[q]? = some ce → ce.vm = .none → s.vm.findClass E = some ce.cls → ∀ T : State, T.heap = H → Stand p (fx_l g) e R s m args below meth c T locs cells slots →
  ∃ t, Steps p.tables e below ((T.setTop (F0 m pc ls rest)).pushFrame (.throwing q)) t ∧ fx_E g Q R s below t
theorem fx_T_out {E : String} (hh : fx_hd M = []) (hq : Q (.inr E) h) : fx_T g M pc lv E h Q mc ms := by
  intro p e R s m args below meth c F H locs cells slots ls rest q ce hR hL hc hs hl hce hv hcl T hT X
  have hrows : fx_rows c = [] := F.2.2.2.2.2.2.2.2.1.trans hh
  have hout : ∀ x ∈ c.exceptionTable.toList, covers x pc = false := by
    intro x hx
    have h9 : (x.startPc, x.endPc, x.handlerPc, x.catchType) ∈ fx_rows c := List.mem_map.mpr ⟨x, hx, rfl⟩
    rw [hrows] at h9
    exact nomatch h9
  obtain ⟨st1, hrun, hend, hW, hsm⟩ := X.leaveThrown q (g := F0 m pc ls rest) rfl rfl rfl hout F.2.2.2.2.1
  refine ⟨_, st1, .threw q, hrun, hend, locs, hW, hsm.mono (Nat.le_trans (Nat.le_add_right _ _) hc) (Nat.le_trans (Nat.le_add_right _ _) hs), hL, .inr E, h, hq, ?_, q, ce, rfl, ?_, hv, hcl⟩
  · show fx_R g h T.heap
    rw [hT]; exact hR
  · show T.heap[q]? = some ce
    rw [hT]; exact hce
/-- the instruction at pc calls M' with as, and leaves rest of the stack st -/
def fx_Site (g : fx_G) (M M' : fx_M) (pc : Nat) (h : fx_H) (as rest st : List Value) : Prop :=
  ∀ (p : Program) (e : Env) (R : Room) (s : State) (m : MethodId) (args : Array Value) (below : List Frame) (meth : Method) (c : Code), fx_F g M p R s m meth c →
  ∀ (H : Heap) (locs : List Loc) (cells slots : Nat) (ls : Array Slot), fx_R g h H → ls.size = c.maxLocals → ∀ T : State, T.heap = H → Stand p (fx_l g) e R s m args below meth c T locs cells slots →
  ∃ (vm₁ : Vm) (mk : MethodId) (ig : Instr), Stand p (fx_l g) e R s m args below meth c (T.setVm vm₁) locs cells slots ∧ (T.setVm vm₁).methodNamed? (fx_y M') = some mk ∧ decode c.code pc = .ok (ig, 3) ∧
    ∀ target, Steps p.tables e below (doInvoke e ((T.setVm vm₁).setTop (F0 m pc ls rest)) [] mk as.toArray).1 target → Steps p.tables e below (T.setTop (F0 m pc ls st)) target
theorem fx_named {s : State} {args : Array Value} (hw : (fx_cw M).before args s = true) : ∃ m, s.methodNamed? (fx_y M) = some m := by
  obtain ⟨y, cc, ml, rt, lev, hd⟩ := M
  cases hd with
  | nil => exact Cond.code_named (show (Cond.code y cc ml rt).before args s = true from hw)
  | cons a l =>
    have hw' : (Cond.codeWith y cc ml rt (a :: l)).before args s = true := hw
    show ∃ m, s.methodNamed? y = some m
    cases hn : s.methodNamed? y with
    | some m => exact ⟨m, rfl⟩
    | none => simp [Cond.before, Cond.holds, Cond.value, hn] at hw'
theorem fx_gcw : goodWord (fx_cw M) = true := by
  obtain ⟨y, cc, ml, rt, lev, hd⟩ := M
  cases hd <;> first | rfl | simp [fx_cw, goodWord, Cond.onTables, Cond.keeps, Cond.steady]
/-- the call itself: it comes back, or throws -/
theorem fx_back (ok : fx_ok g) {as : List Value} {Q' : fx_O → fx_H → Prop} {mc' ms' : Nat} (hC : fx_C g M' as h Q' mc' ms') (hcw : fx_cw M' ∈ fx_tb) (hini : Cond.initialized (fx_y M').cls ∈ fx_tb)
    {p : Program} {e : Env} {R : Room} {s : State} {m : MethodId} {sargs : Array Value} {below : List Frame} {meth : Method} {c : Code} {T : State} {locs : List Loc} {cells slots : Nat} (X : Stand p (fx_l g) e R s m sargs below meth c T locs cells slots) (hWs : (fx_s0 g).WarmedH s.vm) (hR : fx_R g h T.heap)
    {gf : JFrame} (hg : gf.method = m) (hsz : gf.locals.size = c.maxLocals) {ig : Instr} {len : Nat} (hd : decode c.code gf.pc = .ok (ig, len)) {mk : MethodId} (hn : T.methodNamed? (fx_y M') = some mk)
    (hfr : fx_lv M' + 1 ≤ R.frames) (hlo : 2 * gf.monitorRoom + (gf.stack.map fun v => v.category).sum + (fx_ml M' + 11) + fx_lw M' ≤ R.locals) (hc : cells + mc' ≤ R.cells) (hs : slots + ms' ≤ R.slots) :
    ∃ (B : State) (L : List Loc), Stand p (fx_l g) e R s m sargs below meth c B (locs ++ L) (cells + mc') (slots + ms') ∧ (∀ z ∈ L, fx_b g ≤ z.base) ∧ ∃ (o' : fx_O) (h' : fx_H), Q' o' h' ∧ fx_R g h' B.heap ∧
      ((∃ v : Option Int32, o' = .inl v ∧ Steps p.tables e below (doInvoke e (T.setTop gf) [] mk as.toArray).1 (B.setTop { gf with pc := gf.pc + len, stack := (v.map Value.int).toList ++ gf.stack })) ∨
       (∃ (E : String) (q : Addr) (ce : Cell), o' = .inr E ∧ B.heap[q]? = some ce ∧ ce.vm = .none ∧ s.vm.findClass E = some ce.cls ∧ Steps p.tables e below (doInvoke e (T.setTop gf) [] mk as.toArray).1 ((B.setTop gf).pushFrame (.throwing q)))) := by
  have hWT : (fx_s0 g).WarmedH T.vm := State.WarmedH.trans hWs X.warmed
  have hcode : (fx_cw M').before as.toArray T = true := fx_word ok hcw fx_gcw hWT
  have hpre : (headSpec [fx_cw M'] (fx_rm M' mc' ms')).pre.before as.toArray T = true := atoms_intro fun w hw => by
    rw [List.mem_singleton.mp hw]
    exact hcode
  obtain ⟨methY, cY, hmY, hcY, -, hlY, -, -, -, -⟩ := fx_cw_spec hn hcode
  obtain ⟨kY, hkY, -⟩ := className_of_methodNamed hn
  have hinitY : kY.init = .initialized := Cond.initialized_spec (args := as.toArray) (findClass_of_methodNamed hn) hkY (fx_word ok hini (by first | rfl | simp [goodWord, Cond.onTables, Cond.keeps, Cond.steady]) hWT)
  have hh : At T gf.method c below := by rw [hg]; exact X.here
  have happ : (headSpec [fx_cw M'] (fx_rm M' mc' ms')).appliesLoose (fx_y M') e.platform (T.calling gf mk as.toArray) = true :=
    Spec.appliesLoose_calling (g := gf) hh hd hn hkY hinitY
      (X.room_calling (g := gf) (R' := (headSpec [fx_cw M'] (fx_rm M' mc' ms')).room) hsz hmY hcY hfr (by rw [hlY]; exact hlo) hc hs) hpre
  obtain ⟨mid, hmid⟩ := hh.above
  have hfr9 : (T.setTop gf).frames = (.java gf :: mid) ++ below := by rw [State.frames_setTop' gf hh.top, hmid]; rfl
  obtain ⟨o, s₂, hsteps, -, hend, hq⟩ := Steps.callFree hC p X.admits X.cas X.clock (acts := []) hfr9 happ ⟨rfl, hWT, hR⟩ trivial
  have hq' : fx_P g Q' mc' ms' (T.calling gf mk as.toArray) o s₂ := hq
  obtain ⟨L, hW₂, hsm, hL, o', h', hQ, hR', hoc⟩ := hq'
  rw [State.frames_setTop' gf hh.top] at hend
  obtain ⟨g₀, hg0⟩ := Option.isSome_iff_exists.mp hh.top
  obtain ⟨r, hr⟩ := State.topJava?_eq_some.mp hg0
  have hr' : (({ T with heap := s₂.heap, slotsUsed := s₂.slotsUsed } : State).setVm s₂.vm).frames = .java g₀ :: r := hr
  obtain ⟨e2, q2, q3, q4, q5, q6⟩ := id hsm
  have e3 : s₂ = ({ (T.calling gf mk as.toArray).setFrames s₂.frames with heap := s₂.heap, slotsUsed := s₂.slotsUsed } : State).setVm s₂.vm := by
    have : s₂ = ({ s₂ with vm := (T.calling gf mk as.toArray).vm } : State).setVm s₂.vm := rfl
    rw [e2] at this
    exact this
  have hW' : T.WarmedH s₂.vm := hW₂
  have hsame : T.sameButNew ({ T with heap := s₂.heap, slotsUsed := s₂.slotsUsed } : State) L mc' ms' := by
    refine ⟨?_, q2, q3, q4, q5, q6⟩
    obtain ⟨t, ht, -⟩ := State.frames_cons hr
    show ({ T with heap := s₂.heap, slotsUsed := s₂.slotsUsed } : State) = { T.setFrames T.frames with heap := s₂.heap, slotsUsed := s₂.slotsUsed }
    rw [State.setFrames_self ht]
  have XB : Stand p (fx_l g) e R s m sargs below meth c (({ T with heap := s₂.heap, slotsUsed := s₂.slotsUsed } : State).setVm s₂.vm) (locs ++ L) (cells + mc') (slots + ms') :=
    ⟨X.admits, X.cas, X.clock, X.frames, X.room, X.hears, X.method, X.code, (X.here.setHeapUsed s₂.heap s₂.slotsUsed).setVm hW'.alike, X.tail, State.WarmedH.trans X.warmed hW', X.limits, X.bytes, X.same.trans (hsame.setVm s.vm)⟩
  refine ⟨_, L, XB, hL, o', h', hQ, hR', ?_⟩
  cases o' with
  | inl v =>
    refine Or.inl ⟨v, rfl, ?_⟩
    have hoc' : o = .returned (v.map Value.int) := hoc
    subst hoc'
    obtain ⟨c₂, i₂, len₂, hc₂, hd₂, hf₂⟩ := hend
    have hcc : c₂ = c := by
      have h1 : s₂.code? gf.method = T.code? gf.method := by
        rw [State.code?_eq, State.code?_eq, hW'.alike.method?]
      exact Option.some.inj (hc₂.symm.trans (h1.trans hh.code))
    subst hcc
    have hlen : len₂ = len := by rw [hd] at hd₂; cases hd₂; rfl
    subst hlen
    have hs₂ : s₂ = (({ T with heap := s₂.heap, slotsUsed := s₂.slotsUsed } : State).setVm s₂.vm).setTop { gf with pc := gf.pc + len₂, stack := (v.map Value.int).toList ++ gf.stack } := by
      refine e3.trans ?_
      rw [hf₂, State.calling_eq hh.top, State.setFrames_setFrames, State.setTop_of_frames _ hr', hr]
      rfl
    rw [← hs₂]
    exact hsteps
  | inr E =>
    obtain ⟨q, ce, rfl, hce, hcv, hcl⟩ := hoc
    have hcl' : s.vm.findClass E = some ce.cls := by
      have h1 : T.vm.findClass E = some ce.cls := hcl
      rw [X.warmed.alike.findClass] at h1
      exact h1
    refine Or.inr ⟨E, q, ce, rfl, hce, hcv, hcl', ?_⟩
    have hf₂ : s₂.frames = .throwing q :: .java gf :: T.frames.tail := hend
    have hs₂ : s₂ = ((({ T with heap := s₂.heap, slotsUsed := s₂.slotsUsed } : State).setVm s₂.vm).setTop gf).pushFrame (.throwing q) := by
      refine e3.trans ?_
      rw [hf₂, State.calling_eq hh.top, State.setFrames_setFrames, State.pushFrame, State.frames_setTop _ hr', State.setTop_of_frames _ hr', State.setFrames_setFrames, hr]
      rfl
    rw [← hs₂]
    exact hsteps
theorem fx_call (ok : fx_ok g) {as st' : List Value} {Q' : fx_O → fx_H → Prop} {mc' ms' : Nat} (hC : fx_C g M' as h Q' mc' ms') (S : fx_Site g M M' pc h as st st') (hcw : fx_cw M' ∈ fx_tb) (hini : Cond.initialized (fx_y M').cls ∈ fx_tb)
    (hlev : fx_lv M' + 1 ≤ fx_lv M) (hlo : (st.map fun v => v.category).sum + (fx_ml M' + 11) + fx_lw M' ≤ fx_lw M)
    (kr : ∀ (v : Option Int32) (h' : fx_H), Q' (.inl v) h' → fx_X g M (pc + 3) lv ((v.map Value.int).toList ++ st) h' Q mc ms) (kx : ∀ (E : String) (h' : fx_H), Q' (.inr E) h' → fx_T g M pc lv E h' Q mc ms) : fx_X g M pc lv st' h Q (mc' + mc) (ms' + ms) := by
  intro p e R s m args below meth c F H locs cells slots ls hR hL hc hs hl T hT X
  have hsz : ls.size = c.maxLocals := hl.1.trans F.2.2.1.symm
  have hF1 := F.2.2.2.2.2.2.2.2.2.1
  have hF2 := F.2.2.2.2.2.2.2.2.2.2
  obtain ⟨vm₁, mk, ig, X₁, hn, hd, hgo⟩ := S p e R s m args below meth c F H locs cells slots ls hR hsz T hT X
  obtain ⟨B, L, XB, hLB, o', h', hQ, hRB, hend⟩ := fx_back ok hC hcw hini X₁ F.2.2.2.2.2.1 (show fx_R g h T.heap by rw [hT]; exact hR) (gf := F0 m pc ls st) rfl hsz hd hn (by omega) (by show 2 * 0 + (st.map fun v => v.category).sum + _ + _ ≤ _; omega) (by omega) (by omega)
  have hL' : ∀ z ∈ locs ++ L, fx_b g ≤ z.base := fun z hz => (List.mem_append.mp hz).elim (hL z) (hLB z)
  rcases hend with ⟨v, rfl, st9⟩ | ⟨E, q, ce, rfl, hce, hcv, hcl, st9⟩
  · obtain ⟨t, a1, b1⟩ := kr v h' hQ p e R s m args below meth c F B.heap (locs ++ L) (cells + mc') (slots + ms') ls hRB hL' (by omega) (by omega) hl B rfl XB
    exact ⟨t, hgo _ (st9.trans a1), b1⟩
  · obtain ⟨t, a1, b1⟩ := kx E h' hQ p e R s m args below meth c F B.heap (locs ++ L) (cells + mc') (slots + ms') ls st q ce hRB hL' (by omega) (by omega) hl hce hcv hcl B rfl XB
    exact ⟨t, hgo _ (st9.trans a1), b1⟩
/-- the words of a call -/
def fx_mw (own : String) (idx n : Nat) (M' : fx_M) : Prop := fx_cw M' ∈ fx_tb ∧ Cond.initialized (fx_y M').cls ∈ fx_tb ∧ ((fx_y M').cls ≠ "java/lang/invoke/MethodHandle" ∧ (fx_y M').cls ≠ "java/lang/invoke/VarHandle") ∧ (parseMethodDescriptor (fx_y M').desc).map (fun d => d.parameters.length) = some n ∧ Cond.methodLink own idx (fx_y M') ∈ fx_tb
theorem fx_siteS (ok : fx_ok g) {idx : Nat} {as : List Value} (hm : fx_mw (fx_y M).cls idx as.length M') (hst : Cond.static (fx_y M') ∈ fx_tb) (d : decode (fx_cc M) pc = .ok (.invokestatic idx, 3)) : fx_Site g M M' pc h as st (as.reverse ++ st) := by
  intro p e R s m args below meth c F H locs cells slots ls hR hsz T hT X
  obtain ⟨hcw, hini, hy, hlen, hlk⟩ := hm
  have hW := F.2.2.2.2.2.1
  have hcode : (fx_cw M').before args s = true := fx_word ok hcw fx_gcw hW
  obtain ⟨mk, hnamed⟩ := fx_named hcode
  obtain ⟨methM, cM, hmethM, -, -, -, -, -, -, hsigM⟩ := fx_cw_spec hnamed hcode
  have hstatic : methM.isStatic = true := Cond.static_spec (args := args) hnamed hmethM (fx_word ok hst (by first | rfl | simp [goodWord, Cond.onTables, Cond.keeps, Cond.steady]) hW)
  obtain ⟨kP, hkP, -⟩ := className_of_methodNamed hnamed
  have hinitP : kP.init = .initialized := Cond.initialized_spec (args := args) (findClass_of_methodNamed hnamed) hkP (fx_word ok hini (by first | rfl | simp [goodWord, Cond.onTables, Cond.keeps, Cond.steady]) hW)
  have hlen' : as.length = methM.sig.parameters.length := by
    rw [hsigM] at hlen
    exact (Option.some.inj hlen).symm
  have d' : decode c.code pc = .ok (.invokestatic idx, 3) := by rw [F.2.1]; exact d
  obtain ⟨vm₁, X₁, hstep₁⟩ := X.invokestatic F.1 F.2.2.2.2.2.2.1 (fx_word ok hlk (by first | rfl | simp [goodWord, Cond.onTables, Cond.keeps, Cond.steady]) hW) hnamed hmethM hstatic hkP hinitP hy (g := F0 m pc ls (as.reverse ++ st)) rfl (argsL := as) (rest := st) hlen' rfl d'
  exact ⟨vm₁, mk, _, X₁, X₁.named hnamed, d', fun target h => hstep₁ _ fun acts => by rw [doInvoke_state]; exact h⟩
theorem fx_siteV (ok : fx_ok g) {idx b ci : Nat} {as : List Value} {q : vw_C} (hm : fx_mw (fx_y M).cls idx as.length M') (hin : Cond.instanceMethod (fx_y M') ∈ fx_tb) (hse : Cond.selects (fx_y M').cls (fx_y M') (fx_y M') ∈ fx_tb) (hs : fx_s h b = some (.inl ci)) (hq : fx_cl[ci]? = some q) (hqc : q.1 = (fx_y M').cls)
    (d : decode (fx_cc M) pc = .ok (.invokevirtual idx, 3)) : fx_Site g M M' pc h (.ref b :: as) st (as.reverse ++ .ref b :: st) := by
  intro p e R s m args below meth c F H locs cells slots ls hR hsz T hT X
  obtain ⟨hcw, hini, hy, hlen, hlk⟩ := hm
  have hW := F.2.2.2.2.2.1
  have hcode : (fx_cw M').before args s = true := fx_word ok hcw fx_gcw hW
  obtain ⟨mk, methM, hnamed, hmethM, hstM, habM⟩ := Cond.instanceMethod_spec (args := args) (fx_word ok hin (by first | rfl | simp [goodWord, Cond.onTables, Cond.keeps, Cond.steady]) hW)
  obtain ⟨methM', cM, hmethM', -, -, -, -, -, -, hsigM⟩ := fx_cw_spec hnamed hcode
  cases hmethM.symm.trans hmethM'
  obtain ⟨⟨r, h1, cellB, q1, q2, q3, -⟩, -⟩ := (hR.2.2.2 b _ hs).2.2
  cases Option.some.inj (h1.symm.trans hq)
  have hKn := fx_Kn ok hW hq
  have hcls : s.vm.findClass (fx_y M').cls = some cellB.cls := by
    rw [q2, ← hqc]
    exact hKn.2.1
  obtain ⟨c2, r2, m2, p1, p2, p3, p4, kP, hkP, hkPi⟩ := Cond.selects_spec (args := args) (fx_word ok hse (by first | rfl | simp [goodWord, Cond.onTables, Cond.keeps, Cond.steady]) hW)
  cases hcls.symm.trans p1
  cases (State.methodFound?_of_named hnamed hy).symm.trans p2
  cases hnamed.symm.trans p3
  have hselP : selectMethod e.platform s.vm cellB.cls mk = .method mk := by rw [Launch.admits_selectMethod X.admits]; exact p4
  have hlen' : as.length = methM.sig.parameters.length := by
    rw [hsigM] at hlen
    exact (Option.some.inj hlen).symm
  have d' : decode c.code pc = .ok (.invokevirtual idx, 3) := by rw [F.2.1]; exact d
  obtain ⟨vm₁, X₁, hstep₁⟩ := X.invokevirtual F.1 F.2.2.2.2.2.2.1 (fx_word ok hlk (by first | rfl | simp [goodWord, Cond.onTables, Cond.keeps, Cond.steady]) hW) hnamed hmethM hstM hkP hkPi hy (a := b) (cell := cellB) (by rw [hT]; exact q1)
    (fun z hz => by rw [q3] at hz; cases hz) hselP hmethM habM hkP hkPi (g := F0 m pc ls (as.reverse ++ .ref b :: st)) rfl (argsL := as) (rest := st) hlen' rfl d'
  exact ⟨vm₁, mk, _, X₁, X₁.named hnamed, d', fun target h => hstep₁ _ fun acts => by rw [doInvoke_state]; exact h⟩
theorem fx_siteI (ok : fx_ok g) {idx b : Nat} {as : List Value} (hm : fx_mw (fx_y M).cls idx as.length M') (hin : Cond.instanceMethod (fx_y M') ∈ fx_tb) (hnm : (fx_y M').name = "<init>") (hh : fx_hd M' = []) (hrt : fx_rt M' = none)
    (d : decode (fx_cc M) pc = .ok (.invokespecial idx, 3)) : fx_Site g M M' pc h (.ref b :: as) st (as.reverse ++ .ref b :: st) := by
  intro p e R s m args below meth c F H locs cells slots ls hR hsz T hT X
  obtain ⟨hcw, hini, hy, hlen, hlk⟩ := hm
  have hW := F.2.2.2.2.2.1
  have hcode : (Cond.code (fx_y M') (fx_cc M') (fx_ml M') none).before args s = true := by
    have h9 : (fx_cw M').before args s = true := fx_word ok hcw fx_gcw hW
    rw [fx_cw, hh] at h9
    rw [← hrt]
    exact h9
  have hpl : e.platform.magicAccessors = ({} : Platform).magicAccessors := by rw [X.admits.platform]
  have d' : decode c.code pc = .ok (.invokespecial idx, 3) := by rw [F.2.1]; exact d
  obtain ⟨mk, methM, cM, kP, vm₁, hnamed, hmethM, hcodeM, -, hlocalsM, -, hkP, -, hW₁, hstep₁⟩ := Steps.initColdArgs (e := e) X.here F.1 X.warmed hpl F.2.2.2.2.2.2.1 hnm hy (fx_word ok hlk (by first | rfl | simp [goodWord, Cond.onTables, Cond.keeps, Cond.steady]) hW) (fx_word ok hin (by first | rfl | simp [goodWord, Cond.onTables, Cond.keeps, Cond.steady]) hW) hcode (f := F0 m pc ls (as.reverse ++ .ref b :: st)) rfl
    (argsL := as) (rest := st) (fun sig hsig => by rw [hsig] at hlen; exact (Option.some.inj hlen).symm) rfl d'
  have X₁ := X.noted hW₁
  exact ⟨vm₁, mk, _, X₁, X₁.named hnamed, d', fun target h => hstep₁ _ fun acts => by rw [doInvoke_state]; exact h⟩
end FXC
end
section
/-! ===== what is made: objects, arrays, exceptions ===== -/
section FXN
variable {g : fx_G} {M M' : fx_M} {pc : Nat} {lv : List (Nat × Value)} {st : List Value} {h : fx_H} {Q : fx_O → fx_H → Prop} {mc ms : Nat}
theorem fx_new (ok : fx_ok g) {idx ci N : Nat} {C : String} {T : u_T} {ty : Nat → FieldType} (hcl : fx_cl[ci]? = some (C, T, N)) (hin : ∀ w ∈ u_ws C T N, w ∈ fx_tb) (hty : ∀ j, j < N → parseFieldDescriptor (T j).2.2.1 = some (ty j))
    (hfk : ∀ j, j < N → (fx_fk ci j ≠ 2 → defaultValue (ty j) = .int 0) ∧ (fx_fk ci j = 2 → defaultValue (ty j) = .null)) (hlk : Cond.classLink (fx_y M).cls idx C ∈ fx_tb) (hinst : Cond.instantiable C N ∈ fx_tb) (hini : Cond.initialized C ∈ fx_tb)
    (d : decode (fx_cc M) pc = .ok (.new idx, 3)) (K : fx_X g M (pc + 3) lv (.ref (fx_n h) :: st) (fx_nw h (.inl ci)) Q mc ms) : fx_X g M pc lv st h Q (mc + 1) (ms + N) := by
  intro p e R s m args below meth c F H locs cells slots ls hR hL hc hs hl
  have hW := F.2.2.2.2.2.1
  have hKn := fx_Kn ok hW hcl
  have hts : ∀ w ∈ u_ws C T N, w.before args s = true := fun w hw => fx_word ok (hin w hw) (fx_lay hw) hW
  refine W.newcK F.1 F.2.1 F.2.2.2.2.2.2.1 (fx_word ok hlk (by first | rfl | simp [goodWord, Cond.onTables, Cond.keeps, Cond.steady]) hW) (fx_word ok hinst (by first | rfl | simp [goodWord, Cond.onTables, Cond.keeps, Cond.steady]) hW) (fx_word ok hini (by first | rfl | simp [goodWord, Cond.onTables, Cond.keeps, Cond.steady]) hW) rfl d (by omega) (by omega) hKn.2.1 hR.1 fun H1 kC hkC e1 z1 o1 => ?_
  refine K p e R s m args below meth c F H1 locs (cells + 1) (slots + N) ls ?_ hL (by omega) (by omega) hl
  refine fx_R_new hR (by rw [z1, hR.1]) (fun q hq => o1 q (by rw [← hR.1]; exact hq)) ⟨⟨(C, T, N), hcl, (u_born ty hts (fun w hw => hw) hKn hkC e1 hty).to (fun j hj => ?_)⟩, fun k _ => Or.inl ?_⟩
  · rw [fx_v, fx_i_nw, fx_r_nw, if_pos rfl, if_pos rfl]
    by_cases h2 : fx_fk ci j = 2
    · rw [if_pos h2]
      exact (hfk j hj).2 h2
    · rw [if_neg h2]
      exact (hfk j hj).1 h2
  · rw [fx_i_nw, if_pos rfl]
theorem fx_newa (ok : fx_ok g) {atype : ArrayType} {ak N : Nat} {n : Int32} (hak : fx_tys[ak]? = some (newarray.typeOf atype)) (hak3 : ak < 3) (hdf : ak < 2 → defaultValue (newarray.typeOf atype) = .int 0) (hdl : ak = 2 → defaultValue (newarray.typeOf atype) = .long 0) (hprim : ∀ C, newarray.typeOf atype ≠ .object C) (harr : Cond.arrayClass (newarray.typeOf atype) ∈ fx_tb)
    (hn : ¬ n < 0) (hN : n.toNatClampNeg = N) (hby : N * componentBytes (newarray.typeOf atype) ≤ 536870912) (d : decode (fx_cc M) pc = .ok (.newarray atype, 2)) (K : fx_X g M (pc + 2) lv (.ref (fx_n h) :: st) (fx_nw h (.inr (ak, N))) Q mc ms) : fx_X g M pc lv (.int n :: st) h Q (mc + 1) (ms + N) := by
  intro p e R s m args below meth c F H locs cells slots ls hR hL hc hs hl
  have hW := F.2.2.2.2.2.1
  refine va_newaK F.1 F.2.1 (fx_word ok harr rfl hW) rfl d rfl hn hN hby (by omega) (by omega) hR.1 fun H1 cA e1 z1 o1 _ hNm => ?_
  have hcA : cA = fx_dA g ak := by
    have h2 := (fx_Ty ok hW hak).2
    cases hx : newarray.typeOf atype with
    | object C => exact absurd hx (hprim C)
    | _ => rw [hx] at h2 hNm; exact Option.some.inj (hNm.symm.trans h2)
  subst hcA
  refine K p e R s m args below meth c F H1 locs (cells + 1) (slots + N) ls ?_ hL (by omega) (by omega) hl
  refine fx_R_new hR (by rw [z1, hR.1]) (fun q hq => o1 q (by rw [← hR.1]; exact hq)) ⟨?_, fun _ k => Or.inl (by rw [fx_i_nw, if_pos rfl])⟩
  rw [e1]
  by_cases h2 : ak < 2
  · rw [fx_ar, if_pos h2, vp_cell_i, hdf h2]
    congr 2
    funext k
    rw [fx_i_nw, if_pos rfl]
  · have h3 : ak = 2 := by omega
    rw [fx_ar, if_neg h2, if_pos h3, vp_cell_l, hdl h3]
    congr 2
    funext k
    rw [fx_i_nw, if_pos rfl]
    rfl
theorem fx_anew (ok : fx_ok g) {idx ak N : Nat} {C : String} {n : Int32} (hak : fx_tys[ak]? = some (.object C)) (hak3 : 3 ≤ ak) (hlk : Cond.classLink (fx_y M).cls idx C ∈ fx_tb) (hov : ∀ (args : Array Value) (s : State), (fx_s0 g).WarmedH s.vm → (Cond.arrayOver (.object C)).before args s = true)
    (hn : ¬ n < 0) (hN : n.toNatClampNeg = N) (hby : N * 4 ≤ 536870912) (d : decode (fx_cc M) pc = .ok (.anewarray idx, 3)) (K : fx_X g M (pc + 3) lv (.ref (fx_n h) :: st) (fx_nw h (.inr (ak, N))) Q mc ms) : fx_X g M pc lv (.int n :: st) h Q (mc + 1) (ms + N) := by
  intro p e R s m args below meth c F H locs cells slots ls hR hL hc hs hl
  have hW := F.2.2.2.2.2.1
  subst hN
  refine W.anew F.1 F.2.1 F.2.2.2.2.2.2.1 (fx_word ok hlk (by first | rfl | simp [goodWord, Cond.onTables, Cond.keeps, Cond.steady]) hW) (hov _ _ hW) rfl d rfl hn hby (by omega) (by omega) fun cA kA comp h1 h2 h3 h4 => ?_
  have hcA : cA = fx_dA g ak := by
    obtain ⟨kA', comp', -, -, -, h9⟩ := (fx_Ty ok hW hak).2
    exact Option.some.inj (h1.symm.trans h9)
  subst hcA
  rw [hR.1]
  refine K p e R s m args below meth c F _ locs (cells + 1) (slots + n.toNatClampNeg) ls ?_ hL (by omega) (by omega) hl
  refine fx_R_new hR (by simp) (fun q hq => by rw [Array.getElem?_push, if_neg (Nat.ne_of_lt hq)]) ⟨?_, fun z => by omega⟩
  rw [fx_ar, if_neg (by omega), if_neg (by omega), vp_cell_q, ← hR.1, Array.getElem?_push, if_pos rfl, arrV_new]
  congr 2
  funext k
  rw [fx_r_nw, if_pos hR.1]
  rfl
theorem fx_aastore (ok : fx_ok g) {a b n ak ci : Nat} {q : vw_C} {i : Int32} (hs : fx_s h a = some (.inr (ak, n))) (hak3 : 3 ≤ ak) (hty : fx_tys[ak]? = some (.object q.1)) (hb : fx_s h b = some (.inl ci)) (hq : fx_cl[ci]? = some q) (hin : vp_in i n) (d : decode (fx_cc M) pc = .ok (.aastore, 1))
    (K : fx_X g M (pc + 1) lv st (fx_wr h a i.toNatClampNeg (some b)) Q mc ms) : fx_X g M pc lv (.ref b :: .int i :: .ref a :: st) h Q mc ms := by
  intro p e R s m args below meth c F H locs cells slots ls hR hL hc hs' hl
  have hW := F.2.2.2.2.2.1
  obtain ⟨hba, -, hcell, -⟩ := hR.2.2.2 a _ hs
  have ea : fx_ar h a ak = .inr (.inr (.inr (.inr (fx_r h a)))) := by
    rw [fx_ar, if_neg (by omega), if_neg (by omega)]
  rw [ea] at hcell
  obtain ⟨⟨r, r1, cellV, g1, g2, g3, -⟩, -⟩ := (hR.2.2.2 b _ hb).2.2
  have hcls := (fx_Kn ok hW hq).2
  obtain ⟨kA, comp, k1, k2, k3, -⟩ := (fx_Ty ok hW hty).2
  have hcomp : comp = (fx_D g).1 ci := Option.some.inj (k3.symm.trans hcls.1)
  subst hcomp
  obtain ⟨kC, hkC, -⟩ := hcls.2
  have h0 : ¬ i < 0 := fun q => hin (Or.inl q)
  refine W.aast F.1 F.2.1 hcell (fun q h => by cases h) (fun h => by cases h) k1 k2 rfl hkC ⟨h0, by show _ < (arrV _ _ _).slots.size; rw [arrV_size]; exact fx_in hin⟩ g1 (fun q h => by rw [g3] at h; cases h) (by rw [g2]; exact hkC) (by rw [g2]; exact va_assign hcls) rfl rfl d fun H1 e1 z oq => ?_
  refine K p e R s m args below meth c F H1 _ cells slots ls (fx_R_upd hR rfl (fun _ => rfl) (fun _ _ _ => rfl) (fun b' hb' k => ?_) hba z oq (fun y hy => ?_)) (t_lc hL hba) hc hs' hl
  · rw [fx_r_wr, if_neg (fun z => hb' z.1)]
  · cases hs.symm.trans hy
    refine ⟨?_, fun z => by omega⟩
    rw [e1, fx_ar, if_neg (by omega), if_neg (by omega), vp_cell_q, vp_cell_q, arrV_store]
    congr 2
    funext k
    rw [fx_r_wr]
    by_cases hk : k = i.toNatClampNeg
    · simp [updV, hk, va_rf]
    · simp [updV, hk]
/-! words that speak of statics -/
theorem fx_laysS (ok : fx_ok g) {C n d : String} (hw : Cond.laysStatic C n d ∈ fx_tb) {s : State} (hW : (fx_s0 g).WarmedH s.vm) (hH : ∀ q : Nat, q < fx_b g → s.heap[q]? = (fx_s0 g).heap[q]?) {args : Array Value} : (Cond.laysStatic C n d).before args s = true := by
  obtain ⟨c, k, i, f, a, cell, hc, hi, hst, ha, hcell, hs, hcls, hlt, hty⟩ := Cond.laysStatic_spec (ok.2.1 _ hw)
  obtain ⟨k', hi', hek⟩ := State.fieldFound?_setVm hW.alike hi
  have hlt9 : a < fx_b g := (Array.getElem?_eq_some_iff.mp hcell).1
  exact Cond.laysStatic_of (s := s) (by rw [hW.alike.findClass]; exact hc) hi' hst (by rw [hek]; exact ha) (by rw [hH a hlt9]; exact hcell) hs hcls hlt (by rw [hek]; exact hty)
theorem fx_isRef {C n d : String} {v : Value} {A : Nat → Prop} {s : State} {args : Array Value} (hz : va_Z C n d v A s s.heap) (hv : v.isRef = true) : (Cond.isRef (.static C n d)).before args s = true := by
  obtain ⟨cf, kf, fi, f, a, cell, h1, h2, h3, h4, h5, h6, h7, -⟩ := hz
  have he : (Term.static C n d).eval args s none [] s = some v := by
    simp [Term.eval, State.fieldNamed?, h1, h2, h4, h5, h6, h7]
  simp only [Cond.before, Cond.holds, Cond.value, he]
  cases v <;> simp_all [Value.isRef]
theorem fx_isRefS (ok : fx_ok g) {C n d : String} (hl : Cond.laysStatic C n d ∈ fx_tb) (hi : Cond.initialized C ∈ fx_tb) (hw : Cond.isRef (.static C n d) ∈ fx_tb) {s : State} (hW : (fx_s0 g).WarmedH s.vm) (hH : ∀ q : Nat, q < fx_b g → s.heap[q]? = (fx_s0 g).heap[q]?) {args : Array Value} : (Cond.isRef (.static C n d)).before args s = true := by
  have h0 : va_Zq C n d (fun q => fx_b g ≤ q) (fx_s0 g) (fx_s0 g).heap := va_Zqof (ok.2.1 _ hl) (ok.2.1 _ hi) (ok.2.1 _ hw) (fun a ha => Nat.not_le.mpr ha)
  have h1 : va_Zq C n d (fun q => fx_b g ≤ q) s s.heap := (h0.moved hW.alike).kept (fun a ha _ => hH a ha)
  rcases h1 with h1 | ⟨t, h1⟩
  · exact fx_isRef h1 rfl
  · exact fx_isRef h1 rfl
theorem fx_cast (ok : fx_ok g) {A B : String} (hw : Cond.castable A B ∈ fx_tb) {s : State} (hW : (fx_s0 g).WarmedH s.vm) {args : Array Value} : (Cond.castable A B).before args s = true := by
  obtain ⟨c3, c4, hc3, hc4, hasg⟩ := Cond.castable_spec (ok.2.1 _ hw)
  have h1 : s.vm.findClass A = some c3 := by rw [hW.alike.findClass]; exact hc3
  have h2 : s.vm.findClass B = some c4 := by rw [hW.alike.findClass]; exact hc4
  have h3 : s.vm.assignable c3 c4 = true := by rw [hW.alike.assignable]; exact hasg
  simp [Cond.before, Cond.holds, Cond.value, h1, h2, h3]
/-- the words of 'throw new E()', each in the tables, and how it is carried to a later state -/
def fx_tw (w : Cond) : Prop := w ∈ fx_tb ∧ (goodWord w = true ∨ (∃ A B, w = .castable A B) ∨ (∃ C n d, w = .laysStatic C n d) ∨ ∃ C n d, w = .isRef (.static C n d) ∧ Cond.laysStatic C n d ∈ fx_tb ∧ Cond.initialized C ∈ fx_tb)
theorem fx_tw_at (ok : fx_ok g) {w : Cond} (hw : fx_tw w) {s : State} (hW : (fx_s0 g).WarmedH s.vm) (hH : ∀ q : Nat, q < fx_b g → s.heap[q]? = (fx_s0 g).heap[q]?) {args : Array Value} : w.before args s = true := by
  obtain ⟨h1, h2 | ⟨A, B, rfl⟩ | ⟨C, n, d, rfl⟩ | ⟨C, n, d, rfl, h3, h4⟩⟩ := hw
  · exact fx_word ok h1 h2 hW
  · exact fx_cast ok h1 hW
  · exact fx_laysS ok h1 hW hH
  · exact fx_isRefS ok h3 h4 h1 hW hH
/-- the same frame, as if its method had been called in the heap of now -/
theorem fx_here {p : Program} {l : Launch} {e : Env} {R R' : Room} {s T : State} {m : MethodId} {args : Array Value} {below : List Frame} {meth : Method} {c : Code} {locs : List Loc} {cells slots : Nat} (X : Stand p l e R s m args below meth c T locs cells slots)
    (h1 : R'.frames ≤ R.frames) (h2 : R'.locals ≤ R.locals) (h3 : cells + R'.cells ≤ R.cells) (h4 : slots + R'.slots ≤ R.slots) : Stand p l e R' ((T.setVm s.vm).setFrames (.invoking m args :: below)) m args below meth c T [] 0 0 := by
  have htop : (T.setVm s.vm).topJava?.isSome := X.here.top
  have hF : ((T.setVm s.vm).setFrames (.invoking m args :: below)).frames = .invoking m args :: below := State.frames_setFrames _ (State.cur_lt_of_top htop)
  obtain ⟨g0, hg0⟩ := Option.isSome_iff_exists.mp htop
  obtain ⟨r, hr⟩ := State.topJava?_eq_some.mp hg0
  have hlim : e.platform.stackLimits (T.setVm s.vm).me = e.platform.stackLimits s.me := X.limits
  have hbyt : (T.setVm s.vm).me.stackBytes = s.me.stackBytes := X.bytes
  have hnil : T.heap.toList.drop T.heap.size = [] := List.drop_eq_nil_of_le (Nat.le_of_eq Array.length_toList)
  refine ⟨X.admits, X.cas, X.clock, hF, ?_, X.hears, X.method, X.code, X.here, X.tail, X.warmed, by rw [State.stackLimits_setFrames]; rfl, by rw [State.stackBytes_setFrames]; rfl, ?_⟩
  · have hU : ((T.setVm s.vm).setFrames (.invoking m args :: below)).localsInUse = s.localsInUse := by
      rw [State.localsInUse_invoking hF (meth := meth) (c := c) X.method X.code, State.localsInUse_invoking X.frames X.method X.code]
    have hroom := X.room
    simp only [State.hasRoom, Bool.and_eq_true, decide_eq_true_eq] at hroom ⊢
    obtain ⟨⟨⟨⟨k1, k2, k3, k4, k5, k6⟩, k7⟩, k8⟩, k9⟩ := hroom
    rw [X.frames, List.length_cons] at k2 k3
    have q1 := X.heapSize
    have q2 := X.used
    simp only [hF, hU, List.length_cons, State.stackLimits_setFrames, State.stackBytes_setFrames, hlim, hbyt]
    refine ⟨⟨⟨⟨by omega, by omega, by omega, by omega, by omega, k6⟩, ?_⟩, ?_⟩, X.book⟩
    · show T.heap.size + R'.cells ≤ e.platform.maxCells
      omega
    · show T.slotsUsed + R'.slots ≤ e.platform.maxSlots
      omega
  · refine ⟨?_, Nat.le_refl _, Nat.le_refl _, ?_, ?_, fun a c9 h9 => ⟨c9, h9, rfl, rfl, fun _ _ => rfl⟩⟩
    · obtain ⟨t, ht, -⟩ := State.frames_cons hr
      show T.setVm s.vm = { ((T.setVm s.vm).setFrames (.invoking m args :: below)).setFrames (T.setVm s.vm).frames with heap := T.heap, slotsUsed := T.slotsUsed }
      rw [State.setFrames_setFrames, State.setFrames_self ht]
      rfl
    · show T.slotsUsed = T.slotsUsed + ((T.heap.toList.drop T.heap.size).map (·.slots.size)).sum
      rw [hnil]; rfl
    · show ((T.heap.toList.drop T.heap.size).map (·.slots.size)).sum ≤ 0
      rw [hnil]; exact Nat.le_refl _
theorem fx_same0 {s U : State} {k n : Nat} (h : s.sameButNew ({ U with vm := s.vm } : State) [] k n) : ∀ q : Nat, q < s.heap.size → U.heap[q]? = s.heap[q]? := by
  obtain ⟨-, -, -, -, -, h6⟩ := h
  intro q hq
  obtain ⟨c9, e1, e2, e3, e4⟩ := h6 q _ (Array.getElem?_eq_getElem hq)
  have hs : c9.slots = (s.heap[q]).slots := Array.ext_getElem? fun i => e4 i (fun hm => nomatch hm)
  have h9 : c9 = s.heap[q] := by
    rw [hs] at e2
    exact e2
  have e5 : U.heap[q]? = some c9 := e1
  rw [e5, h9, Array.getElem?_eq_getElem hq]
theorem fx_throw0 (ok : fx_ok g) {ik ic : Nat} {cls : String} {names : List String} (hcls : Bundle.fit cls = true) (hnames : ∀ n ∈ names, Bundle.fit n = true) (hk : Cond.classLink (fx_y M).cls ik cls ∈ fx_tb) (hini : Cond.initialized cls ∈ fx_tb)
    (hat : ∀ w ∈ Bundle.ownAtoms0 (fx_y M).cls ic cls names, fx_tw w) (d0 : decode (fx_cc M) pc = .ok (.new ik, 3)) (d3 : decode (fx_cc M) (pc + 3) = .ok (.dup, 1)) (d4 : decode (fx_cc M) (pc + 4) = .ok (.invokespecial ic, 3)) (d7 : decode (fx_cc M) (pc + 7) = .ok (.athrow, 1))
    (hfr : names.length + 3 < fx_lv M) (hlo : (st.map fun v => v.category).sum + (13 * (names.length + 1) + 42) ≤ fx_lw M) (hh : fx_hd M = []) (hq : Q (.inr cls) (fx_sk h 1)) : fx_X g M pc lv st h Q (mc + 1) (ms + 6) := by
  intro p e R s m args below meth c F H locs cells slots ls hR hL hc hs hl T hT X
  have hW := F.2.2.2.2.2.1
  have hF1 := F.2.2.2.2.2.2.2.2.2.1
  have hF2 := F.2.2.2.2.2.2.2.2.2.2
  have hown := F.2.2.2.2.2.2.1
  have htr : e.platform.stackTraces = false := (show e.platform.stackTraces = (fx_l g).stackTraces by rw [X.admits.platform]).trans ok.1
  have Y := fx_here X (R' := { frames := R.frames, cells := 1, slots := 6, locals := R.locals }) (Nat.le_refl _) (Nat.le_refl _) (show cells + 1 ≤ R.cells by omega) (show slots + 6 ≤ R.slots by omega)
  obtain ⟨s', hA⟩ : ∃ z, z = (T.setVm s.vm).setFrames (.invoking m args :: below) := ⟨_, rfl⟩
  rw [← hA] at Y
  have hvm : s'.vm = s.vm := by rw [hA]; rfl
  have hhp : s'.heap = H := by rw [hA]; exact hT
  have hW' : (fx_s0 g).WarmedH s'.vm := by rw [hvm]; exact hW
  have hH' : ∀ q : Nat, q < fx_b g → s'.heap[q]? = (fx_s0 g).heap[q]? := by rw [hhp]; exact hR.2.2.1
  have hwd : ∀ w ∈ Bundle.ownAtoms0 (fx_y M).cls ic cls names, w.before args s' = true := fun w hw => fx_tw_at ok (hat w hw) hW' hH'
  have hown' : s'.vm.findClass (fx_y M).cls = some m.cls := by rw [hvm]; exact hown
  have hins : (Cond.instantiable cls 6).before args s' = true := hwd _ (by simp [Bundle.ownAtoms0])
  obtain ⟨vm₁, cX, kX, hfX, hkX, -, -, X₁, st1⟩ := Y.newCold F.1 (own := (fx_y M).cls) (C := cls) (index := ik) (n := 6) hown' (fx_word ok hk (by first | rfl | simp [goodWord, Cond.onTables, Cond.keeps, Cond.steady]) hW') hins (fx_word ok hini (by first | rfl | simp [goodWord, Cond.onTables, Cond.keeps, Cond.steady]) hW')
    (g := F0 m pc ls st) rfl (by rw [F.2.1]; exact d0) (Nat.le_refl _) (Nat.le_refl _)
  generalize hT1 : (T.setVm vm₁).pushCell { cls := cX, slots := kX.instanceTypes.map defaultValue, vm := .none } = T1 at X₁ st1
  have hcellA : T1.heap[T.heap.size]? = some (freshCell cX kX) := by rw [← hT1]; exact State.heap_pushCell_size _ _
  have d3' : decode c.code (pc + 3) = .ok (.dup, 1) := by rw [F.2.1]; exact d3
  have hcat : (Value.ref T.heap.size).category = 1 := rfl
  have hrows : fx_rows c = [] := F.2.2.2.2.2.2.2.2.1.trans hh
  have hout : ∀ x ∈ c.exceptionTable.toList, covers x (pc + 7) = false := by
    intro x hx
    have h9 : (x.startPc, x.endPc, x.handlerPc, x.catchType) ∈ fx_rows c := List.mem_map.mpr ⟨x, hx, rfl⟩
    rw [hrows] at h9
    exact nomatch h9
  have hsz : ls.size = c.maxLocals := hl.1.trans F.2.2.1.symm
  obtain ⟨U, hsteps, hrun, hend, hW9, hsame, ce, hce, hO⟩ := X₁.ctorThrow0 F.1 htr (own := (fx_y M).cls) (cls := cls) (names := names) (ic := ic) hown' hcls hnames hwd (fun x hx => nomatch hx) hfX hkX hcellA (by rw [hhp, hT]; exact Nat.le_refl _)
    (g := { method := m, pc := pc + 4, locals := ls, stack := .ref T.heap.size :: .ref T.heap.size :: st, locked := none }) rfl hsz rfl rfl (rest := st) rfl
    (by rw [F.2.1]; exact d4) (by rw [F.2.1]; exact d7) hout (show names.length + 3 < R.frames by omega) (by simp only [List.map_cons, List.sum_cons, hcat]; show 2 * 0 + _ + _ ≤ R.locals; omega) F.2.2.2.2.1
  have f2 := fx_same0 hsame
  have f1 : U.heap.size = H.size + 1 := by
    have a1 : U.heap.size ≤ s'.heap.size + (0 + 1) := hsame.2.2.1
    have a2 : T.heap.size < U.heap.size := (Array.getElem?_eq_some_iff.mp hce).1
    rw [hhp] at a1
    rw [hT] at a2
    omega
  rw [hhp] at f2
  have hWs : s.WarmedH U.vm := by
    have h9 : s'.WarmedH U.vm := hW9
    have h8 : s.WarmedH s'.vm := by rw [hvm]; exact State.WarmedH.refl s
    exact State.WarmedH.trans h8 h9
  have hcl : s.vm.findClass cls = some ce.cls := by
    have h9 := hO.cls
    rw [hvm] at h9
    exact h9
  have hall : s.sameButNew ({ U with vm := s.vm } : State) locs R.cells R.slots := by
    subst hA
    obtain ⟨e1, e2⟩ := hsame
    rw [State.setFrames_setFrames] at e1
    have h2 : (T.setVm s.vm).sameButNew ({ U with vm := s.vm } : State) [] (0 + 1) (0 + 6) := ⟨e1, e2⟩
    have h3 := X.same.trans h2
    rw [List.append_nil] at h3
    exact h3.mono (by omega) (by omega)
  refine ⟨U, ?_, .threw T.heap.size, hrun, hend, locs, hWs, hall, hL, .inr cls, fx_sk h 1, hq, fx_R_skip hR f1 f2, T.heap.size, ce, rfl, hce, hO.vm, hcl⟩
  refine st1 _ ?_
  show Steps p.tables e below (T1.setTop { method := m, pc := pc + 3, locals := ls, stack := .ref T.heap.size :: st, locked := none }) _
  jvm_step X₁.here [X₁.here.top, F.1, d3', Value.category]
  exact hsteps
end FXN
end
section
/-! ===== Object(), Math, System.arraycopy; calls across the nest ===== -/
section FXO
variable {g : fx_G} {M M' : fx_M} {pc : Nat} {lv : List (Nat × Value)} {st : List Value} {h : fx_H} {Q : fx_O → fx_H → Prop} {mc ms : Nat}
theorem fx_objInit (ok : fx_ok g) {idx a : Nat} (hlk : Cond.methodLink (fx_y M).cls idx Lib.objectInit ∈ fx_tb) (hin : Cond.instanceMethod Lib.objectInit ∈ fx_tb) (hcd : Cond.code Lib.objectInit ⟨#[0xb1]⟩ 1 none ∈ fx_tb) (hlev : 1 ≤ fx_lv M) (hlo : (st.map fun v => v.category).sum + 12 ≤ fx_lw M)
    (d : decode (fx_cc M) pc = .ok (.invokespecial idx, 3)) (K : fx_X g M (pc + 3) lv st h Q mc ms) : fx_X g M pc lv (.ref a :: st) h Q mc ms := by
  intro p e R s m args below meth c F H locs cells slots ls hR hL hc hs hl
  have hW := F.2.2.2.2.2.1
  have hF1 := F.2.2.2.2.2.2.2.2.2.1
  have hF2 := F.2.2.2.2.2.2.2.2.2.2
  exact W.objInit F.1 F.2.1 F.2.2.2.2.2.2.1 (fx_word ok hlk (by first | rfl | simp [goodWord, Cond.onTables, Cond.keeps, Cond.steady]) hW) (fx_word ok hin (by first | rfl | simp [goodWord, Cond.onTables, Cond.keeps, Cond.steady]) hW) (fx_word ok hcd (by first | rfl | simp [goodWord, Cond.onTables, Cond.keeps, Cond.steady]) hW) rfl (hl.1.trans F.2.2.1.symm) rfl d (by omega) (by show 2 * 0 + _ + 12 ≤ _; omega) (K p e R s m args below meth c F H locs cells slots ls hR hL hc hs hl)
theorem fx_mmax (ok : fx_ok g) {idx : Nat} {x y : Int32} (hlk : Cond.methodLink (fx_y M).cls idx Lib.Math.max.name ∈ fx_tb) (hst : Cond.static Lib.Math.max.name ∈ fx_tb) (hini : Cond.initialized "java/lang/Math" ∈ fx_tb) (hcd : Cond.code Lib.Math.max.name Lib.Math.max.code 2 (some .int) ∈ fx_tb) (hlev : 1 ≤ fx_lv M) (hlo : (st.map fun v => v.category).sum + 13 ≤ fx_lw M)
    (d : decode (fx_cc M) pc = .ok (.invokestatic idx, 3)) (K : fx_X g M (pc + 3) lv (.int (if x < y then y else x) :: st) h Q mc ms) : fx_X g M pc lv (.int y :: .int x :: st) h Q mc ms := by
  intro p e R s m args below meth c F H locs cells slots ls hR hL hc hs hl
  have hW := F.2.2.2.2.2.1
  have hF1 := F.2.2.2.2.2.2.2.2.2.1
  have hF2 := F.2.2.2.2.2.2.2.2.2.2
  exact va_mmax F.1 F.2.1 (F.2.2.1.trans hl.1.symm) F.2.2.2.2.2.2.1 (fx_word ok hlk (by first | rfl | simp [goodWord, Cond.onTables, Cond.keeps, Cond.steady]) hW) (fx_word ok hst (by first | rfl | simp [goodWord, Cond.onTables, Cond.keeps, Cond.steady]) hW) (fx_word ok hini (by first | rfl | simp [goodWord, Cond.onTables, Cond.keeps, Cond.steady]) hW) (fx_word ok hcd (by first | rfl | simp [goodWord, Cond.onTables, Cond.keeps, Cond.steady]) hW) (by omega) (by omega) (by omega) (by omega) d (K p e R s m args below meth c F H locs cells slots ls hR hL hc hs hl)
theorem fx_mmin (ok : fx_ok g) {idx : Nat} {x y : Int32} (hlk : Cond.methodLink (fx_y M).cls idx Lib.Math.min.name ∈ fx_tb) (hst : Cond.static Lib.Math.min.name ∈ fx_tb) (hini : Cond.initialized "java/lang/Math" ∈ fx_tb) (hcd : Cond.code Lib.Math.min.name Lib.Math.min.code 2 (some .int) ∈ fx_tb) (hlev : 1 ≤ fx_lv M) (hlo : (st.map fun v => v.category).sum + 13 ≤ fx_lw M)
    (d : decode (fx_cc M) pc = .ok (.invokestatic idx, 3)) (K : fx_X g M (pc + 3) lv (.int (if y < x then y else x) :: st) h Q mc ms) : fx_X g M pc lv (.int y :: .int x :: st) h Q mc ms := by
  intro p e R s m args below meth c F H locs cells slots ls hR hL hc hs hl
  have hW := F.2.2.2.2.2.1
  have hF1 := F.2.2.2.2.2.2.2.2.2.1
  have hF2 := F.2.2.2.2.2.2.2.2.2.2
  exact va_mmin F.1 F.2.1 (F.2.2.1.trans hl.1.symm) F.2.2.2.2.2.2.1 (fx_word ok hlk (by first | rfl | simp [goodWord, Cond.onTables, Cond.keeps, Cond.steady]) hW) (fx_word ok hst (by first | rfl | simp [goodWord, Cond.onTables, Cond.keeps, Cond.steady]) hW) (fx_word ok hini (by first | rfl | simp [goodWord, Cond.onTables, Cond.keeps, Cond.steady]) hW) (fx_word ok hcd (by first | rfl | simp [goodWord, Cond.onTables, Cond.keeps, Cond.steady]) hW) (by omega) (by omega) (by omega) (by omega) d (K p e R s m args below meth c F H locs cells slots ls hR hL hc hs hl)
theorem fx_nn {z : Int32} (hz : ¬ z < 0) : z.toInt = (z.toNatClampNeg : Int) := by
  have hz0 : (0 : Int) ≤ z.toInt := by
    have := Int32.not_lt.mp hz
    simpa using Int32.le_iff_toInt_le.mp this
  show z.toInt = ((z.toInt.toNat : Nat) : Int)
  omega
theorem fx_copy (ok : fx_ok g) {idx a b n0 n1 : Nat} {sp dp n : Int32} (hlk : Cond.methodLink (fx_y M).cls idx arraycopyName ∈ fx_tb) (hnat : Cond.native arraycopyName ∈ fx_tb) (hst : Cond.static arraycopyName ∈ fx_tb) (hini : Cond.initialized "java/lang/System" ∈ fx_tb)
    (ha : fx_s h a = some (.inr (0, n0))) (hb : fx_s h b = some (.inr (0, n1))) (h1 : ¬ sp < 0) (h2 : ¬ dp < 0) (h3 : ¬ n < 0) (h4 : sp.toNatClampNeg + n.toNatClampNeg ≤ n0) (h5 : dp.toNatClampNeg + n.toNatClampNeg ≤ n1) (hlev : 1 ≤ fx_lv M) (hlo : (st.map fun v => v.category).sum + (nativeFrameWords "java/lang/System" "arraycopy" 5 + 11) ≤ fx_lw M)
    (d : decode (fx_cc M) pc = .ok (.invokestatic idx, 3)) (K : fx_X g M (pc + 3) lv st (fx_cp h a b sp.toNatClampNeg dp.toNatClampNeg n.toNatClampNeg) Q mc ms) : fx_X g M pc lv (.int n :: .int dp :: .ref b :: .int sp :: .ref a :: st) h Q mc ms := by
  intro p e R s m args below meth c F H locs cells slots ls hR hL hc hs hl T hT X
  have hW := F.2.2.2.2.2.1
  have hF1 := F.2.2.2.2.2.2.2.2.2.1
  have hF2 := F.2.2.2.2.2.2.2.2.2.2
  have hc0 : H[a]? = some (vp_cell (fx_dA g 0) (n0, .inl (fx_i h a))) := (hR.2.2.2 a _ ha).2.2.1
  have hc1 : H[b]? = some (vp_cell (fx_dA g 0) (n1, .inl (fx_i h b))) := (hR.2.2.2 b _ hb).2.2.1
  have hbb := (hR.2.2.2 b _ hb).1
  obtain ⟨-, k0, hk0, cm0, hkk0⟩ := (fx_Ty ok hW (ak := 0) rfl).1 n0 (fun j => .int (fx_i h a j))
  obtain ⟨-, k1, hk1, cm1, hkk1⟩ := (fx_Ty ok hW (ak := 0) rfl).1 n1 (fun j => .int (fx_i h b j))
  obtain ⟨vm', X', step⟩ := X.arraycopy F.1 F.2.2.2.2.2.2.1 (fx_word ok hlk (by first | rfl | simp [goodWord, Cond.onTables, Cond.keeps, Cond.steady]) hW) (fx_word ok hnat (by first | rfl | simp [goodWord, Cond.onTables, Cond.keeps, Cond.steady]) hW) (fx_word ok hst (by first | rfl | simp [goodWord, Cond.onTables, Cond.keeps, Cond.steady]) hW) (fx_word ok hini (by first | rfl | simp [goodWord, Cond.onTables, Cond.keeps, Cond.steady]) hW)
    (src := a) (dst := b) (cs := vp_cell (fx_dA g 0) (n0, .inl (fx_i h a))) (cd := vp_cell (fx_dA g 0) (n1, .inl (fx_i h b))) (srcPos := sp) (destPos := dp) (n := n) (by rw [hT]; exact hc0) (by rw [hT]; exact hc1)
    (fun _ h => by cases h) (fun _ h => by cases h) (fun h => by cases h) (fun h => by cases h) hk0 hk1 hkk0 hkk1 (by simp [refKind]) h1 h2 h3
    (by rw [fx_nn h1, fx_nn h3]; show ¬ _ > ((arrV (fx_dA g 0) n0 (fun j => .int (fx_i h a j))).slots.size : Int); rw [arrV_size]; omega)
    (by rw [fx_nn h2, fx_nn h3]; show ¬ _ > ((arrV (fx_dA g 0) n1 (fun j => .int (fx_i h b j))).slots.size : Int); rw [arrV_size]; omega)
    (fun vm₁ _ i hi => by
      have e9 : (vp_cell (fx_dA g 0) (n0, .inl (fx_i h a))).slots.getD (sp.toNatClampNeg + i) .null = .int (fx_i h a (sp.toNatClampNeg + i)) := by
        show (arrV (fx_dA g 0) n0 (fun j => .int (fx_i h a j))).slots.getD _ _ = _
        rw [Array.getD_eq_getD_getElem?, arrV_read _ _ (by omega)]
        rfl
      refine ⟨?_, ?_⟩
      · rw [e9]
        rfl
      · rw [e9]
        exact trivial)
    (g := F0 m pc ls (.int n :: .int dp :: .ref b :: .int sp :: .ref a :: st)) rfl (hl.1.trans F.2.2.1.symm) (rest := st) rfl (by rw [F.2.1]; exact d) (by omega) (by show 2 * 0 + _ + _ ≤ _; omega)
  have e1 : copied (vp_cell (fx_dA g 0) (n0, .inl (fx_i h a))) (vp_cell (fx_dA g 0) (n1, .inl (fx_i h b))) sp dp n = vp_cell (fx_dA g 0) (n1, .inl (va_cpy (fx_i h a) (fx_i h b) sp.toNatClampNeg dp.toNatClampNeg n.toNatClampNeg)) := va_copied (fun z => .int z) (fx_dA g 0) (fx_dA g 0) (fx_i h a) (fx_i h b) h4
  rw [e1] at X' step
  have hlt : b < H.size := (Array.getElem?_eq_some_iff.mp hc1).1
  have hheap : ((T.setVm vm').setCell b (vp_cell (fx_dA g 0) (n1, .inl (va_cpy (fx_i h a) (fx_i h b) sp.toNatClampNeg dp.toNatClampNeg n.toNatClampNeg)))).heap = H.setIfInBounds b (vp_cell (fx_dA g 0) (n1, .inl (va_cpy (fx_i h a) (fx_i h b) sp.toNatClampNeg dp.toNatClampNeg n.toNatClampNeg))) := by rw [← hT]; rfl
  have hR' : fx_R g (fx_cp h a b sp.toNatClampNeg dp.toNatClampNeg n.toNatClampNeg) (H.setIfInBounds b (vp_cell (fx_dA g 0) (n1, .inl (va_cpy (fx_i h a) (fx_i h b) sp.toNatClampNeg dp.toNatClampNeg n.toNatClampNeg)))) := by
    refine fx_R_upd hR rfl (fun _ => rfl) (fun q hq k => ?_) (fun _ _ _ => rfl) hbb (by simp) (fun q hq => by simp [Array.getElem?_setIfInBounds, Ne.symm hq]) (fun x hx => ?_)
    · rw [fx_i_cp, if_neg hq]
    · cases hb.symm.trans hx
      refine ⟨?_, fun z => by cases z⟩
      have e2 : fx_ar (fx_cp h a b sp.toNatClampNeg dp.toNatClampNeg n.toNatClampNeg) b 0 = .inl (va_cpy (fx_i h a) (fx_i h b) sp.toNatClampNeg dp.toNatClampNeg n.toNatClampNeg) := by
        rw [fx_ar, if_pos (by decide)]
        congr 1
        funext k
        rw [fx_i_cp, if_pos rfl]
      rw [e2]
      simp [Array.getElem?_setIfInBounds, hlt]
  obtain ⟨t, a1, b1⟩ := K p e R s m args below meth c F _ _ cells slots ls hR' (fun z hz => by
      rcases List.mem_append.mp hz with h | h
      · exact hL z h
      · obtain ⟨y, -, hy⟩ := List.mem_map.mp h
        rw [← hy]
        exact hbb) hc hs hl _ hheap X'
  exact ⟨t, step t a1, b1⟩
/-- the words of a call across the nest -/
def fx_mn (own : String) (idx n : Nat) (M' : fx_M) (host : String) : Prop := fx_cw M' ∈ fx_tb ∧ Cond.initialized (fx_y M').cls ∈ fx_tb ∧ ((fx_y M').cls ≠ "java/lang/invoke/MethodHandle" ∧ (fx_y M').cls ≠ "java/lang/invoke/VarHandle") ∧ (parseMethodDescriptor (fx_y M').desc).map (fun d => d.parameters.length) = some n ∧ Cond.methodLinkNest own idx (fx_y M') host ∈ fx_tb
theorem fx_nest (ok : fx_ok g) {own host : String} {idx : Nat} {y : MethodName} (hlk : Cond.methodLinkNest own idx y host ∈ fx_tb) {s : State} (hW : (fx_s0 g).WarmedH s.vm) {args : Array Value} : (Cond.methodLinkNest own idx y host).before args s = true := va_Nw.use rfl (va_Nw.warmM hW (va_Nw.of rfl (ok.2.1 _ hlk)))
theorem fx_siteSN (ok : fx_ok g) {idx : Nat} {host : String} {as : List Value} (hm : fx_mn (fx_y M).cls idx as.length M' host) (hst : Cond.static (fx_y M') ∈ fx_tb) (d : decode (fx_cc M) pc = .ok (.invokestatic idx, 3)) : fx_Site g M M' pc h as st (as.reverse ++ st) := by
  intro p e R s m args below meth c F H locs cells slots ls hR hsz T hT X
  obtain ⟨hcw, hini, hy, hlen, hlk⟩ := hm
  have hW := F.2.2.2.2.2.1
  have hcode : (fx_cw M').before args s = true := fx_word ok hcw fx_gcw hW
  obtain ⟨mk, hnamed⟩ := fx_named hcode
  obtain ⟨methM, cM, hmethM, -, -, -, -, -, -, hsigM⟩ := fx_cw_spec hnamed hcode
  have hstatic : methM.isStatic = true := Cond.static_spec (args := args) hnamed hmethM (fx_word ok hst (by first | rfl | simp [goodWord, Cond.onTables, Cond.keeps, Cond.steady]) hW)
  obtain ⟨kP, hkP, -⟩ := className_of_methodNamed hnamed
  have hinitP : kP.init = .initialized := Cond.initialized_spec (args := args) (findClass_of_methodNamed hnamed) hkP (fx_word ok hini (by first | rfl | simp [goodWord, Cond.onTables, Cond.keeps, Cond.steady]) hW)
  have hlen' : as.length = methM.sig.parameters.length := by
    rw [hsigM] at hlen
    exact (Option.some.inj hlen).symm
  have d' : decode c.code pc = .ok (.invokestatic idx, 3) := by rw [F.2.1]; exact d
  obtain ⟨vm₁, X₁, hstep₁⟩ := X.invokestaticNest F.1 F.2.2.2.2.2.2.1 (fx_nest ok hlk hW) hnamed hmethM hstatic hkP hinitP hy (g := F0 m pc ls (as.reverse ++ st)) rfl (argsL := as) (rest := st) hlen' rfl d'
  exact ⟨vm₁, mk, _, X₁, X₁.named hnamed, d', fun target h => hstep₁ _ fun acts => by rw [doInvoke_state]; exact h⟩
theorem fx_siteVN (ok : fx_ok g) {idx b ci : Nat} {host : String} {as : List Value} {q : vw_C} (hm : fx_mn (fx_y M).cls idx as.length M' host) (hin : Cond.instanceMethod (fx_y M') ∈ fx_tb) (hse : Cond.selects (fx_y M').cls (fx_y M') (fx_y M') ∈ fx_tb) (hs : fx_s h b = some (.inl ci)) (hq : fx_cl[ci]? = some q) (hqc : q.1 = (fx_y M').cls)
    (d : decode (fx_cc M) pc = .ok (.invokevirtual idx, 3)) : fx_Site g M M' pc h (.ref b :: as) st (as.reverse ++ .ref b :: st) := by
  intro p e R s m args below meth c F H locs cells slots ls hR hsz T hT X
  obtain ⟨hcw, hini, hy, hlen, hlk⟩ := hm
  have hW := F.2.2.2.2.2.1
  have hcode : (fx_cw M').before args s = true := fx_word ok hcw fx_gcw hW
  obtain ⟨mk, methM, hnamed, hmethM, hstM, habM⟩ := Cond.instanceMethod_spec (args := args) (fx_word ok hin (by first | rfl | simp [goodWord, Cond.onTables, Cond.keeps, Cond.steady]) hW)
  obtain ⟨methM', cM, hmethM', -, -, -, -, -, -, hsigM⟩ := fx_cw_spec hnamed hcode
  cases hmethM.symm.trans hmethM'
  obtain ⟨⟨r, h1, cellB, q1, q2, q3, -⟩, -⟩ := (hR.2.2.2 b _ hs).2.2
  cases Option.some.inj (h1.symm.trans hq)
  have hKn := fx_Kn ok hW hq
  have hcls : s.vm.findClass (fx_y M').cls = some cellB.cls := by
    rw [q2, ← hqc]
    exact hKn.2.1
  obtain ⟨c2, r2, m2, p1, p2, p3, p4, kP, hkP, hkPi⟩ := Cond.selects_spec (args := args) (fx_word ok hse (by first | rfl | simp [goodWord, Cond.onTables, Cond.keeps, Cond.steady]) hW)
  cases hcls.symm.trans p1
  cases (State.methodFound?_of_named hnamed hy).symm.trans p2
  cases hnamed.symm.trans p3
  have hselP : selectMethod e.platform s.vm cellB.cls mk = .method mk := by rw [Launch.admits_selectMethod X.admits]; exact p4
  have hlen' : as.length = methM.sig.parameters.length := by
    rw [hsigM] at hlen
    exact (Option.some.inj hlen).symm
  have d' : decode c.code pc = .ok (.invokevirtual idx, 3) := by rw [F.2.1]; exact d
  obtain ⟨vm₁, X₁, hstep₁⟩ := X.invokevirtualNest F.1 F.2.2.2.2.2.2.1 (fx_nest ok hlk hW) hnamed hmethM hstM hkP hkPi hy (a := b) (cell := cellB) (by rw [hT]; exact q1)
    (fun z hz => by rw [q3] at hz; cases hz) hselP hmethM habM hkP hkPi (g := F0 m pc ls (as.reverse ++ .ref b :: st)) rfl (argsL := as) (rest := st) hlen' rfl d'
  exact ⟨vm₁, mk, _, X₁, X₁.named hnamed, d', fun target h => hstep₁ _ fun acts => by rw [doInvoke_state]; exact h⟩
theorem fx_siteIN (ok : fx_ok g) {idx b : Nat} {host : String} {as : List Value} (hm : fx_mn (fx_y M).cls idx as.length M' host) (hin : Cond.instanceMethod (fx_y M') ∈ fx_tb) (hnm : (fx_y M').name = "<init>") (hh : fx_hd M' = []) (hrt : fx_rt M' = none)
    (d : decode (fx_cc M) pc = .ok (.invokespecial idx, 3)) : fx_Site g M M' pc h (.ref b :: as) st (as.reverse ++ .ref b :: st) := by
  intro p e R s m args below meth c F H locs cells slots ls hR hsz T hT X
  obtain ⟨hcw, hini, hy, hlen, hlk⟩ := hm
  have hW := F.2.2.2.2.2.1
  have hcode : (Cond.code (fx_y M') (fx_cc M') (fx_ml M') none).before args s = true := by
    have h9 : (fx_cw M').before args s = true := fx_word ok hcw fx_gcw hW
    rw [fx_cw, hh] at h9
    rw [← hrt]
    exact h9
  have hpl : e.platform.magicAccessors = ({} : Platform).magicAccessors := by rw [X.admits.platform]
  have d' : decode c.code pc = .ok (.invokespecial idx, 3) := by rw [F.2.1]; exact d
  obtain ⟨mk, methM, cM, kP, vm₁, hnamed, hmethM, hcodeM, -, hlocalsM, -, hkP, -, hW₁, hstep₁⟩ := Steps.initColdArgsNest (e := e) X.here F.1 X.warmed hpl F.2.2.2.2.2.2.1 hnm hy (fx_nest ok hlk hW) (fx_word ok hin (by first | rfl | simp [goodWord, Cond.onTables, Cond.keeps, Cond.steady]) hW) hcode (f := F0 m pc ls (as.reverse ++ .ref b :: st)) rfl
    (argsL := as) (rest := st) (fun sig hsig => by rw [hsig] at hlen; exact (Option.some.inj hlen).symm) rfl d'
  have X₁ := X.noted hW₁
  exact ⟨vm₁, mk, _, X₁, X₁.named hnamed, d', fun target h => hstep₁ _ fun acts => by rw [doInvoke_state]; exact h⟩
end FXO
end
section
/-! ===== an exception that a caller's table catches, the table's classes resolved there and then ===== -/
section FXK
variable {g : fx_G} {M M' : fx_M} {pc : Nat} {lv : List (Nat × Value)} {st : List Value} {h : fx_H} {Q : fx_O → fx_H → Prop} {mc ms : Nat}
/-- what a row of a table does with an object of the class cx -/
def fx_rowNo (e : Env) (s : State) (d : ClassId) (pc : Nat) (cx : ClassId) (y : ExceptionTableEntry) : Prop := covers y pc = false ∨ (y.catchType ≠ 0 ∧ ∃ c, s.vm.ClassLinks e.platform d y.catchType c ∧ s.vm.assignable cx c = false)
theorem fx_goRow {e : Env} {S : State} {f : JFrame} {a : Addr} {x : ExceptionTableEntry} {t : List ExceptionTableEntry} {c : ClassId} {cell : Cell} (hx : covers x f.pc = true) (h0 : x.catchType ≠ 0) (hl : S.vm.ClassLinks e.platform f.method.cls x.catchType c)
    (hcell : S.heap[a]? = some cell) (hobj : ∀ k, cell.vm ≠ .statics k) (hk : ∃ k, S.vm.classes[cell.cls]? = some k) (hc : ∃ k, S.vm.classes[c]? = some k) (Q9 : Handler → Pre) (E : CtlPost) (d : Bool) (acts : List Action) :
    (S.vm.assignable cell.cls c = true → (wp (findHandler.go f a (x :: t)) Q9 E e d acts S ↔ Q9 (.found x.handlerPc) d acts (S.setVm (S.vm.noted f.method.cls x.catchType (.cls c))))) ∧
    (S.vm.assignable cell.cls c = false → (wp (findHandler.go f a (x :: t)) Q9 E e d acts S ↔ wp (findHandler.go f a t) Q9 E e d acts (S.setVm (S.vm.noted f.method.cls x.catchType (.cls c))))) := by
  simp only [covers] at hx
  obtain ⟨ha, ht⟩ := (resolveClass_links e.toSetting hl).op (op := VmOp.resolveClass f.method.cls x.catchType) rfl
  have hal : S.vm.Alike (S.vm.noted f.method.cls x.catchType (.cls c)) := (Vm.Alike.refl S.vm).noted _ _ _
  obtain ⟨k1, hk1⟩ := hk
  obtain ⟨k2, hk2⟩ := hc
  obtain ⟨k1', hk1', -⟩ := hal.2.2 _ _ hk1
  obtain ⟨k2', hk2', -⟩ := hal.2.2 _ _ hk2
  refine ⟨fun hf => ?_, fun hf => ?_⟩
  · have hf' : (S.vm.noted f.method.cls x.catchType (.cls c)).assignable cell.cls c = true := by rw [hal.assignable]; exact hf
    simp [findHandler.go, hx, h0, ha, ht, hcell, hobj, hk1', hk2', hf', VmOp.dirties, VmOp.acts]
  · have hf' : (S.vm.noted f.method.cls x.catchType (.cls c)).assignable cell.cls c = false := by rw [hal.assignable]; exact hf
    simp [findHandler.go, hx, h0, ha, ht, hcell, hobj, hk1', hk2', hf', VmOp.dirties, VmOp.acts]
theorem fx_goAll {e : Env} {s : State} {f : JFrame} {a : Addr} {cell : Cell} (hobj : ∀ k, cell.vm ≠ .statics k) (hk0 : ∃ k, s.vm.classes[cell.cls]? = some k) (x : ExceptionTableEntry) (rest : List ExceptionTableEntry) (hx : covers x f.pc = true) (h0 : x.catchType ≠ 0)
    {c : ClassId} (hl : s.vm.ClassLinks e.platform f.method.cls x.catchType c) (hfit : s.vm.assignable cell.cls c = true) : ∀ (pre : List ExceptionTableEntry) (S : State), s.WarmedH S.vm → S.heap[a]? = some cell → (∀ y ∈ pre, fx_rowNo e s f.method.cls f.pc cell.cls y) →
      ∃ vm', s.WarmedH vm' ∧ ∀ (Q9 : Handler → Pre) (E : CtlPost) (d : Bool) (acts : List Action), wp (findHandler.go f a (pre ++ x :: rest)) Q9 E e d acts S ↔ Q9 (.found x.handlerPc) d acts (S.setVm vm') := by
  obtain ⟨k0, hk0⟩ := hk0
  intro pre
  induction pre with
  | nil =>
    intro S hW hcell _
    obtain ⟨k0', hk0', -⟩ := hW.alike.2.2 _ _ hk0
    obtain ⟨dk, _, _, kt, hd, _, _, _, _, hkt, _, hopen⟩ := hl.here
    obtain ⟨kt', hkt', -⟩ := hW.alike.2.2 _ _ hkt
    exact ⟨_, hW.noted hd hopen (State.rightAt_cls hl), fun Q9 E d acts => (fx_goRow (t := rest) hx h0 (hW.classLinks hl) hcell hobj ⟨k0', hk0'⟩ ⟨kt', hkt'⟩ Q9 E d acts).1 (by rw [hW.alike.assignable]; exact hfit)⟩
  | cons y ys ih =>
    intro S hW hcell hno
    obtain ⟨k0', hk0', -⟩ := hW.alike.2.2 _ _ hk0
    have hrest : ∀ z ∈ ys, fx_rowNo e s f.method.cls f.pc cell.cls z := fun z hz => hno z (List.mem_cons_of_mem _ hz)
    by_cases hcov : covers y f.pc = true
    · rcases hno y List.mem_cons_self with h1 | ⟨h1, c1, hl1, hn1⟩
      · rw [h1] at hcov; cases hcov
      · obtain ⟨dk, _, _, kt, hd, _, _, _, _, hkt, _, hopen⟩ := hl1.here
        obtain ⟨kt', hkt', -⟩ := hW.alike.2.2 _ _ hkt
        obtain ⟨vm', hW', hq⟩ := ih (S.setVm (S.vm.noted f.method.cls y.catchType (.cls c1))) (hW.noted hd hopen (State.rightAt_cls hl1)) hcell hrest
        exact ⟨vm', hW', fun Q9 E d acts => by
          rw [List.cons_append, (fx_goRow (t := ys ++ x :: rest) hcov h1 (hW.classLinks hl1) hcell hobj ⟨k0', hk0'⟩ ⟨kt', hkt'⟩ Q9 E d acts).2 (by rw [hW.alike.assignable]; exact hn1)]
          exact hq Q9 E d acts⟩
    · obtain ⟨vm', hW', hq⟩ := ih S hW hcell hrest
      exact ⟨vm', hW', fun Q9 E d acts => by
        rw [List.cons_append, W.findHandler_go_skip (by simpa using hcov)]
        exact hq Q9 E d acts⟩
theorem fx_caught {p : Program} {l : Launch} {e : Env} {R : Room} {s T : State} {m : MethodId} {args : Array Value} {below : List Frame} {meth : Method} {c : Code} {locs : List Loc} {cells slots : Nat} (X : Stand p l e R s m args below meth c T locs cells slots) (a : Addr) {gf : JFrame} (hg : gf.method = m) {cell : Cell} (hcell : T.heap[a]? = some cell) (hv : cell.vm = .none) (hk0 : ∃ k, s.vm.classes[cell.cls]? = some k)
    (pre : List ExceptionTableEntry) (x : ExceptionTableEntry) (rest : List ExceptionTableEntry) (hsplit : c.exceptionTable.toList = pre ++ x :: rest) (hpass : ∀ y ∈ pre, fx_rowNo e s m.cls gf.pc cell.cls y) (hx : covers x gf.pc = true) (h0 : x.catchType ≠ 0) {ct : ClassId} (hl : s.vm.ClassLinks e.platform m.cls x.catchType ct) (hfit : s.vm.assignable cell.cls ct = true) :
    ∃ vm', Stand p l e R s m args below meth c (T.setVm vm') locs cells slots ∧ ∀ target, Steps p.tables e below ((T.setVm vm').setTop { gf with pc := x.handlerPc, stack := [.ref a] }) target → Steps p.tables e below ((T.setTop gf).pushFrame (.throwing a)) target := by
  subst hg
  obtain ⟨vm', hW', hq⟩ := fx_goAll (e := e) (s := s) (f := gf) (a := a) (cell := cell) (fun k hk => by rw [hv] at hk; cases hk) hk0 x rest hx h0 hl hfit pre ((T.setTop gf).pushFrame (.throwing a)) X.warmed hcell hpass
  refine ⟨vm', X.noted hW', fun target hrest => ?_⟩
  have hfind : ∀ (Q9 : Handler → Pre) (E : CtlPost) (d : Bool) (acts : List Action), wp (findHandler gf a) Q9 E e d acts ((T.setTop gf).pushFrame (.throwing a)) ↔ Q9 (.found x.handlerPc) d acts (((T.setTop gf).pushFrame (.throwing a)).setVm vm') := by
    intro Q9 E d acts
    rw [W.findHandler_eq (s := (T.setTop gf).pushFrame (.throwing a)) (meth := meth) (code := c) X.method' X.code, hsplit]
    exact hq Q9 E d acts
  have hh := X.here
  obtain ⟨hgo, hw⟩ := hh.throwing a
  refine Steps.head hgo hw ?_
  have hstep : (stepThrowing e ((T.setTop gf).pushFrame (.throwing a)) a (.java gf :: T.frames.tail)).Is ((((T.setTop gf).pushFrame (.throwing a)).setVm vm').setFrames (.java { gf with pc := x.handlerPc, stack := [.ref a] } :: T.frames.tail)) [] := by
    simp only [stepThrowing, searchFrame, vmDo]
    generalize hr : Sem.go _ e false [] ((T.setTop gf).pushFrame (.throwing a)) = res
    obtain ⟨as, rfl, ha⟩ := Sem.eq_ok_of hr (a := Handler.found x.handlerPc) (s' := ((T.setTop gf).pushFrame (.throwing a)).setVm vm') (acts' := []) (by simp [hfind _ _ _ _])
    exact ⟨rfl, ha⟩
  rw [stepThread_throwing (frames_entered hh.top _), hstep.1]
  obtain ⟨g0, hg0⟩ := Option.isSome_iff_exists.mp hh.top
  obtain ⟨r, hr⟩ := State.topJava?_eq_some.mp hg0
  have hr' : (T.setVm vm').frames = .java g0 :: r := hr
  rw [State.setTop_of_frames _ hr'] at hrest
  have key : ∀ (u : State) (F G : List Frame), ((u.setFrames F).setVm vm').setFrames G = (u.setVm vm').setFrames G := fun u F G => by
    have h1 : (u.setFrames F).setVm vm' = (u.setVm vm').setFrames F := rfl
    rw [h1, State.setFrames_setFrames]
  rw [hr, List.tail_cons, State.pushFrame, key, State.setTop_of_frames _ hr, key]
  exact hrest
end FXK
end
section
/-! ===== catching by name; constants by a wide index; switches; calls by their arity ===== -/
section FXS
variable {g : fx_G} {M M' : fx_M} {pc : Nat} {lv : List (Nat × Value)} {st : List Value} {h k : fx_H} {Q : fx_O → fx_H → Prop} {mc ms mc' ms' : Nat} {x : Int32}
theorem fx_T_catch (ok : fx_ok g) {E name : String} {pre' suf' : List (Nat × Nat × Nat × Nat)} {a b hp ct : Nat} (hh : fx_hd M = pre' ++ (a, b, hp, ct) :: suf') (hab : a ≤ pc ∧ pc < b) (h0 : ct ≠ 0) (hlk : Cond.classLink (fx_y M).cls ct name ∈ fx_tb) (hcast : Cond.castable E name ∈ fx_tb)
    (hpass : ∀ r ∈ pre', ¬ (r.1 ≤ pc ∧ pc < r.2.1) ∨ (r.2.2.2 ≠ 0 ∧ ∃ nm, Cond.classLink (fx_y M).cls r.2.2.2 nm ∈ fx_tb ∧ Cond.not (.castable E nm) ∈ fx_tb)) (K : ∀ q, fx_X g M hp lv [.ref q] h Q mc ms) : fx_T g M pc lv E h Q mc ms := by
  intro p e R s m args below meth c F H locs cells slots ls rest q ce hR hL hc hs hl hce hv hcl T hT X
  have hW := F.2.2.2.2.2.1
  have hown := F.2.2.2.2.2.2.1
  have hpl : e.platform.magicAccessors = ({} : Platform).magicAccessors := by rw [X.admits.platform]
  have hrows : c.exceptionTable.toList.map (fun h => (h.startPc, h.endPc, h.handlerPc, h.catchType)) = pre' ++ (a, b, hp, ct) :: suf' := F.2.2.2.2.2.2.2.2.1.trans hh
  obtain ⟨l1, l2, hsplit, h1, h2⟩ := List.map_eq_append_iff.mp hrows
  obtain ⟨y, l3, hl2, hy, h3⟩ := List.map_eq_cons_iff.mp h2
  subst hl2
  simp only [Prod.mk.injEq] at hy
  obtain ⟨y1, y2, y3, y4⟩ := hy
  obtain ⟨c3, c4, hc3, hc4, hasg⟩ := Cond.castable_spec (args := args) (fx_cast ok hcast hW)
  cases Option.some.inj (hc3.symm.trans hcl)
  obtain ⟨c5, hc5, hcl5⟩ := Cond.classLink_spec hown (fx_word ok hlk (by first | rfl | simp [goodWord, Cond.onTables, Cond.keeps, Cond.steady]) hW (args := args)) e.platform hpl
  cases Option.some.inj (hc4.symm.trans hc5)
  obtain ⟨kc, hkc, -⟩ := Vm.findClass_spec hcl
  obtain ⟨vm', X', st'⟩ := fx_caught X q (gf := F0 m pc ls rest) rfl (by rw [hT]; exact hce) hv ⟨kc, hkc⟩ l1 y l3 hsplit (fun z hz => by
      have hz' : (z.startPc, z.endPc, z.handlerPc, z.catchType) ∈ pre' := by
        rw [← h1]
        exact List.mem_map.mpr ⟨z, hz, rfl⟩
      rcases hpass _ hz' with h9 | ⟨h9, nm, hn1, hn2⟩
      · refine Or.inl ?_
        have h8 : ¬ (z.startPc ≤ pc ∧ pc < z.endPc) := h9
        simp only [covers]
        simpa using h8
      · obtain ⟨a8, b8, g1, g2, g3⟩ := (va_Nc.of (ok.2.1 _ hn2)).moved hW.alike
        cases Option.some.inj (g1.symm.trans hcl)
        obtain ⟨c6, hc6, hcl6⟩ := Cond.classLink_spec hown (fx_word ok hn1 (by first | rfl | simp [goodWord, Cond.onTables, Cond.keeps, Cond.steady]) hW (args := args)) e.platform hpl
        cases Option.some.inj (g2.symm.trans hc6)
        exact Or.inr ⟨h9, _, hcl6, g3⟩) (by simp only [covers]; rw [y1, y2]; simpa using hab) (by rw [y4]; exact h0) (by rw [y4]; exact hcl5) hasg
  rw [y3] at st'
  obtain ⟨t, a1, b1⟩ := K q p e R s m args below meth c F H locs cells slots ls hR hL hc hs hl (T.setVm vm') hT X'
  exact ⟨t, st' t a1, b1⟩
theorem fx_ldc_w (ok : fx_ok g) {idx : Nat} {v : Int32} (hk : Cond.constant (fx_y M).cls idx v ∈ fx_tb) (d : decode (fx_cc M) pc = .ok (.ldc_w idx, 3)) (K : fx_X g M (pc + 3) lv (.int v :: st) h Q mc ms) : fx_X g M pc lv st h Q mc ms := by
  intro p e R s m args below meth c F H locs cells slots ls hR hL hc hs hl T hT X
  obtain ⟨t, a1, b1⟩ := K p e R s m args below meth c F H locs cells slots ls hR hL hc hs hl T hT X
  refine ⟨t, ?_, b1⟩
  obtain ⟨kc, cf, bytes, hkc, hcf, hcp, hb⟩ := Cond.constant_spec F.2.2.2.2.2.2.1 (fx_word ok hk (by first | rfl | simp [goodWord, Cond.onTables, Cond.keeps, Cond.steady]) F.2.2.2.2.2.1 (args := args))
  obtain ⟨k', hk', he⟩ := X.warmed.alike.2.2 _ _ hkc
  have d' : decode c.code pc = .ok (.ldc_w idx, 3) := by rw [F.2.1]; exact d
  jvm_step X.here [F.1, d', ldc_w.wp_int (s := T) (f := F0 m pc ls st) X.here.top hk' (by rw [he]; exact hcf) hcp, hb]
  exact a1
theorem fx_tsIn {dflt lo hi off : Int} {offs : Array Int} {len tgt : Nat} (d : decode (fx_cc M) pc = .ok (.tableswitch dflt lo hi offs, len)) (h1 : ¬ x.toInt < lo) (h2 : ¬ hi < x.toInt) (ho : offs[(x.toInt - lo).toNat]? = some off) (ht : (pc : Int) + off = (tgt : Int)) (K : fx_X g M tgt lv st h Q mc ms) : fx_X g M pc lv (.int x :: st) h Q mc ms := by
  intro p e R s m args below meth c F H locs cells slots ls hR hL hc hs hl
  exact lv_tableIn F.1 F.2.1 d h1 h2 ho ht (K p e R s m args below meth c F H locs cells slots ls hR hL hc hs hl)
theorem fx_tsOut {dflt lo hi : Int} {offs : Array Int} {len tgt : Nat} (d : decode (fx_cc M) pc = .ok (.tableswitch dflt lo hi offs, len)) (h1 : x.toInt < lo ∨ hi < x.toInt) (ht : (pc : Int) + dflt = (tgt : Int)) (K : fx_X g M tgt lv st h Q mc ms) : fx_X g M pc lv (.int x :: st) h Q mc ms := by
  intro p e R s m args below meth c F H locs cells slots ls hR hL hc hs hl
  exact lv_tableOut F.1 F.2.1 d h1 ht (K p e R s m args below meth c F H locs cells slots ls hR hL hc hs hl)
theorem fx_widen {mc2 ms2 : Nat} (h1 : mc ≤ mc2) (h2 : ms ≤ ms2) (K : fx_X g M pc lv st h Q mc ms) : fx_X g M pc lv st h Q mc2 ms2 := by
  intro p e R s m args below meth c F H locs cells slots ls hR hL hc hs hl
  exact K p e R s m args below meth c F H locs cells slots ls hR hL (by omega) (by omega) hl
abbrev fx_is (v : Option Int32) (k : fx_H) : fx_O → fx_H → Prop := fun o h' => o = .inl v ∧ h' = k
abbrev fx_th (E : String) (k : fx_H) : fx_O → fx_H → Prop := fun o h' => o = .inr E ∧ h' = k
theorem fx_callR (ok : fx_ok g) {as st' : List Value} {v : Option Int32} (hC : fx_C g M' as h (fx_is v k) mc' ms') (S : fx_Site g M M' pc h as st st') (hcw : fx_cw M' ∈ fx_tb) (hini : Cond.initialized (fx_y M').cls ∈ fx_tb) (hlv : fx_lv M' + 1 ≤ fx_lv M) (hlo : (st.map fun v => v.category).sum + (fx_ml M' + 11) + fx_lw M' ≤ fx_lw M)
    (K : fx_X g M (pc + 3) lv ((v.map Value.int).toList ++ st) k Q mc ms) : fx_X g M pc lv st' h Q (mc' + mc) (ms' + ms) :=
  fx_call ok hC S hcw hini hlv hlo (fun v' h' hq => by obtain ⟨e1, rfl⟩ := hq; cases e1; exact K) (fun E h' hq => by cases hq.1)
theorem fx_callR0 (ok : fx_ok g) {as st' : List Value} {v : Option Int32} (hC : fx_C g M' as h (fx_is v k) 0 0) (S : fx_Site g M M' pc h as st st') (hcw : fx_cw M' ∈ fx_tb) (hini : Cond.initialized (fx_y M').cls ∈ fx_tb) (hlv : fx_lv M' + 1 ≤ fx_lv M) (hlo : (st.map fun v => v.category).sum + (fx_ml M' + 11) + fx_lw M' ≤ fx_lw M)
    (K : fx_X g M (pc + 3) lv ((v.map Value.int).toList ++ st) k Q mc ms) : fx_X g M pc lv st' h Q mc ms := by
  have h9 := fx_callR ok hC S hcw hini hlv hlo K
  rw [Nat.zero_add, Nat.zero_add] at h9
  exact h9
theorem fx_callT (ok : fx_ok g) {as st' : List Value} {E : String} (hC : fx_C g M' as h (fx_th E k) mc' ms') (S : fx_Site g M M' pc h as st st') (hcw : fx_cw M' ∈ fx_tb) (hini : Cond.initialized (fx_y M').cls ∈ fx_tb) (hlv : fx_lv M' + 1 ≤ fx_lv M) (hlo : (st.map fun v => v.category).sum + (fx_ml M' + 11) + fx_lw M' ≤ fx_lw M)
    (K : fx_T g M pc lv E k Q mc ms) : fx_X g M pc lv st' h Q (mc' + mc) (ms' + ms) :=
  fx_call ok hC S hcw hini hlv hlo (fun v' h' hq => by cases hq.1) (fun E' h' hq => by obtain ⟨e1, rfl⟩ := hq; cases e1; exact K)
/-- the words of a static call, of a call on an object, of a constructor -/
abbrev fx_wS (own : String) (idx n : Nat) (M' : fx_M) : Prop := fx_mw own idx n M' ∧ Cond.static (fx_y M') ∈ fx_tb
abbrev fx_wV (own : String) (idx n : Nat) (M' : fx_M) (ci : Nat) : Prop := fx_mw own idx n M' ∧ Cond.instanceMethod (fx_y M') ∈ fx_tb ∧ Cond.selects (fx_y M').cls (fx_y M') (fx_y M') ∈ fx_tb ∧ ∃ q : vw_C, fx_cl[ci]? = some q ∧ q.1 = (fx_y M').cls
abbrev fx_wI (own : String) (idx n : Nat) (M' : fx_M) : Prop := fx_mw own idx n M' ∧ Cond.instanceMethod (fx_y M') ∈ fx_tb ∧ (fx_y M').name = "<init>" ∧ fx_hd M' = [] ∧ fx_rt M' = none
abbrev fx_wN (own : String) (idx n : Nat) (M' : fx_M) (host : String) : Prop := fx_mn own idx n M' host ∧ Cond.instanceMethod (fx_y M') ∈ fx_tb ∧ (fx_y M').name = "<init>" ∧ fx_hd M' = [] ∧ fx_rt M' = none
abbrev fx_wSN (own : String) (idx n : Nat) (M' : fx_M) (host : String) : Prop := fx_mn own idx n M' host ∧ Cond.static (fx_y M') ∈ fx_tb
theorem fx_Si0 (ok : fx_ok g) {idx : Nat} (w : fx_wS (fx_y M).cls idx 0 M') (hC : fx_C g M' ([] : List Value) h (fx_is (some x) k) 0 0) (hlv : fx_lv M' + 1 ≤ fx_lv M) (hlo : (st.map fun v => v.category).sum + (fx_ml M' + 11) + fx_lw M' ≤ fx_lw M) (d : decode (fx_cc M) pc = .ok (.invokestatic idx, 3))
    (K : fx_X g M (pc + 3) lv (.int x :: st) k Q mc ms) : fx_X g M pc lv (st) h Q mc ms :=
  fx_callR0 ok hC (fx_siteS ok (as := []) w.1 w.2 d) w.1.1 w.1.2.1 hlv hlo K
theorem fx_Sv0 (ok : fx_ok g) {idx : Nat} (w : fx_wS (fx_y M).cls idx 0 M') (hC : fx_C g M' ([] : List Value) h (fx_is none k) 0 0) (hlv : fx_lv M' + 1 ≤ fx_lv M) (hlo : (st.map fun v => v.category).sum + (fx_ml M' + 11) + fx_lw M' ≤ fx_lw M) (d : decode (fx_cc M) pc = .ok (.invokestatic idx, 3))
    (K : fx_X g M (pc + 3) lv st k Q mc ms) : fx_X g M pc lv (st) h Q mc ms :=
  fx_callR0 ok hC (fx_siteS ok (as := []) w.1 w.2 d) w.1.1 w.1.2.1 hlv hlo K
theorem fx_Sa0 (ok : fx_ok g) {idx : Nat} (w : fx_wS (fx_y M).cls idx 0 M') (hC : fx_C g M' ([] : List Value) h (fx_is none k) mc' ms') (hlv : fx_lv M' + 1 ≤ fx_lv M) (hlo : (st.map fun v => v.category).sum + (fx_ml M' + 11) + fx_lw M' ≤ fx_lw M) (d : decode (fx_cc M) pc = .ok (.invokestatic idx, 3))
    (K : fx_X g M (pc + 3) lv st k Q mc ms) : fx_X g M pc lv (st) h Q (mc' + mc) (ms' + ms) :=
  fx_callR ok hC (fx_siteS ok (as := []) w.1 w.2 d) w.1.1 w.1.2.1 hlv hlo K
theorem fx_Sb0 (ok : fx_ok g) {idx : Nat} (w : fx_wS (fx_y M).cls idx 0 M') (hC : fx_C g M' ([] : List Value) h (fx_is (some x) k) mc' ms') (hlv : fx_lv M' + 1 ≤ fx_lv M) (hlo : (st.map fun v => v.category).sum + (fx_ml M' + 11) + fx_lw M' ≤ fx_lw M) (d : decode (fx_cc M) pc = .ok (.invokestatic idx, 3))
    (K : fx_X g M (pc + 3) lv (.int x :: st) k Q mc ms) : fx_X g M pc lv (st) h Q (mc' + mc) (ms' + ms) :=
  fx_callR ok hC (fx_siteS ok (as := []) w.1 w.2 d) w.1.1 w.1.2.1 hlv hlo K
theorem fx_St0 (ok : fx_ok g) {idx : Nat} (w : fx_wS (fx_y M).cls idx 0 M') {E : String} (hC : fx_C g M' ([] : List Value) h (fx_th E k) mc' ms') (hlv : fx_lv M' + 1 ≤ fx_lv M) (hlo : (st.map fun v => v.category).sum + (fx_ml M' + 11) + fx_lw M' ≤ fx_lw M) (d : decode (fx_cc M) pc = .ok (.invokestatic idx, 3))
    (K : fx_T g M pc lv E k Q mc ms) : fx_X g M pc lv (st) h Q (mc' + mc) (ms' + ms) :=
  fx_callT ok hC (fx_siteS ok (as := []) w.1 w.2 d) w.1.1 w.1.2.1 hlv hlo K
theorem fx_Vi0 (ok : fx_ok g) {idx : Nat} {b ci : Nat} (w : fx_wV (fx_y M).cls idx 0 M' ci) (hb : fx_s h b = some (.inl ci)) (hC : fx_C g M' (Value.ref b :: []) h (fx_is (some x) k) 0 0) (hlv : fx_lv M' + 1 ≤ fx_lv M) (hlo : (st.map fun v => v.category).sum + (fx_ml M' + 11) + fx_lw M' ≤ fx_lw M) (d : decode (fx_cc M) pc = .ok (.invokevirtual idx, 3))
    (K : fx_X g M (pc + 3) lv (.int x :: st) k Q mc ms) : fx_X g M pc lv (Value.ref b :: st) h Q mc ms := by
  obtain ⟨q, hq, hqc⟩ := w.2.2.2
  exact fx_callR0 ok hC (fx_siteV ok (as := []) w.1 w.2.1 w.2.2.1 hb hq hqc d) w.1.1 w.1.2.1 hlv hlo K
theorem fx_Vv0 (ok : fx_ok g) {idx : Nat} {b ci : Nat} (w : fx_wV (fx_y M).cls idx 0 M' ci) (hb : fx_s h b = some (.inl ci)) (hC : fx_C g M' (Value.ref b :: []) h (fx_is none k) 0 0) (hlv : fx_lv M' + 1 ≤ fx_lv M) (hlo : (st.map fun v => v.category).sum + (fx_ml M' + 11) + fx_lw M' ≤ fx_lw M) (d : decode (fx_cc M) pc = .ok (.invokevirtual idx, 3))
    (K : fx_X g M (pc + 3) lv st k Q mc ms) : fx_X g M pc lv (Value.ref b :: st) h Q mc ms := by
  obtain ⟨q, hq, hqc⟩ := w.2.2.2
  exact fx_callR0 ok hC (fx_siteV ok (as := []) w.1 w.2.1 w.2.2.1 hb hq hqc d) w.1.1 w.1.2.1 hlv hlo K
theorem fx_Va0 (ok : fx_ok g) {idx : Nat} {b ci : Nat} (w : fx_wV (fx_y M).cls idx 0 M' ci) (hb : fx_s h b = some (.inl ci)) (hC : fx_C g M' (Value.ref b :: []) h (fx_is none k) mc' ms') (hlv : fx_lv M' + 1 ≤ fx_lv M) (hlo : (st.map fun v => v.category).sum + (fx_ml M' + 11) + fx_lw M' ≤ fx_lw M) (d : decode (fx_cc M) pc = .ok (.invokevirtual idx, 3))
    (K : fx_X g M (pc + 3) lv st k Q mc ms) : fx_X g M pc lv (Value.ref b :: st) h Q (mc' + mc) (ms' + ms) := by
  obtain ⟨q, hq, hqc⟩ := w.2.2.2
  exact fx_callR ok hC (fx_siteV ok (as := []) w.1 w.2.1 w.2.2.1 hb hq hqc d) w.1.1 w.1.2.1 hlv hlo K
theorem fx_Vb0 (ok : fx_ok g) {idx : Nat} {b ci : Nat} (w : fx_wV (fx_y M).cls idx 0 M' ci) (hb : fx_s h b = some (.inl ci)) (hC : fx_C g M' (Value.ref b :: []) h (fx_is (some x) k) mc' ms') (hlv : fx_lv M' + 1 ≤ fx_lv M) (hlo : (st.map fun v => v.category).sum + (fx_ml M' + 11) + fx_lw M' ≤ fx_lw M) (d : decode (fx_cc M) pc = .ok (.invokevirtual idx, 3))
    (K : fx_X g M (pc + 3) lv (.int x :: st) k Q mc ms) : fx_X g M pc lv (Value.ref b :: st) h Q (mc' + mc) (ms' + ms) := by
  obtain ⟨q, hq, hqc⟩ := w.2.2.2
  exact fx_callR ok hC (fx_siteV ok (as := []) w.1 w.2.1 w.2.2.1 hb hq hqc d) w.1.1 w.1.2.1 hlv hlo K
theorem fx_Vt0 (ok : fx_ok g) {idx : Nat} {b ci : Nat} (w : fx_wV (fx_y M).cls idx 0 M' ci) (hb : fx_s h b = some (.inl ci)) {E : String} (hC : fx_C g M' (Value.ref b :: []) h (fx_th E k) mc' ms') (hlv : fx_lv M' + 1 ≤ fx_lv M) (hlo : (st.map fun v => v.category).sum + (fx_ml M' + 11) + fx_lw M' ≤ fx_lw M) (d : decode (fx_cc M) pc = .ok (.invokevirtual idx, 3))
    (K : fx_T g M pc lv E k Q mc ms) : fx_X g M pc lv (Value.ref b :: st) h Q (mc' + mc) (ms' + ms) := by
  obtain ⟨q, hq, hqc⟩ := w.2.2.2
  exact fx_callT ok hC (fx_siteV ok (as := []) w.1 w.2.1 w.2.2.1 hb hq hqc d) w.1.1 w.1.2.1 hlv hlo K
theorem fx_Si1 (ok : fx_ok g) {idx : Nat} {a1 : Value} (w : fx_wS (fx_y M).cls idx 1 M') (hC : fx_C g M' ([a1] : List Value) h (fx_is (some x) k) 0 0) (hlv : fx_lv M' + 1 ≤ fx_lv M) (hlo : (st.map fun v => v.category).sum + (fx_ml M' + 11) + fx_lw M' ≤ fx_lw M) (d : decode (fx_cc M) pc = .ok (.invokestatic idx, 3))
    (K : fx_X g M (pc + 3) lv (.int x :: st) k Q mc ms) : fx_X g M pc lv (a1 :: st) h Q mc ms :=
  fx_callR0 ok hC (fx_siteS ok (as := [a1]) w.1 w.2 d) w.1.1 w.1.2.1 hlv hlo K
theorem fx_Sv1 (ok : fx_ok g) {idx : Nat} {a1 : Value} (w : fx_wS (fx_y M).cls idx 1 M') (hC : fx_C g M' ([a1] : List Value) h (fx_is none k) 0 0) (hlv : fx_lv M' + 1 ≤ fx_lv M) (hlo : (st.map fun v => v.category).sum + (fx_ml M' + 11) + fx_lw M' ≤ fx_lw M) (d : decode (fx_cc M) pc = .ok (.invokestatic idx, 3))
    (K : fx_X g M (pc + 3) lv st k Q mc ms) : fx_X g M pc lv (a1 :: st) h Q mc ms :=
  fx_callR0 ok hC (fx_siteS ok (as := [a1]) w.1 w.2 d) w.1.1 w.1.2.1 hlv hlo K
theorem fx_Sa1 (ok : fx_ok g) {idx : Nat} {a1 : Value} (w : fx_wS (fx_y M).cls idx 1 M') (hC : fx_C g M' ([a1] : List Value) h (fx_is none k) mc' ms') (hlv : fx_lv M' + 1 ≤ fx_lv M) (hlo : (st.map fun v => v.category).sum + (fx_ml M' + 11) + fx_lw M' ≤ fx_lw M) (d : decode (fx_cc M) pc = .ok (.invokestatic idx, 3))
    (K : fx_X g M (pc + 3) lv st k Q mc ms) : fx_X g M pc lv (a1 :: st) h Q (mc' + mc) (ms' + ms) :=
  fx_callR ok hC (fx_siteS ok (as := [a1]) w.1 w.2 d) w.1.1 w.1.2.1 hlv hlo K
theorem fx_Sb1 (ok : fx_ok g) {idx : Nat} {a1 : Value} (w : fx_wS (fx_y M).cls idx 1 M') (hC : fx_C g M' ([a1] : List Value) h (fx_is (some x) k) mc' ms') (hlv : fx_lv M' + 1 ≤ fx_lv M) (hlo : (st.map fun v => v.category).sum + (fx_ml M' + 11) + fx_lw M' ≤ fx_lw M) (d : decode (fx_cc M) pc = .ok (.invokestatic idx, 3))
    (K : fx_X g M (pc + 3) lv (.int x :: st) k Q mc ms) : fx_X g M pc lv (a1 :: st) h Q (mc' + mc) (ms' + ms) :=
  fx_callR ok hC (fx_siteS ok (as := [a1]) w.1 w.2 d) w.1.1 w.1.2.1 hlv hlo K
theorem fx_St1 (ok : fx_ok g) {idx : Nat} {a1 : Value} (w : fx_wS (fx_y M).cls idx 1 M') {E : String} (hC : fx_C g M' ([a1] : List Value) h (fx_th E k) mc' ms') (hlv : fx_lv M' + 1 ≤ fx_lv M) (hlo : (st.map fun v => v.category).sum + (fx_ml M' + 11) + fx_lw M' ≤ fx_lw M) (d : decode (fx_cc M) pc = .ok (.invokestatic idx, 3))
    (K : fx_T g M pc lv E k Q mc ms) : fx_X g M pc lv (a1 :: st) h Q (mc' + mc) (ms' + ms) :=
  fx_callT ok hC (fx_siteS ok (as := [a1]) w.1 w.2 d) w.1.1 w.1.2.1 hlv hlo K
theorem fx_Vi1 (ok : fx_ok g) {idx : Nat} {b ci : Nat} {a1 : Value} (w : fx_wV (fx_y M).cls idx 1 M' ci) (hb : fx_s h b = some (.inl ci)) (hC : fx_C g M' (Value.ref b :: [a1]) h (fx_is (some x) k) 0 0) (hlv : fx_lv M' + 1 ≤ fx_lv M) (hlo : (st.map fun v => v.category).sum + (fx_ml M' + 11) + fx_lw M' ≤ fx_lw M) (d : decode (fx_cc M) pc = .ok (.invokevirtual idx, 3))
    (K : fx_X g M (pc + 3) lv (.int x :: st) k Q mc ms) : fx_X g M pc lv (a1 :: Value.ref b :: st) h Q mc ms := by
  obtain ⟨q, hq, hqc⟩ := w.2.2.2
  exact fx_callR0 ok hC (fx_siteV ok (as := [a1]) w.1 w.2.1 w.2.2.1 hb hq hqc d) w.1.1 w.1.2.1 hlv hlo K
theorem fx_Vv1 (ok : fx_ok g) {idx : Nat} {b ci : Nat} {a1 : Value} (w : fx_wV (fx_y M).cls idx 1 M' ci) (hb : fx_s h b = some (.inl ci)) (hC : fx_C g M' (Value.ref b :: [a1]) h (fx_is none k) 0 0) (hlv : fx_lv M' + 1 ≤ fx_lv M) (hlo : (st.map fun v => v.category).sum + (fx_ml M' + 11) + fx_lw M' ≤ fx_lw M) (d : decode (fx_cc M) pc = .ok (.invokevirtual idx, 3))
    (K : fx_X g M (pc + 3) lv st k Q mc ms) : fx_X g M pc lv (a1 :: Value.ref b :: st) h Q mc ms := by
  obtain ⟨q, hq, hqc⟩ := w.2.2.2
  exact fx_callR0 ok hC (fx_siteV ok (as := [a1]) w.1 w.2.1 w.2.2.1 hb hq hqc d) w.1.1 w.1.2.1 hlv hlo K
theorem fx_Va1 (ok : fx_ok g) {idx : Nat} {b ci : Nat} {a1 : Value} (w : fx_wV (fx_y M).cls idx 1 M' ci) (hb : fx_s h b = some (.inl ci)) (hC : fx_C g M' (Value.ref b :: [a1]) h (fx_is none k) mc' ms') (hlv : fx_lv M' + 1 ≤ fx_lv M) (hlo : (st.map fun v => v.category).sum + (fx_ml M' + 11) + fx_lw M' ≤ fx_lw M) (d : decode (fx_cc M) pc = .ok (.invokevirtual idx, 3))
    (K : fx_X g M (pc + 3) lv st k Q mc ms) : fx_X g M pc lv (a1 :: Value.ref b :: st) h Q (mc' + mc) (ms' + ms) := by
  obtain ⟨q, hq, hqc⟩ := w.2.2.2
  exact fx_callR ok hC (fx_siteV ok (as := [a1]) w.1 w.2.1 w.2.2.1 hb hq hqc d) w.1.1 w.1.2.1 hlv hlo K
theorem fx_Vb1 (ok : fx_ok g) {idx : Nat} {b ci : Nat} {a1 : Value} (w : fx_wV (fx_y M).cls idx 1 M' ci) (hb : fx_s h b = some (.inl ci)) (hC : fx_C g M' (Value.ref b :: [a1]) h (fx_is (some x) k) mc' ms') (hlv : fx_lv M' + 1 ≤ fx_lv M) (hlo : (st.map fun v => v.category).sum + (fx_ml M' + 11) + fx_lw M' ≤ fx_lw M) (d : decode (fx_cc M) pc = .ok (.invokevirtual idx, 3))
    (K : fx_X g M (pc + 3) lv (.int x :: st) k Q mc ms) : fx_X g M pc lv (a1 :: Value.ref b :: st) h Q (mc' + mc) (ms' + ms) := by
  obtain ⟨q, hq, hqc⟩ := w.2.2.2
  exact fx_callR ok hC (fx_siteV ok (as := [a1]) w.1 w.2.1 w.2.2.1 hb hq hqc d) w.1.1 w.1.2.1 hlv hlo K
theorem fx_Vt1 (ok : fx_ok g) {idx : Nat} {b ci : Nat} {a1 : Value} (w : fx_wV (fx_y M).cls idx 1 M' ci) (hb : fx_s h b = some (.inl ci)) {E : String} (hC : fx_C g M' (Value.ref b :: [a1]) h (fx_th E k) mc' ms') (hlv : fx_lv M' + 1 ≤ fx_lv M) (hlo : (st.map fun v => v.category).sum + (fx_ml M' + 11) + fx_lw M' ≤ fx_lw M) (d : decode (fx_cc M) pc = .ok (.invokevirtual idx, 3))
    (K : fx_T g M pc lv E k Q mc ms) : fx_X g M pc lv (a1 :: Value.ref b :: st) h Q (mc' + mc) (ms' + ms) := by
  obtain ⟨q, hq, hqc⟩ := w.2.2.2
  exact fx_callT ok hC (fx_siteV ok (as := [a1]) w.1 w.2.1 w.2.2.1 hb hq hqc d) w.1.1 w.1.2.1 hlv hlo K
theorem fx_Si2 (ok : fx_ok g) {idx : Nat} {a1 a2 : Value} (w : fx_wS (fx_y M).cls idx 2 M') (hC : fx_C g M' ([a1, a2] : List Value) h (fx_is (some x) k) 0 0) (hlv : fx_lv M' + 1 ≤ fx_lv M) (hlo : (st.map fun v => v.category).sum + (fx_ml M' + 11) + fx_lw M' ≤ fx_lw M) (d : decode (fx_cc M) pc = .ok (.invokestatic idx, 3))
    (K : fx_X g M (pc + 3) lv (.int x :: st) k Q mc ms) : fx_X g M pc lv (a2 :: a1 :: st) h Q mc ms :=
  fx_callR0 ok hC (fx_siteS ok (as := [a1, a2]) w.1 w.2 d) w.1.1 w.1.2.1 hlv hlo K
theorem fx_Sv2 (ok : fx_ok g) {idx : Nat} {a1 a2 : Value} (w : fx_wS (fx_y M).cls idx 2 M') (hC : fx_C g M' ([a1, a2] : List Value) h (fx_is none k) 0 0) (hlv : fx_lv M' + 1 ≤ fx_lv M) (hlo : (st.map fun v => v.category).sum + (fx_ml M' + 11) + fx_lw M' ≤ fx_lw M) (d : decode (fx_cc M) pc = .ok (.invokestatic idx, 3))
    (K : fx_X g M (pc + 3) lv st k Q mc ms) : fx_X g M pc lv (a2 :: a1 :: st) h Q mc ms :=
  fx_callR0 ok hC (fx_siteS ok (as := [a1, a2]) w.1 w.2 d) w.1.1 w.1.2.1 hlv hlo K
theorem fx_Sa2 (ok : fx_ok g) {idx : Nat} {a1 a2 : Value} (w : fx_wS (fx_y M).cls idx 2 M') (hC : fx_C g M' ([a1, a2] : List Value) h (fx_is none k) mc' ms') (hlv : fx_lv M' + 1 ≤ fx_lv M) (hlo : (st.map fun v => v.category).sum + (fx_ml M' + 11) + fx_lw M' ≤ fx_lw M) (d : decode (fx_cc M) pc = .ok (.invokestatic idx, 3))
    (K : fx_X g M (pc + 3) lv st k Q mc ms) : fx_X g M pc lv (a2 :: a1 :: st) h Q (mc' + mc) (ms' + ms) :=
  fx_callR ok hC (fx_siteS ok (as := [a1, a2]) w.1 w.2 d) w.1.1 w.1.2.1 hlv hlo K
theorem fx_Sb2 (ok : fx_ok g) {idx : Nat} {a1 a2 : Value} (w : fx_wS (fx_y M).cls idx 2 M') (hC : fx_C g M' ([a1, a2] : List Value) h (fx_is (some x) k) mc' ms') (hlv : fx_lv M' + 1 ≤ fx_lv M) (hlo : (st.map fun v => v.category).sum + (fx_ml M' + 11) + fx_lw M' ≤ fx_lw M) (d : decode (fx_cc M) pc = .ok (.invokestatic idx, 3))
    (K : fx_X g M (pc + 3) lv (.int x :: st) k Q mc ms) : fx_X g M pc lv (a2 :: a1 :: st) h Q (mc' + mc) (ms' + ms) :=
  fx_callR ok hC (fx_siteS ok (as := [a1, a2]) w.1 w.2 d) w.1.1 w.1.2.1 hlv hlo K
theorem fx_St2 (ok : fx_ok g) {idx : Nat} {a1 a2 : Value} (w : fx_wS (fx_y M).cls idx 2 M') {E : String} (hC : fx_C g M' ([a1, a2] : List Value) h (fx_th E k) mc' ms') (hlv : fx_lv M' + 1 ≤ fx_lv M) (hlo : (st.map fun v => v.category).sum + (fx_ml M' + 11) + fx_lw M' ≤ fx_lw M) (d : decode (fx_cc M) pc = .ok (.invokestatic idx, 3))
    (K : fx_T g M pc lv E k Q mc ms) : fx_X g M pc lv (a2 :: a1 :: st) h Q (mc' + mc) (ms' + ms) :=
  fx_callT ok hC (fx_siteS ok (as := [a1, a2]) w.1 w.2 d) w.1.1 w.1.2.1 hlv hlo K
theorem fx_Vi2 (ok : fx_ok g) {idx : Nat} {b ci : Nat} {a1 a2 : Value} (w : fx_wV (fx_y M).cls idx 2 M' ci) (hb : fx_s h b = some (.inl ci)) (hC : fx_C g M' (Value.ref b :: [a1, a2]) h (fx_is (some x) k) 0 0) (hlv : fx_lv M' + 1 ≤ fx_lv M) (hlo : (st.map fun v => v.category).sum + (fx_ml M' + 11) + fx_lw M' ≤ fx_lw M) (d : decode (fx_cc M) pc = .ok (.invokevirtual idx, 3))
    (K : fx_X g M (pc + 3) lv (.int x :: st) k Q mc ms) : fx_X g M pc lv (a2 :: a1 :: Value.ref b :: st) h Q mc ms := by
  obtain ⟨q, hq, hqc⟩ := w.2.2.2
  exact fx_callR0 ok hC (fx_siteV ok (as := [a1, a2]) w.1 w.2.1 w.2.2.1 hb hq hqc d) w.1.1 w.1.2.1 hlv hlo K
theorem fx_Vv2 (ok : fx_ok g) {idx : Nat} {b ci : Nat} {a1 a2 : Value} (w : fx_wV (fx_y M).cls idx 2 M' ci) (hb : fx_s h b = some (.inl ci)) (hC : fx_C g M' (Value.ref b :: [a1, a2]) h (fx_is none k) 0 0) (hlv : fx_lv M' + 1 ≤ fx_lv M) (hlo : (st.map fun v => v.category).sum + (fx_ml M' + 11) + fx_lw M' ≤ fx_lw M) (d : decode (fx_cc M) pc = .ok (.invokevirtual idx, 3))
    (K : fx_X g M (pc + 3) lv st k Q mc ms) : fx_X g M pc lv (a2 :: a1 :: Value.ref b :: st) h Q mc ms := by
  obtain ⟨q, hq, hqc⟩ := w.2.2.2
  exact fx_callR0 ok hC (fx_siteV ok (as := [a1, a2]) w.1 w.2.1 w.2.2.1 hb hq hqc d) w.1.1 w.1.2.1 hlv hlo K
theorem fx_Va2 (ok : fx_ok g) {idx : Nat} {b ci : Nat} {a1 a2 : Value} (w : fx_wV (fx_y M).cls idx 2 M' ci) (hb : fx_s h b = some (.inl ci)) (hC : fx_C g M' (Value.ref b :: [a1, a2]) h (fx_is none k) mc' ms') (hlv : fx_lv M' + 1 ≤ fx_lv M) (hlo : (st.map fun v => v.category).sum + (fx_ml M' + 11) + fx_lw M' ≤ fx_lw M) (d : decode (fx_cc M) pc = .ok (.invokevirtual idx, 3))
    (K : fx_X g M (pc + 3) lv st k Q mc ms) : fx_X g M pc lv (a2 :: a1 :: Value.ref b :: st) h Q (mc' + mc) (ms' + ms) := by
  obtain ⟨q, hq, hqc⟩ := w.2.2.2
  exact fx_callR ok hC (fx_siteV ok (as := [a1, a2]) w.1 w.2.1 w.2.2.1 hb hq hqc d) w.1.1 w.1.2.1 hlv hlo K
theorem fx_Vb2 (ok : fx_ok g) {idx : Nat} {b ci : Nat} {a1 a2 : Value} (w : fx_wV (fx_y M).cls idx 2 M' ci) (hb : fx_s h b = some (.inl ci)) (hC : fx_C g M' (Value.ref b :: [a1, a2]) h (fx_is (some x) k) mc' ms') (hlv : fx_lv M' + 1 ≤ fx_lv M) (hlo : (st.map fun v => v.category).sum + (fx_ml M' + 11) + fx_lw M' ≤ fx_lw M) (d : decode (fx_cc M) pc = .ok (.invokevirtual idx, 3))
    (K : fx_X g M (pc + 3) lv (.int x :: st) k Q mc ms) : fx_X g M pc lv (a2 :: a1 :: Value.ref b :: st) h Q (mc' + mc) (ms' + ms) := by
  obtain ⟨q, hq, hqc⟩ := w.2.2.2
  exact fx_callR ok hC (fx_siteV ok (as := [a1, a2]) w.1 w.2.1 w.2.2.1 hb hq hqc d) w.1.1 w.1.2.1 hlv hlo K
theorem fx_Vt2 (ok : fx_ok g) {idx : Nat} {b ci : Nat} {a1 a2 : Value} (w : fx_wV (fx_y M).cls idx 2 M' ci) (hb : fx_s h b = some (.inl ci)) {E : String} (hC : fx_C g M' (Value.ref b :: [a1, a2]) h (fx_th E k) mc' ms') (hlv : fx_lv M' + 1 ≤ fx_lv M) (hlo : (st.map fun v => v.category).sum + (fx_ml M' + 11) + fx_lw M' ≤ fx_lw M) (d : decode (fx_cc M) pc = .ok (.invokevirtual idx, 3))
    (K : fx_T g M pc lv E k Q mc ms) : fx_X g M pc lv (a2 :: a1 :: Value.ref b :: st) h Q (mc' + mc) (ms' + ms) := by
  obtain ⟨q, hq, hqc⟩ := w.2.2.2
  exact fx_callT ok hC (fx_siteV ok (as := [a1, a2]) w.1 w.2.1 w.2.2.1 hb hq hqc d) w.1.1 w.1.2.1 hlv hlo K
theorem fx_Si3 (ok : fx_ok g) {idx : Nat} {a1 a2 a3 : Value} (w : fx_wS (fx_y M).cls idx 3 M') (hC : fx_C g M' ([a1, a2, a3] : List Value) h (fx_is (some x) k) 0 0) (hlv : fx_lv M' + 1 ≤ fx_lv M) (hlo : (st.map fun v => v.category).sum + (fx_ml M' + 11) + fx_lw M' ≤ fx_lw M) (d : decode (fx_cc M) pc = .ok (.invokestatic idx, 3))
    (K : fx_X g M (pc + 3) lv (.int x :: st) k Q mc ms) : fx_X g M pc lv (a3 :: a2 :: a1 :: st) h Q mc ms :=
  fx_callR0 ok hC (fx_siteS ok (as := [a1, a2, a3]) w.1 w.2 d) w.1.1 w.1.2.1 hlv hlo K
theorem fx_Sv3 (ok : fx_ok g) {idx : Nat} {a1 a2 a3 : Value} (w : fx_wS (fx_y M).cls idx 3 M') (hC : fx_C g M' ([a1, a2, a3] : List Value) h (fx_is none k) 0 0) (hlv : fx_lv M' + 1 ≤ fx_lv M) (hlo : (st.map fun v => v.category).sum + (fx_ml M' + 11) + fx_lw M' ≤ fx_lw M) (d : decode (fx_cc M) pc = .ok (.invokestatic idx, 3))
    (K : fx_X g M (pc + 3) lv st k Q mc ms) : fx_X g M pc lv (a3 :: a2 :: a1 :: st) h Q mc ms :=
  fx_callR0 ok hC (fx_siteS ok (as := [a1, a2, a3]) w.1 w.2 d) w.1.1 w.1.2.1 hlv hlo K
theorem fx_Sa3 (ok : fx_ok g) {idx : Nat} {a1 a2 a3 : Value} (w : fx_wS (fx_y M).cls idx 3 M') (hC : fx_C g M' ([a1, a2, a3] : List Value) h (fx_is none k) mc' ms') (hlv : fx_lv M' + 1 ≤ fx_lv M) (hlo : (st.map fun v => v.category).sum + (fx_ml M' + 11) + fx_lw M' ≤ fx_lw M) (d : decode (fx_cc M) pc = .ok (.invokestatic idx, 3))
    (K : fx_X g M (pc + 3) lv st k Q mc ms) : fx_X g M pc lv (a3 :: a2 :: a1 :: st) h Q (mc' + mc) (ms' + ms) :=
  fx_callR ok hC (fx_siteS ok (as := [a1, a2, a3]) w.1 w.2 d) w.1.1 w.1.2.1 hlv hlo K
theorem fx_Sb3 (ok : fx_ok g) {idx : Nat} {a1 a2 a3 : Value} (w : fx_wS (fx_y M).cls idx 3 M') (hC : fx_C g M' ([a1, a2, a3] : List Value) h (fx_is (some x) k) mc' ms') (hlv : fx_lv M' + 1 ≤ fx_lv M) (hlo : (st.map fun v => v.category).sum + (fx_ml M' + 11) + fx_lw M' ≤ fx_lw M) (d : decode (fx_cc M) pc = .ok (.invokestatic idx, 3))
    (K : fx_X g M (pc + 3) lv (.int x :: st) k Q mc ms) : fx_X g M pc lv (a3 :: a2 :: a1 :: st) h Q (mc' + mc) (ms' + ms) :=
  fx_callR ok hC (fx_siteS ok (as := [a1, a2, a3]) w.1 w.2 d) w.1.1 w.1.2.1 hlv hlo K
theorem fx_St3 (ok : fx_ok g) {idx : Nat} {a1 a2 a3 : Value} (w : fx_wS (fx_y M).cls idx 3 M') {E : String} (hC : fx_C g M' ([a1, a2, a3] : List Value) h (fx_th E k) mc' ms') (hlv : fx_lv M' + 1 ≤ fx_lv M) (hlo : (st.map fun v => v.category).sum + (fx_ml M' + 11) + fx_lw M' ≤ fx_lw M) (d : decode (fx_cc M) pc = .ok (.invokestatic idx, 3))
    (K : fx_T g M pc lv E k Q mc ms) : fx_X g M pc lv (a3 :: a2 :: a1 :: st) h Q (mc' + mc) (ms' + ms) :=
  fx_callT ok hC (fx_siteS ok (as := [a1, a2, a3]) w.1 w.2 d) w.1.1 w.1.2.1 hlv hlo K
theorem fx_Vi3 (ok : fx_ok g) {idx : Nat} {b ci : Nat} {a1 a2 a3 : Value} (w : fx_wV (fx_y M).cls idx 3 M' ci) (hb : fx_s h b = some (.inl ci)) (hC : fx_C g M' (Value.ref b :: [a1, a2, a3]) h (fx_is (some x) k) 0 0) (hlv : fx_lv M' + 1 ≤ fx_lv M) (hlo : (st.map fun v => v.category).sum + (fx_ml M' + 11) + fx_lw M' ≤ fx_lw M) (d : decode (fx_cc M) pc = .ok (.invokevirtual idx, 3))
    (K : fx_X g M (pc + 3) lv (.int x :: st) k Q mc ms) : fx_X g M pc lv (a3 :: a2 :: a1 :: Value.ref b :: st) h Q mc ms := by
  obtain ⟨q, hq, hqc⟩ := w.2.2.2
  exact fx_callR0 ok hC (fx_siteV ok (as := [a1, a2, a3]) w.1 w.2.1 w.2.2.1 hb hq hqc d) w.1.1 w.1.2.1 hlv hlo K
theorem fx_Vv3 (ok : fx_ok g) {idx : Nat} {b ci : Nat} {a1 a2 a3 : Value} (w : fx_wV (fx_y M).cls idx 3 M' ci) (hb : fx_s h b = some (.inl ci)) (hC : fx_C g M' (Value.ref b :: [a1, a2, a3]) h (fx_is none k) 0 0) (hlv : fx_lv M' + 1 ≤ fx_lv M) (hlo : (st.map fun v => v.category).sum + (fx_ml M' + 11) + fx_lw M' ≤ fx_lw M) (d : decode (fx_cc M) pc = .ok (.invokevirtual idx, 3))
    (K : fx_X g M (pc + 3) lv st k Q mc ms) : fx_X g M pc lv (a3 :: a2 :: a1 :: Value.ref b :: st) h Q mc ms := by
  obtain ⟨q, hq, hqc⟩ := w.2.2.2
  exact fx_callR0 ok hC (fx_siteV ok (as := [a1, a2, a3]) w.1 w.2.1 w.2.2.1 hb hq hqc d) w.1.1 w.1.2.1 hlv hlo K
theorem fx_Va3 (ok : fx_ok g) {idx : Nat} {b ci : Nat} {a1 a2 a3 : Value} (w : fx_wV (fx_y M).cls idx 3 M' ci) (hb : fx_s h b = some (.inl ci)) (hC : fx_C g M' (Value.ref b :: [a1, a2, a3]) h (fx_is none k) mc' ms') (hlv : fx_lv M' + 1 ≤ fx_lv M) (hlo : (st.map fun v => v.category).sum + (fx_ml M' + 11) + fx_lw M' ≤ fx_lw M) (d : decode (fx_cc M) pc = .ok (.invokevirtual idx, 3))
    (K : fx_X g M (pc + 3) lv st k Q mc ms) : fx_X g M pc lv (a3 :: a2 :: a1 :: Value.ref b :: st) h Q (mc' + mc) (ms' + ms) := by
  obtain ⟨q, hq, hqc⟩ := w.2.2.2
  exact fx_callR ok hC (fx_siteV ok (as := [a1, a2, a3]) w.1 w.2.1 w.2.2.1 hb hq hqc d) w.1.1 w.1.2.1 hlv hlo K
theorem fx_Vb3 (ok : fx_ok g) {idx : Nat} {b ci : Nat} {a1 a2 a3 : Value} (w : fx_wV (fx_y M).cls idx 3 M' ci) (hb : fx_s h b = some (.inl ci)) (hC : fx_C g M' (Value.ref b :: [a1, a2, a3]) h (fx_is (some x) k) mc' ms') (hlv : fx_lv M' + 1 ≤ fx_lv M) (hlo : (st.map fun v => v.category).sum + (fx_ml M' + 11) + fx_lw M' ≤ fx_lw M) (d : decode (fx_cc M) pc = .ok (.invokevirtual idx, 3))
    (K : fx_X g M (pc + 3) lv (.int x :: st) k Q mc ms) : fx_X g M pc lv (a3 :: a2 :: a1 :: Value.ref b :: st) h Q (mc' + mc) (ms' + ms) := by
  obtain ⟨q, hq, hqc⟩ := w.2.2.2
  exact fx_callR ok hC (fx_siteV ok (as := [a1, a2, a3]) w.1 w.2.1 w.2.2.1 hb hq hqc d) w.1.1 w.1.2.1 hlv hlo K
theorem fx_Vt3 (ok : fx_ok g) {idx : Nat} {b ci : Nat} {a1 a2 a3 : Value} (w : fx_wV (fx_y M).cls idx 3 M' ci) (hb : fx_s h b = some (.inl ci)) {E : String} (hC : fx_C g M' (Value.ref b :: [a1, a2, a3]) h (fx_th E k) mc' ms') (hlv : fx_lv M' + 1 ≤ fx_lv M) (hlo : (st.map fun v => v.category).sum + (fx_ml M' + 11) + fx_lw M' ≤ fx_lw M) (d : decode (fx_cc M) pc = .ok (.invokevirtual idx, 3))
    (K : fx_T g M pc lv E k Q mc ms) : fx_X g M pc lv (a3 :: a2 :: a1 :: Value.ref b :: st) h Q (mc' + mc) (ms' + ms) := by
  obtain ⟨q, hq, hqc⟩ := w.2.2.2
  exact fx_callT ok hC (fx_siteV ok (as := [a1, a2, a3]) w.1 w.2.1 w.2.2.1 hb hq hqc d) w.1.1 w.1.2.1 hlv hlo K
theorem fx_Si4 (ok : fx_ok g) {idx : Nat} {a1 a2 a3 a4 : Value} (w : fx_wS (fx_y M).cls idx 4 M') (hC : fx_C g M' ([a1, a2, a3, a4] : List Value) h (fx_is (some x) k) 0 0) (hlv : fx_lv M' + 1 ≤ fx_lv M) (hlo : (st.map fun v => v.category).sum + (fx_ml M' + 11) + fx_lw M' ≤ fx_lw M) (d : decode (fx_cc M) pc = .ok (.invokestatic idx, 3))
    (K : fx_X g M (pc + 3) lv (.int x :: st) k Q mc ms) : fx_X g M pc lv (a4 :: a3 :: a2 :: a1 :: st) h Q mc ms :=
  fx_callR0 ok hC (fx_siteS ok (as := [a1, a2, a3, a4]) w.1 w.2 d) w.1.1 w.1.2.1 hlv hlo K
theorem fx_Sv4 (ok : fx_ok g) {idx : Nat} {a1 a2 a3 a4 : Value} (w : fx_wS (fx_y M).cls idx 4 M') (hC : fx_C g M' ([a1, a2, a3, a4] : List Value) h (fx_is none k) 0 0) (hlv : fx_lv M' + 1 ≤ fx_lv M) (hlo : (st.map fun v => v.category).sum + (fx_ml M' + 11) + fx_lw M' ≤ fx_lw M) (d : decode (fx_cc M) pc = .ok (.invokestatic idx, 3))
    (K : fx_X g M (pc + 3) lv st k Q mc ms) : fx_X g M pc lv (a4 :: a3 :: a2 :: a1 :: st) h Q mc ms :=
  fx_callR0 ok hC (fx_siteS ok (as := [a1, a2, a3, a4]) w.1 w.2 d) w.1.1 w.1.2.1 hlv hlo K
theorem fx_Sa4 (ok : fx_ok g) {idx : Nat} {a1 a2 a3 a4 : Value} (w : fx_wS (fx_y M).cls idx 4 M') (hC : fx_C g M' ([a1, a2, a3, a4] : List Value) h (fx_is none k) mc' ms') (hlv : fx_lv M' + 1 ≤ fx_lv M) (hlo : (st.map fun v => v.category).sum + (fx_ml M' + 11) + fx_lw M' ≤ fx_lw M) (d : decode (fx_cc M) pc = .ok (.invokestatic idx, 3))
    (K : fx_X g M (pc + 3) lv st k Q mc ms) : fx_X g M pc lv (a4 :: a3 :: a2 :: a1 :: st) h Q (mc' + mc) (ms' + ms) :=
  fx_callR ok hC (fx_siteS ok (as := [a1, a2, a3, a4]) w.1 w.2 d) w.1.1 w.1.2.1 hlv hlo K
theorem fx_Sb4 (ok : fx_ok g) {idx : Nat} {a1 a2 a3 a4 : Value} (w : fx_wS (fx_y M).cls idx 4 M') (hC : fx_C g M' ([a1, a2, a3, a4] : List Value) h (fx_is (some x) k) mc' ms') (hlv : fx_lv M' + 1 ≤ fx_lv M) (hlo : (st.map fun v => v.category).sum + (fx_ml M' + 11) + fx_lw M' ≤ fx_lw M) (d : decode (fx_cc M) pc = .ok (.invokestatic idx, 3))
    (K : fx_X g M (pc + 3) lv (.int x :: st) k Q mc ms) : fx_X g M pc lv (a4 :: a3 :: a2 :: a1 :: st) h Q (mc' + mc) (ms' + ms) :=
  fx_callR ok hC (fx_siteS ok (as := [a1, a2, a3, a4]) w.1 w.2 d) w.1.1 w.1.2.1 hlv hlo K
theorem fx_St4 (ok : fx_ok g) {idx : Nat} {a1 a2 a3 a4 : Value} (w : fx_wS (fx_y M).cls idx 4 M') {E : String} (hC : fx_C g M' ([a1, a2, a3, a4] : List Value) h (fx_th E k) mc' ms') (hlv : fx_lv M' + 1 ≤ fx_lv M) (hlo : (st.map fun v => v.category).sum + (fx_ml M' + 11) + fx_lw M' ≤ fx_lw M) (d : decode (fx_cc M) pc = .ok (.invokestatic idx, 3))
    (K : fx_T g M pc lv E k Q mc ms) : fx_X g M pc lv (a4 :: a3 :: a2 :: a1 :: st) h Q (mc' + mc) (ms' + ms) :=
  fx_callT ok hC (fx_siteS ok (as := [a1, a2, a3, a4]) w.1 w.2 d) w.1.1 w.1.2.1 hlv hlo K
theorem fx_Vi4 (ok : fx_ok g) {idx : Nat} {b ci : Nat} {a1 a2 a3 a4 : Value} (w : fx_wV (fx_y M).cls idx 4 M' ci) (hb : fx_s h b = some (.inl ci)) (hC : fx_C g M' (Value.ref b :: [a1, a2, a3, a4]) h (fx_is (some x) k) 0 0) (hlv : fx_lv M' + 1 ≤ fx_lv M) (hlo : (st.map fun v => v.category).sum + (fx_ml M' + 11) + fx_lw M' ≤ fx_lw M) (d : decode (fx_cc M) pc = .ok (.invokevirtual idx, 3))
    (K : fx_X g M (pc + 3) lv (.int x :: st) k Q mc ms) : fx_X g M pc lv (a4 :: a3 :: a2 :: a1 :: Value.ref b :: st) h Q mc ms := by
  obtain ⟨q, hq, hqc⟩ := w.2.2.2
  exact fx_callR0 ok hC (fx_siteV ok (as := [a1, a2, a3, a4]) w.1 w.2.1 w.2.2.1 hb hq hqc d) w.1.1 w.1.2.1 hlv hlo K
theorem fx_Vv4 (ok : fx_ok g) {idx : Nat} {b ci : Nat} {a1 a2 a3 a4 : Value} (w : fx_wV (fx_y M).cls idx 4 M' ci) (hb : fx_s h b = some (.inl ci)) (hC : fx_C g M' (Value.ref b :: [a1, a2, a3, a4]) h (fx_is none k) 0 0) (hlv : fx_lv M' + 1 ≤ fx_lv M) (hlo : (st.map fun v => v.category).sum + (fx_ml M' + 11) + fx_lw M' ≤ fx_lw M) (d : decode (fx_cc M) pc = .ok (.invokevirtual idx, 3))
    (K : fx_X g M (pc + 3) lv st k Q mc ms) : fx_X g M pc lv (a4 :: a3 :: a2 :: a1 :: Value.ref b :: st) h Q mc ms := by
  obtain ⟨q, hq, hqc⟩ := w.2.2.2
  exact fx_callR0 ok hC (fx_siteV ok (as := [a1, a2, a3, a4]) w.1 w.2.1 w.2.2.1 hb hq hqc d) w.1.1 w.1.2.1 hlv hlo K
theorem fx_Va4 (ok : fx_ok g) {idx : Nat} {b ci : Nat} {a1 a2 a3 a4 : Value} (w : fx_wV (fx_y M).cls idx 4 M' ci) (hb : fx_s h b = some (.inl ci)) (hC : fx_C g M' (Value.ref b :: [a1, a2, a3, a4]) h (fx_is none k) mc' ms') (hlv : fx_lv M' + 1 ≤ fx_lv M) (hlo : (st.map fun v => v.category).sum + (fx_ml M' + 11) + fx_lw M' ≤ fx_lw M) (d : decode (fx_cc M) pc = .ok (.invokevirtual idx, 3))
    (K : fx_X g M (pc + 3) lv st k Q mc ms) : fx_X g M pc lv (a4 :: a3 :: a2 :: a1 :: Value.ref b :: st) h Q (mc' + mc) (ms' + ms) := by
  obtain ⟨q, hq, hqc⟩ := w.2.2.2
  exact fx_callR ok hC (fx_siteV ok (as := [a1, a2, a3, a4]) w.1 w.2.1 w.2.2.1 hb hq hqc d) w.1.1 w.1.2.1 hlv hlo K
theorem fx_Vb4 (ok : fx_ok g) {idx : Nat} {b ci : Nat} {a1 a2 a3 a4 : Value} (w : fx_wV (fx_y M).cls idx 4 M' ci) (hb : fx_s h b = some (.inl ci)) (hC : fx_C g M' (Value.ref b :: [a1, a2, a3, a4]) h (fx_is (some x) k) mc' ms') (hlv : fx_lv M' + 1 ≤ fx_lv M) (hlo : (st.map fun v => v.category).sum + (fx_ml M' + 11) + fx_lw M' ≤ fx_lw M) (d : decode (fx_cc M) pc = .ok (.invokevirtual idx, 3))
    (K : fx_X g M (pc + 3) lv (.int x :: st) k Q mc ms) : fx_X g M pc lv (a4 :: a3 :: a2 :: a1 :: Value.ref b :: st) h Q (mc' + mc) (ms' + ms) := by
  obtain ⟨q, hq, hqc⟩ := w.2.2.2
  exact fx_callR ok hC (fx_siteV ok (as := [a1, a2, a3, a4]) w.1 w.2.1 w.2.2.1 hb hq hqc d) w.1.1 w.1.2.1 hlv hlo K
theorem fx_Vt4 (ok : fx_ok g) {idx : Nat} {b ci : Nat} {a1 a2 a3 a4 : Value} (w : fx_wV (fx_y M).cls idx 4 M' ci) (hb : fx_s h b = some (.inl ci)) {E : String} (hC : fx_C g M' (Value.ref b :: [a1, a2, a3, a4]) h (fx_th E k) mc' ms') (hlv : fx_lv M' + 1 ≤ fx_lv M) (hlo : (st.map fun v => v.category).sum + (fx_ml M' + 11) + fx_lw M' ≤ fx_lw M) (d : decode (fx_cc M) pc = .ok (.invokevirtual idx, 3))
    (K : fx_T g M pc lv E k Q mc ms) : fx_X g M pc lv (a4 :: a3 :: a2 :: a1 :: Value.ref b :: st) h Q (mc' + mc) (ms' + ms) := by
  obtain ⟨q, hq, hqc⟩ := w.2.2.2
  exact fx_callT ok hC (fx_siteV ok (as := [a1, a2, a3, a4]) w.1 w.2.1 w.2.2.1 hb hq hqc d) w.1.1 w.1.2.1 hlv hlo K
theorem fx_Si5 (ok : fx_ok g) {idx : Nat} {a1 a2 a3 a4 a5 : Value} (w : fx_wS (fx_y M).cls idx 5 M') (hC : fx_C g M' ([a1, a2, a3, a4, a5] : List Value) h (fx_is (some x) k) 0 0) (hlv : fx_lv M' + 1 ≤ fx_lv M) (hlo : (st.map fun v => v.category).sum + (fx_ml M' + 11) + fx_lw M' ≤ fx_lw M) (d : decode (fx_cc M) pc = .ok (.invokestatic idx, 3))
    (K : fx_X g M (pc + 3) lv (.int x :: st) k Q mc ms) : fx_X g M pc lv (a5 :: a4 :: a3 :: a2 :: a1 :: st) h Q mc ms :=
  fx_callR0 ok hC (fx_siteS ok (as := [a1, a2, a3, a4, a5]) w.1 w.2 d) w.1.1 w.1.2.1 hlv hlo K
theorem fx_Sv5 (ok : fx_ok g) {idx : Nat} {a1 a2 a3 a4 a5 : Value} (w : fx_wS (fx_y M).cls idx 5 M') (hC : fx_C g M' ([a1, a2, a3, a4, a5] : List Value) h (fx_is none k) 0 0) (hlv : fx_lv M' + 1 ≤ fx_lv M) (hlo : (st.map fun v => v.category).sum + (fx_ml M' + 11) + fx_lw M' ≤ fx_lw M) (d : decode (fx_cc M) pc = .ok (.invokestatic idx, 3))
    (K : fx_X g M (pc + 3) lv st k Q mc ms) : fx_X g M pc lv (a5 :: a4 :: a3 :: a2 :: a1 :: st) h Q mc ms :=
  fx_callR0 ok hC (fx_siteS ok (as := [a1, a2, a3, a4, a5]) w.1 w.2 d) w.1.1 w.1.2.1 hlv hlo K
theorem fx_Sa5 (ok : fx_ok g) {idx : Nat} {a1 a2 a3 a4 a5 : Value} (w : fx_wS (fx_y M).cls idx 5 M') (hC : fx_C g M' ([a1, a2, a3, a4, a5] : List Value) h (fx_is none k) mc' ms') (hlv : fx_lv M' + 1 ≤ fx_lv M) (hlo : (st.map fun v => v.category).sum + (fx_ml M' + 11) + fx_lw M' ≤ fx_lw M) (d : decode (fx_cc M) pc = .ok (.invokestatic idx, 3))
    (K : fx_X g M (pc + 3) lv st k Q mc ms) : fx_X g M pc lv (a5 :: a4 :: a3 :: a2 :: a1 :: st) h Q (mc' + mc) (ms' + ms) :=
  fx_callR ok hC (fx_siteS ok (as := [a1, a2, a3, a4, a5]) w.1 w.2 d) w.1.1 w.1.2.1 hlv hlo K
theorem fx_Sb5 (ok : fx_ok g) {idx : Nat} {a1 a2 a3 a4 a5 : Value} (w : fx_wS (fx_y M).cls idx 5 M') (hC : fx_C g M' ([a1, a2, a3, a4, a5] : List Value) h (fx_is (some x) k) mc' ms') (hlv : fx_lv M' + 1 ≤ fx_lv M) (hlo : (st.map fun v => v.category).sum + (fx_ml M' + 11) + fx_lw M' ≤ fx_lw M) (d : decode (fx_cc M) pc = .ok (.invokestatic idx, 3))
    (K : fx_X g M (pc + 3) lv (.int x :: st) k Q mc ms) : fx_X g M pc lv (a5 :: a4 :: a3 :: a2 :: a1 :: st) h Q (mc' + mc) (ms' + ms) :=
  fx_callR ok hC (fx_siteS ok (as := [a1, a2, a3, a4, a5]) w.1 w.2 d) w.1.1 w.1.2.1 hlv hlo K
theorem fx_St5 (ok : fx_ok g) {idx : Nat} {a1 a2 a3 a4 a5 : Value} (w : fx_wS (fx_y M).cls idx 5 M') {E : String} (hC : fx_C g M' ([a1, a2, a3, a4, a5] : List Value) h (fx_th E k) mc' ms') (hlv : fx_lv M' + 1 ≤ fx_lv M) (hlo : (st.map fun v => v.category).sum + (fx_ml M' + 11) + fx_lw M' ≤ fx_lw M) (d : decode (fx_cc M) pc = .ok (.invokestatic idx, 3))
    (K : fx_T g M pc lv E k Q mc ms) : fx_X g M pc lv (a5 :: a4 :: a3 :: a2 :: a1 :: st) h Q (mc' + mc) (ms' + ms) :=
  fx_callT ok hC (fx_siteS ok (as := [a1, a2, a3, a4, a5]) w.1 w.2 d) w.1.1 w.1.2.1 hlv hlo K
theorem fx_Vi5 (ok : fx_ok g) {idx : Nat} {b ci : Nat} {a1 a2 a3 a4 a5 : Value} (w : fx_wV (fx_y M).cls idx 5 M' ci) (hb : fx_s h b = some (.inl ci)) (hC : fx_C g M' (Value.ref b :: [a1, a2, a3, a4, a5]) h (fx_is (some x) k) 0 0) (hlv : fx_lv M' + 1 ≤ fx_lv M) (hlo : (st.map fun v => v.category).sum + (fx_ml M' + 11) + fx_lw M' ≤ fx_lw M) (d : decode (fx_cc M) pc = .ok (.invokevirtual idx, 3))
    (K : fx_X g M (pc + 3) lv (.int x :: st) k Q mc ms) : fx_X g M pc lv (a5 :: a4 :: a3 :: a2 :: a1 :: Value.ref b :: st) h Q mc ms := by
  obtain ⟨q, hq, hqc⟩ := w.2.2.2
  exact fx_callR0 ok hC (fx_siteV ok (as := [a1, a2, a3, a4, a5]) w.1 w.2.1 w.2.2.1 hb hq hqc d) w.1.1 w.1.2.1 hlv hlo K
theorem fx_Vv5 (ok : fx_ok g) {idx : Nat} {b ci : Nat} {a1 a2 a3 a4 a5 : Value} (w : fx_wV (fx_y M).cls idx 5 M' ci) (hb : fx_s h b = some (.inl ci)) (hC : fx_C g M' (Value.ref b :: [a1, a2, a3, a4, a5]) h (fx_is none k) 0 0) (hlv : fx_lv M' + 1 ≤ fx_lv M) (hlo : (st.map fun v => v.category).sum + (fx_ml M' + 11) + fx_lw M' ≤ fx_lw M) (d : decode (fx_cc M) pc = .ok (.invokevirtual idx, 3))
    (K : fx_X g M (pc + 3) lv st k Q mc ms) : fx_X g M pc lv (a5 :: a4 :: a3 :: a2 :: a1 :: Value.ref b :: st) h Q mc ms := by
  obtain ⟨q, hq, hqc⟩ := w.2.2.2
  exact fx_callR0 ok hC (fx_siteV ok (as := [a1, a2, a3, a4, a5]) w.1 w.2.1 w.2.2.1 hb hq hqc d) w.1.1 w.1.2.1 hlv hlo K
theorem fx_Va5 (ok : fx_ok g) {idx : Nat} {b ci : Nat} {a1 a2 a3 a4 a5 : Value} (w : fx_wV (fx_y M).cls idx 5 M' ci) (hb : fx_s h b = some (.inl ci)) (hC : fx_C g M' (Value.ref b :: [a1, a2, a3, a4, a5]) h (fx_is none k) mc' ms') (hlv : fx_lv M' + 1 ≤ fx_lv M) (hlo : (st.map fun v => v.category).sum + (fx_ml M' + 11) + fx_lw M' ≤ fx_lw M) (d : decode (fx_cc M) pc = .ok (.invokevirtual idx, 3))
    (K : fx_X g M (pc + 3) lv st k Q mc ms) : fx_X g M pc lv (a5 :: a4 :: a3 :: a2 :: a1 :: Value.ref b :: st) h Q (mc' + mc) (ms' + ms) := by
  obtain ⟨q, hq, hqc⟩ := w.2.2.2
  exact fx_callR ok hC (fx_siteV ok (as := [a1, a2, a3, a4, a5]) w.1 w.2.1 w.2.2.1 hb hq hqc d) w.1.1 w.1.2.1 hlv hlo K
theorem fx_Vb5 (ok : fx_ok g) {idx : Nat} {b ci : Nat} {a1 a2 a3 a4 a5 : Value} (w : fx_wV (fx_y M).cls idx 5 M' ci) (hb : fx_s h b = some (.inl ci)) (hC : fx_C g M' (Value.ref b :: [a1, a2, a3, a4, a5]) h (fx_is (some x) k) mc' ms') (hlv : fx_lv M' + 1 ≤ fx_lv M) (hlo : (st.map fun v => v.category).sum + (fx_ml M' + 11) + fx_lw M' ≤ fx_lw M) (d : decode (fx_cc M) pc = .ok (.invokevirtual idx, 3))
    (K : fx_X g M (pc + 3) lv (.int x :: st) k Q mc ms) : fx_X g M pc lv (a5 :: a4 :: a3 :: a2 :: a1 :: Value.ref b :: st) h Q (mc' + mc) (ms' + ms) := by
  obtain ⟨q, hq, hqc⟩ := w.2.2.2
  exact fx_callR ok hC (fx_siteV ok (as := [a1, a2, a3, a4, a5]) w.1 w.2.1 w.2.2.1 hb hq hqc d) w.1.1 w.1.2.1 hlv hlo K
theorem fx_Vt5 (ok : fx_ok g) {idx : Nat} {b ci : Nat} {a1 a2 a3 a4 a5 : Value} (w : fx_wV (fx_y M).cls idx 5 M' ci) (hb : fx_s h b = some (.inl ci)) {E : String} (hC : fx_C g M' (Value.ref b :: [a1, a2, a3, a4, a5]) h (fx_th E k) mc' ms') (hlv : fx_lv M' + 1 ≤ fx_lv M) (hlo : (st.map fun v => v.category).sum + (fx_ml M' + 11) + fx_lw M' ≤ fx_lw M) (d : decode (fx_cc M) pc = .ok (.invokevirtual idx, 3))
    (K : fx_T g M pc lv E k Q mc ms) : fx_X g M pc lv (a5 :: a4 :: a3 :: a2 :: a1 :: Value.ref b :: st) h Q (mc' + mc) (ms' + ms) := by
  obtain ⟨q, hq, hqc⟩ := w.2.2.2
  exact fx_callT ok hC (fx_siteV ok (as := [a1, a2, a3, a4, a5]) w.1 w.2.1 w.2.2.1 hb hq hqc d) w.1.1 w.1.2.1 hlv hlo K
theorem fx_Si6 (ok : fx_ok g) {idx : Nat} {a1 a2 a3 a4 a5 a6 : Value} (w : fx_wS (fx_y M).cls idx 6 M') (hC : fx_C g M' ([a1, a2, a3, a4, a5, a6] : List Value) h (fx_is (some x) k) 0 0) (hlv : fx_lv M' + 1 ≤ fx_lv M) (hlo : (st.map fun v => v.category).sum + (fx_ml M' + 11) + fx_lw M' ≤ fx_lw M) (d : decode (fx_cc M) pc = .ok (.invokestatic idx, 3))
    (K : fx_X g M (pc + 3) lv (.int x :: st) k Q mc ms) : fx_X g M pc lv (a6 :: a5 :: a4 :: a3 :: a2 :: a1 :: st) h Q mc ms :=
  fx_callR0 ok hC (fx_siteS ok (as := [a1, a2, a3, a4, a5, a6]) w.1 w.2 d) w.1.1 w.1.2.1 hlv hlo K
theorem fx_Sv6 (ok : fx_ok g) {idx : Nat} {a1 a2 a3 a4 a5 a6 : Value} (w : fx_wS (fx_y M).cls idx 6 M') (hC : fx_C g M' ([a1, a2, a3, a4, a5, a6] : List Value) h (fx_is none k) 0 0) (hlv : fx_lv M' + 1 ≤ fx_lv M) (hlo : (st.map fun v => v.category).sum + (fx_ml M' + 11) + fx_lw M' ≤ fx_lw M) (d : decode (fx_cc M) pc = .ok (.invokestatic idx, 3))
    (K : fx_X g M (pc + 3) lv st k Q mc ms) : fx_X g M pc lv (a6 :: a5 :: a4 :: a3 :: a2 :: a1 :: st) h Q mc ms :=
  fx_callR0 ok hC (fx_siteS ok (as := [a1, a2, a3, a4, a5, a6]) w.1 w.2 d) w.1.1 w.1.2.1 hlv hlo K
theorem fx_Sa6 (ok : fx_ok g) {idx : Nat} {a1 a2 a3 a4 a5 a6 : Value} (w : fx_wS (fx_y M).cls idx 6 M') (hC : fx_C g M' ([a1, a2, a3, a4, a5, a6] : List Value) h (fx_is none k) mc' ms') (hlv : fx_lv M' + 1 ≤ fx_lv M) (hlo : (st.map fun v => v.category).sum + (fx_ml M' + 11) + fx_lw M' ≤ fx_lw M) (d : decode (fx_cc M) pc = .ok (.invokestatic idx, 3))
    (K : fx_X g M (pc + 3) lv st k Q mc ms) : fx_X g M pc lv (a6 :: a5 :: a4 :: a3 :: a2 :: a1 :: st) h Q (mc' + mc) (ms' + ms) :=
  fx_callR ok hC (fx_siteS ok (as := [a1, a2, a3, a4, a5, a6]) w.1 w.2 d) w.1.1 w.1.2.1 hlv hlo K
theorem fx_Sb6 (ok : fx_ok g) {idx : Nat} {a1 a2 a3 a4 a5 a6 : Value} (w : fx_wS (fx_y M).cls idx 6 M') (hC : fx_C g M' ([a1, a2, a3, a4, a5, a6] : List Value) h (fx_is (some x) k) mc' ms') (hlv : fx_lv M' + 1 ≤ fx_lv M) (hlo : (st.map fun v => v.category).sum + (fx_ml M' + 11) + fx_lw M' ≤ fx_lw M) (d : decode (fx_cc M) pc = .ok (.invokestatic idx, 3))
    (K : fx_X g M (pc + 3) lv (.int x :: st) k Q mc ms) : fx_X g M pc lv (a6 :: a5 :: a4 :: a3 :: a2 :: a1 :: st) h Q (mc' + mc) (ms' + ms) :=
  fx_callR ok hC (fx_siteS ok (as := [a1, a2, a3, a4, a5, a6]) w.1 w.2 d) w.1.1 w.1.2.1 hlv hlo K
theorem fx_St6 (ok : fx_ok g) {idx : Nat} {a1 a2 a3 a4 a5 a6 : Value} (w : fx_wS (fx_y M).cls idx 6 M') {E : String} (hC : fx_C g M' ([a1, a2, a3, a4, a5, a6] : List Value) h (fx_th E k) mc' ms') (hlv : fx_lv M' + 1 ≤ fx_lv M) (hlo : (st.map fun v => v.category).sum + (fx_ml M' + 11) + fx_lw M' ≤ fx_lw M) (d : decode (fx_cc M) pc = .ok (.invokestatic idx, 3))
    (K : fx_T g M pc lv E k Q mc ms) : fx_X g M pc lv (a6 :: a5 :: a4 :: a3 :: a2 :: a1 :: st) h Q (mc' + mc) (ms' + ms) :=
  fx_callT ok hC (fx_siteS ok (as := [a1, a2, a3, a4, a5, a6]) w.1 w.2 d) w.1.1 w.1.2.1 hlv hlo K
theorem fx_Vi6 (ok : fx_ok g) {idx : Nat} {b ci : Nat} {a1 a2 a3 a4 a5 a6 : Value} (w : fx_wV (fx_y M).cls idx 6 M' ci) (hb : fx_s h b = some (.inl ci)) (hC : fx_C g M' (Value.ref b :: [a1, a2, a3, a4, a5, a6]) h (fx_is (some x) k) 0 0) (hlv : fx_lv M' + 1 ≤ fx_lv M) (hlo : (st.map fun v => v.category).sum + (fx_ml M' + 11) + fx_lw M' ≤ fx_lw M) (d : decode (fx_cc M) pc = .ok (.invokevirtual idx, 3))
    (K : fx_X g M (pc + 3) lv (.int x :: st) k Q mc ms) : fx_X g M pc lv (a6 :: a5 :: a4 :: a3 :: a2 :: a1 :: Value.ref b :: st) h Q mc ms := by
  obtain ⟨q, hq, hqc⟩ := w.2.2.2
  exact fx_callR0 ok hC (fx_siteV ok (as := [a1, a2, a3, a4, a5, a6]) w.1 w.2.1 w.2.2.1 hb hq hqc d) w.1.1 w.1.2.1 hlv hlo K
theorem fx_Vv6 (ok : fx_ok g) {idx : Nat} {b ci : Nat} {a1 a2 a3 a4 a5 a6 : Value} (w : fx_wV (fx_y M).cls idx 6 M' ci) (hb : fx_s h b = some (.inl ci)) (hC : fx_C g M' (Value.ref b :: [a1, a2, a3, a4, a5, a6]) h (fx_is none k) 0 0) (hlv : fx_lv M' + 1 ≤ fx_lv M) (hlo : (st.map fun v => v.category).sum + (fx_ml M' + 11) + fx_lw M' ≤ fx_lw M) (d : decode (fx_cc M) pc = .ok (.invokevirtual idx, 3))
    (K : fx_X g M (pc + 3) lv st k Q mc ms) : fx_X g M pc lv (a6 :: a5 :: a4 :: a3 :: a2 :: a1 :: Value.ref b :: st) h Q mc ms := by
  obtain ⟨q, hq, hqc⟩ := w.2.2.2
  exact fx_callR0 ok hC (fx_siteV ok (as := [a1, a2, a3, a4, a5, a6]) w.1 w.2.1 w.2.2.1 hb hq hqc d) w.1.1 w.1.2.1 hlv hlo K
theorem fx_Va6 (ok : fx_ok g) {idx : Nat} {b ci : Nat} {a1 a2 a3 a4 a5 a6 : Value} (w : fx_wV (fx_y M).cls idx 6 M' ci) (hb : fx_s h b = some (.inl ci)) (hC : fx_C g M' (Value.ref b :: [a1, a2, a3, a4, a5, a6]) h (fx_is none k) mc' ms') (hlv : fx_lv M' + 1 ≤ fx_lv M) (hlo : (st.map fun v => v.category).sum + (fx_ml M' + 11) + fx_lw M' ≤ fx_lw M) (d : decode (fx_cc M) pc = .ok (.invokevirtual idx, 3))
    (K : fx_X g M (pc + 3) lv st k Q mc ms) : fx_X g M pc lv (a6 :: a5 :: a4 :: a3 :: a2 :: a1 :: Value.ref b :: st) h Q (mc' + mc) (ms' + ms) := by
  obtain ⟨q, hq, hqc⟩ := w.2.2.2
  exact fx_callR ok hC (fx_siteV ok (as := [a1, a2, a3, a4, a5, a6]) w.1 w.2.1 w.2.2.1 hb hq hqc d) w.1.1 w.1.2.1 hlv hlo K
theorem fx_Vb6 (ok : fx_ok g) {idx : Nat} {b ci : Nat} {a1 a2 a3 a4 a5 a6 : Value} (w : fx_wV (fx_y M).cls idx 6 M' ci) (hb : fx_s h b = some (.inl ci)) (hC : fx_C g M' (Value.ref b :: [a1, a2, a3, a4, a5, a6]) h (fx_is (some x) k) mc' ms') (hlv : fx_lv M' + 1 ≤ fx_lv M) (hlo : (st.map fun v => v.category).sum + (fx_ml M' + 11) + fx_lw M' ≤ fx_lw M) (d : decode (fx_cc M) pc = .ok (.invokevirtual idx, 3))
    (K : fx_X g M (pc + 3) lv (.int x :: st) k Q mc ms) : fx_X g M pc lv (a6 :: a5 :: a4 :: a3 :: a2 :: a1 :: Value.ref b :: st) h Q (mc' + mc) (ms' + ms) := by
  obtain ⟨q, hq, hqc⟩ := w.2.2.2
  exact fx_callR ok hC (fx_siteV ok (as := [a1, a2, a3, a4, a5, a6]) w.1 w.2.1 w.2.2.1 hb hq hqc d) w.1.1 w.1.2.1 hlv hlo K
theorem fx_Vt6 (ok : fx_ok g) {idx : Nat} {b ci : Nat} {a1 a2 a3 a4 a5 a6 : Value} (w : fx_wV (fx_y M).cls idx 6 M' ci) (hb : fx_s h b = some (.inl ci)) {E : String} (hC : fx_C g M' (Value.ref b :: [a1, a2, a3, a4, a5, a6]) h (fx_th E k) mc' ms') (hlv : fx_lv M' + 1 ≤ fx_lv M) (hlo : (st.map fun v => v.category).sum + (fx_ml M' + 11) + fx_lw M' ≤ fx_lw M) (d : decode (fx_cc M) pc = .ok (.invokevirtual idx, 3))
    (K : fx_T g M pc lv E k Q mc ms) : fx_X g M pc lv (a6 :: a5 :: a4 :: a3 :: a2 :: a1 :: Value.ref b :: st) h Q (mc' + mc) (ms' + ms) := by
  obtain ⟨q, hq, hqc⟩ := w.2.2.2
  exact fx_callT ok hC (fx_siteV ok (as := [a1, a2, a3, a4, a5, a6]) w.1 w.2.1 w.2.2.1 hb hq hqc d) w.1.1 w.1.2.1 hlv hlo K
theorem fx_Si7 (ok : fx_ok g) {idx : Nat} {a1 a2 a3 a4 a5 a6 a7 : Value} (w : fx_wS (fx_y M).cls idx 7 M') (hC : fx_C g M' ([a1, a2, a3, a4, a5, a6, a7] : List Value) h (fx_is (some x) k) 0 0) (hlv : fx_lv M' + 1 ≤ fx_lv M) (hlo : (st.map fun v => v.category).sum + (fx_ml M' + 11) + fx_lw M' ≤ fx_lw M) (d : decode (fx_cc M) pc = .ok (.invokestatic idx, 3))
    (K : fx_X g M (pc + 3) lv (.int x :: st) k Q mc ms) : fx_X g M pc lv (a7 :: a6 :: a5 :: a4 :: a3 :: a2 :: a1 :: st) h Q mc ms :=
  fx_callR0 ok hC (fx_siteS ok (as := [a1, a2, a3, a4, a5, a6, a7]) w.1 w.2 d) w.1.1 w.1.2.1 hlv hlo K
theorem fx_Sv7 (ok : fx_ok g) {idx : Nat} {a1 a2 a3 a4 a5 a6 a7 : Value} (w : fx_wS (fx_y M).cls idx 7 M') (hC : fx_C g M' ([a1, a2, a3, a4, a5, a6, a7] : List Value) h (fx_is none k) 0 0) (hlv : fx_lv M' + 1 ≤ fx_lv M) (hlo : (st.map fun v => v.category).sum + (fx_ml M' + 11) + fx_lw M' ≤ fx_lw M) (d : decode (fx_cc M) pc = .ok (.invokestatic idx, 3))
    (K : fx_X g M (pc + 3) lv st k Q mc ms) : fx_X g M pc lv (a7 :: a6 :: a5 :: a4 :: a3 :: a2 :: a1 :: st) h Q mc ms :=
  fx_callR0 ok hC (fx_siteS ok (as := [a1, a2, a3, a4, a5, a6, a7]) w.1 w.2 d) w.1.1 w.1.2.1 hlv hlo K
theorem fx_Sa7 (ok : fx_ok g) {idx : Nat} {a1 a2 a3 a4 a5 a6 a7 : Value} (w : fx_wS (fx_y M).cls idx 7 M') (hC : fx_C g M' ([a1, a2, a3, a4, a5, a6, a7] : List Value) h (fx_is none k) mc' ms') (hlv : fx_lv M' + 1 ≤ fx_lv M) (hlo : (st.map fun v => v.category).sum + (fx_ml M' + 11) + fx_lw M' ≤ fx_lw M) (d : decode (fx_cc M) pc = .ok (.invokestatic idx, 3))
    (K : fx_X g M (pc + 3) lv st k Q mc ms) : fx_X g M pc lv (a7 :: a6 :: a5 :: a4 :: a3 :: a2 :: a1 :: st) h Q (mc' + mc) (ms' + ms) :=
  fx_callR ok hC (fx_siteS ok (as := [a1, a2, a3, a4, a5, a6, a7]) w.1 w.2 d) w.1.1 w.1.2.1 hlv hlo K
theorem fx_Sb7 (ok : fx_ok g) {idx : Nat} {a1 a2 a3 a4 a5 a6 a7 : Value} (w : fx_wS (fx_y M).cls idx 7 M') (hC : fx_C g M' ([a1, a2, a3, a4, a5, a6, a7] : List Value) h (fx_is (some x) k) mc' ms') (hlv : fx_lv M' + 1 ≤ fx_lv M) (hlo : (st.map fun v => v.category).sum + (fx_ml M' + 11) + fx_lw M' ≤ fx_lw M) (d : decode (fx_cc M) pc = .ok (.invokestatic idx, 3))
    (K : fx_X g M (pc + 3) lv (.int x :: st) k Q mc ms) : fx_X g M pc lv (a7 :: a6 :: a5 :: a4 :: a3 :: a2 :: a1 :: st) h Q (mc' + mc) (ms' + ms) :=
  fx_callR ok hC (fx_siteS ok (as := [a1, a2, a3, a4, a5, a6, a7]) w.1 w.2 d) w.1.1 w.1.2.1 hlv hlo K
theorem fx_St7 (ok : fx_ok g) {idx : Nat} {a1 a2 a3 a4 a5 a6 a7 : Value} (w : fx_wS (fx_y M).cls idx 7 M') {E : String} (hC : fx_C g M' ([a1, a2, a3, a4, a5, a6, a7] : List Value) h (fx_th E k) mc' ms') (hlv : fx_lv M' + 1 ≤ fx_lv M) (hlo : (st.map fun v => v.category).sum + (fx_ml M' + 11) + fx_lw M' ≤ fx_lw M) (d : decode (fx_cc M) pc = .ok (.invokestatic idx, 3))
    (K : fx_T g M pc lv E k Q mc ms) : fx_X g M pc lv (a7 :: a6 :: a5 :: a4 :: a3 :: a2 :: a1 :: st) h Q (mc' + mc) (ms' + ms) :=
  fx_callT ok hC (fx_siteS ok (as := [a1, a2, a3, a4, a5, a6, a7]) w.1 w.2 d) w.1.1 w.1.2.1 hlv hlo K
theorem fx_Vi7 (ok : fx_ok g) {idx : Nat} {b ci : Nat} {a1 a2 a3 a4 a5 a6 a7 : Value} (w : fx_wV (fx_y M).cls idx 7 M' ci) (hb : fx_s h b = some (.inl ci)) (hC : fx_C g M' (Value.ref b :: [a1, a2, a3, a4, a5, a6, a7]) h (fx_is (some x) k) 0 0) (hlv : fx_lv M' + 1 ≤ fx_lv M) (hlo : (st.map fun v => v.category).sum + (fx_ml M' + 11) + fx_lw M' ≤ fx_lw M) (d : decode (fx_cc M) pc = .ok (.invokevirtual idx, 3))
    (K : fx_X g M (pc + 3) lv (.int x :: st) k Q mc ms) : fx_X g M pc lv (a7 :: a6 :: a5 :: a4 :: a3 :: a2 :: a1 :: Value.ref b :: st) h Q mc ms := by
  obtain ⟨q, hq, hqc⟩ := w.2.2.2
  exact fx_callR0 ok hC (fx_siteV ok (as := [a1, a2, a3, a4, a5, a6, a7]) w.1 w.2.1 w.2.2.1 hb hq hqc d) w.1.1 w.1.2.1 hlv hlo K
theorem fx_Vv7 (ok : fx_ok g) {idx : Nat} {b ci : Nat} {a1 a2 a3 a4 a5 a6 a7 : Value} (w : fx_wV (fx_y M).cls idx 7 M' ci) (hb : fx_s h b = some (.inl ci)) (hC : fx_C g M' (Value.ref b :: [a1, a2, a3, a4, a5, a6, a7]) h (fx_is none k) 0 0) (hlv : fx_lv M' + 1 ≤ fx_lv M) (hlo : (st.map fun v => v.category).sum + (fx_ml M' + 11) + fx_lw M' ≤ fx_lw M) (d : decode (fx_cc M) pc = .ok (.invokevirtual idx, 3))
    (K : fx_X g M (pc + 3) lv st k Q mc ms) : fx_X g M pc lv (a7 :: a6 :: a5 :: a4 :: a3 :: a2 :: a1 :: Value.ref b :: st) h Q mc ms := by
  obtain ⟨q, hq, hqc⟩ := w.2.2.2
  exact fx_callR0 ok hC (fx_siteV ok (as := [a1, a2, a3, a4, a5, a6, a7]) w.1 w.2.1 w.2.2.1 hb hq hqc d) w.1.1 w.1.2.1 hlv hlo K
theorem fx_Va7 (ok : fx_ok g) {idx : Nat} {b ci : Nat} {a1 a2 a3 a4 a5 a6 a7 : Value} (w : fx_wV (fx_y M).cls idx 7 M' ci) (hb : fx_s h b = some (.inl ci)) (hC : fx_C g M' (Value.ref b :: [a1, a2, a3, a4, a5, a6, a7]) h (fx_is none k) mc' ms') (hlv : fx_lv M' + 1 ≤ fx_lv M) (hlo : (st.map fun v => v.category).sum + (fx_ml M' + 11) + fx_lw M' ≤ fx_lw M) (d : decode (fx_cc M) pc = .ok (.invokevirtual idx, 3))
    (K : fx_X g M (pc + 3) lv st k Q mc ms) : fx_X g M pc lv (a7 :: a6 :: a5 :: a4 :: a3 :: a2 :: a1 :: Value.ref b :: st) h Q (mc' + mc) (ms' + ms) := by
  obtain ⟨q, hq, hqc⟩ := w.2.2.2
  exact fx_callR ok hC (fx_siteV ok (as := [a1, a2, a3, a4, a5, a6, a7]) w.1 w.2.1 w.2.2.1 hb hq hqc d) w.1.1 w.1.2.1 hlv hlo K
theorem fx_Vb7 (ok : fx_ok g) {idx : Nat} {b ci : Nat} {a1 a2 a3 a4 a5 a6 a7 : Value} (w : fx_wV (fx_y M).cls idx 7 M' ci) (hb : fx_s h b = some (.inl ci)) (hC : fx_C g M' (Value.ref b :: [a1, a2, a3, a4, a5, a6, a7]) h (fx_is (some x) k) mc' ms') (hlv : fx_lv M' + 1 ≤ fx_lv M) (hlo : (st.map fun v => v.category).sum + (fx_ml M' + 11) + fx_lw M' ≤ fx_lw M) (d : decode (fx_cc M) pc = .ok (.invokevirtual idx, 3))
    (K : fx_X g M (pc + 3) lv (.int x :: st) k Q mc ms) : fx_X g M pc lv (a7 :: a6 :: a5 :: a4 :: a3 :: a2 :: a1 :: Value.ref b :: st) h Q (mc' + mc) (ms' + ms) := by
  obtain ⟨q, hq, hqc⟩ := w.2.2.2
  exact fx_callR ok hC (fx_siteV ok (as := [a1, a2, a3, a4, a5, a6, a7]) w.1 w.2.1 w.2.2.1 hb hq hqc d) w.1.1 w.1.2.1 hlv hlo K
theorem fx_Vt7 (ok : fx_ok g) {idx : Nat} {b ci : Nat} {a1 a2 a3 a4 a5 a6 a7 : Value} (w : fx_wV (fx_y M).cls idx 7 M' ci) (hb : fx_s h b = some (.inl ci)) {E : String} (hC : fx_C g M' (Value.ref b :: [a1, a2, a3, a4, a5, a6, a7]) h (fx_th E k) mc' ms') (hlv : fx_lv M' + 1 ≤ fx_lv M) (hlo : (st.map fun v => v.category).sum + (fx_ml M' + 11) + fx_lw M' ≤ fx_lw M) (d : decode (fx_cc M) pc = .ok (.invokevirtual idx, 3))
    (K : fx_T g M pc lv E k Q mc ms) : fx_X g M pc lv (a7 :: a6 :: a5 :: a4 :: a3 :: a2 :: a1 :: Value.ref b :: st) h Q (mc' + mc) (ms' + ms) := by
  obtain ⟨q, hq, hqc⟩ := w.2.2.2
  exact fx_callT ok hC (fx_siteV ok (as := [a1, a2, a3, a4, a5, a6, a7]) w.1 w.2.1 w.2.2.1 hb hq hqc d) w.1.1 w.1.2.1 hlv hlo K
theorem fx_Si8 (ok : fx_ok g) {idx : Nat} {a1 a2 a3 a4 a5 a6 a7 a8 : Value} (w : fx_wS (fx_y M).cls idx 8 M') (hC : fx_C g M' ([a1, a2, a3, a4, a5, a6, a7, a8] : List Value) h (fx_is (some x) k) 0 0) (hlv : fx_lv M' + 1 ≤ fx_lv M) (hlo : (st.map fun v => v.category).sum + (fx_ml M' + 11) + fx_lw M' ≤ fx_lw M) (d : decode (fx_cc M) pc = .ok (.invokestatic idx, 3))
    (K : fx_X g M (pc + 3) lv (.int x :: st) k Q mc ms) : fx_X g M pc lv (a8 :: a7 :: a6 :: a5 :: a4 :: a3 :: a2 :: a1 :: st) h Q mc ms :=
  fx_callR0 ok hC (fx_siteS ok (as := [a1, a2, a3, a4, a5, a6, a7, a8]) w.1 w.2 d) w.1.1 w.1.2.1 hlv hlo K
theorem fx_Sv8 (ok : fx_ok g) {idx : Nat} {a1 a2 a3 a4 a5 a6 a7 a8 : Value} (w : fx_wS (fx_y M).cls idx 8 M') (hC : fx_C g M' ([a1, a2, a3, a4, a5, a6, a7, a8] : List Value) h (fx_is none k) 0 0) (hlv : fx_lv M' + 1 ≤ fx_lv M) (hlo : (st.map fun v => v.category).sum + (fx_ml M' + 11) + fx_lw M' ≤ fx_lw M) (d : decode (fx_cc M) pc = .ok (.invokestatic idx, 3))
    (K : fx_X g M (pc + 3) lv st k Q mc ms) : fx_X g M pc lv (a8 :: a7 :: a6 :: a5 :: a4 :: a3 :: a2 :: a1 :: st) h Q mc ms :=
  fx_callR0 ok hC (fx_siteS ok (as := [a1, a2, a3, a4, a5, a6, a7, a8]) w.1 w.2 d) w.1.1 w.1.2.1 hlv hlo K
theorem fx_Sa8 (ok : fx_ok g) {idx : Nat} {a1 a2 a3 a4 a5 a6 a7 a8 : Value} (w : fx_wS (fx_y M).cls idx 8 M') (hC : fx_C g M' ([a1, a2, a3, a4, a5, a6, a7, a8] : List Value) h (fx_is none k) mc' ms') (hlv : fx_lv M' + 1 ≤ fx_lv M) (hlo : (st.map fun v => v.category).sum + (fx_ml M' + 11) + fx_lw M' ≤ fx_lw M) (d : decode (fx_cc M) pc = .ok (.invokestatic idx, 3))
    (K : fx_X g M (pc + 3) lv st k Q mc ms) : fx_X g M pc lv (a8 :: a7 :: a6 :: a5 :: a4 :: a3 :: a2 :: a1 :: st) h Q (mc' + mc) (ms' + ms) :=
  fx_callR ok hC (fx_siteS ok (as := [a1, a2, a3, a4, a5, a6, a7, a8]) w.1 w.2 d) w.1.1 w.1.2.1 hlv hlo K
theorem fx_Sb8 (ok : fx_ok g) {idx : Nat} {a1 a2 a3 a4 a5 a6 a7 a8 : Value} (w : fx_wS (fx_y M).cls idx 8 M') (hC : fx_C g M' ([a1, a2, a3, a4, a5, a6, a7, a8] : List Value) h (fx_is (some x) k) mc' ms') (hlv : fx_lv M' + 1 ≤ fx_lv M) (hlo : (st.map fun v => v.category).sum + (fx_ml M' + 11) + fx_lw M' ≤ fx_lw M) (d : decode (fx_cc M) pc = .ok (.invokestatic idx, 3))
    (K : fx_X g M (pc + 3) lv (.int x :: st) k Q mc ms) : fx_X g M pc lv (a8 :: a7 :: a6 :: a5 :: a4 :: a3 :: a2 :: a1 :: st) h Q (mc' + mc) (ms' + ms) :=
  fx_callR ok hC (fx_siteS ok (as := [a1, a2, a3, a4, a5, a6, a7, a8]) w.1 w.2 d) w.1.1 w.1.2.1 hlv hlo K
theorem fx_St8 (ok : fx_ok g) {idx : Nat} {a1 a2 a3 a4 a5 a6 a7 a8 : Value} (w : fx_wS (fx_y M).cls idx 8 M') {E : String} (hC : fx_C g M' ([a1, a2, a3, a4, a5, a6, a7, a8] : List Value) h (fx_th E k) mc' ms') (hlv : fx_lv M' + 1 ≤ fx_lv M) (hlo : (st.map fun v => v.category).sum + (fx_ml M' + 11) + fx_lw M' ≤ fx_lw M) (d : decode (fx_cc M) pc = .ok (.invokestatic idx, 3))
    (K : fx_T g M pc lv E k Q mc ms) : fx_X g M pc lv (a8 :: a7 :: a6 :: a5 :: a4 :: a3 :: a2 :: a1 :: st) h Q (mc' + mc) (ms' + ms) :=
  fx_callT ok hC (fx_siteS ok (as := [a1, a2, a3, a4, a5, a6, a7, a8]) w.1 w.2 d) w.1.1 w.1.2.1 hlv hlo K
theorem fx_Vi8 (ok : fx_ok g) {idx : Nat} {b ci : Nat} {a1 a2 a3 a4 a5 a6 a7 a8 : Value} (w : fx_wV (fx_y M).cls idx 8 M' ci) (hb : fx_s h b = some (.inl ci)) (hC : fx_C g M' (Value.ref b :: [a1, a2, a3, a4, a5, a6, a7, a8]) h (fx_is (some x) k) 0 0) (hlv : fx_lv M' + 1 ≤ fx_lv M) (hlo : (st.map fun v => v.category).sum + (fx_ml M' + 11) + fx_lw M' ≤ fx_lw M) (d : decode (fx_cc M) pc = .ok (.invokevirtual idx, 3))
    (K : fx_X g M (pc + 3) lv (.int x :: st) k Q mc ms) : fx_X g M pc lv (a8 :: a7 :: a6 :: a5 :: a4 :: a3 :: a2 :: a1 :: Value.ref b :: st) h Q mc ms := by
  obtain ⟨q, hq, hqc⟩ := w.2.2.2
  exact fx_callR0 ok hC (fx_siteV ok (as := [a1, a2, a3, a4, a5, a6, a7, a8]) w.1 w.2.1 w.2.2.1 hb hq hqc d) w.1.1 w.1.2.1 hlv hlo K
theorem fx_Vv8 (ok : fx_ok g) {idx : Nat} {b ci : Nat} {a1 a2 a3 a4 a5 a6 a7 a8 : Value} (w : fx_wV (fx_y M).cls idx 8 M' ci) (hb : fx_s h b = some (.inl ci)) (hC : fx_C g M' (Value.ref b :: [a1, a2, a3, a4, a5, a6, a7, a8]) h (fx_is none k) 0 0) (hlv : fx_lv M' + 1 ≤ fx_lv M) (hlo : (st.map fun v => v.category).sum + (fx_ml M' + 11) + fx_lw M' ≤ fx_lw M) (d : decode (fx_cc M) pc = .ok (.invokevirtual idx, 3))
    (K : fx_X g M (pc + 3) lv st k Q mc ms) : fx_X g M pc lv (a8 :: a7 :: a6 :: a5 :: a4 :: a3 :: a2 :: a1 :: Value.ref b :: st) h Q mc ms := by
  obtain ⟨q, hq, hqc⟩ := w.2.2.2
  exact fx_callR0 ok hC (fx_siteV ok (as := [a1, a2, a3, a4, a5, a6, a7, a8]) w.1 w.2.1 w.2.2.1 hb hq hqc d) w.1.1 w.1.2.1 hlv hlo K
theorem fx_Va8 (ok : fx_ok g) {idx : Nat} {b ci : Nat} {a1 a2 a3 a4 a5 a6 a7 a8 : Value} (w : fx_wV (fx_y M).cls idx 8 M' ci) (hb : fx_s h b = some (.inl ci)) (hC : fx_C g M' (Value.ref b :: [a1, a2, a3, a4, a5, a6, a7, a8]) h (fx_is none k) mc' ms') (hlv : fx_lv M' + 1 ≤ fx_lv M) (hlo : (st.map fun v => v.category).sum + (fx_ml M' + 11) + fx_lw M' ≤ fx_lw M) (d : decode (fx_cc M) pc = .ok (.invokevirtual idx, 3))
    (K : fx_X g M (pc + 3) lv st k Q mc ms) : fx_X g M pc lv (a8 :: a7 :: a6 :: a5 :: a4 :: a3 :: a2 :: a1 :: Value.ref b :: st) h Q (mc' + mc) (ms' + ms) := by
  obtain ⟨q, hq, hqc⟩ := w.2.2.2
  exact fx_callR ok hC (fx_siteV ok (as := [a1, a2, a3, a4, a5, a6, a7, a8]) w.1 w.2.1 w.2.2.1 hb hq hqc d) w.1.1 w.1.2.1 hlv hlo K
theorem fx_Vb8 (ok : fx_ok g) {idx : Nat} {b ci : Nat} {a1 a2 a3 a4 a5 a6 a7 a8 : Value} (w : fx_wV (fx_y M).cls idx 8 M' ci) (hb : fx_s h b = some (.inl ci)) (hC : fx_C g M' (Value.ref b :: [a1, a2, a3, a4, a5, a6, a7, a8]) h (fx_is (some x) k) mc' ms') (hlv : fx_lv M' + 1 ≤ fx_lv M) (hlo : (st.map fun v => v.category).sum + (fx_ml M' + 11) + fx_lw M' ≤ fx_lw M) (d : decode (fx_cc M) pc = .ok (.invokevirtual idx, 3))
    (K : fx_X g M (pc + 3) lv (.int x :: st) k Q mc ms) : fx_X g M pc lv (a8 :: a7 :: a6 :: a5 :: a4 :: a3 :: a2 :: a1 :: Value.ref b :: st) h Q (mc' + mc) (ms' + ms) := by
  obtain ⟨q, hq, hqc⟩ := w.2.2.2
  exact fx_callR ok hC (fx_siteV ok (as := [a1, a2, a3, a4, a5, a6, a7, a8]) w.1 w.2.1 w.2.2.1 hb hq hqc d) w.1.1 w.1.2.1 hlv hlo K
theorem fx_Vt8 (ok : fx_ok g) {idx : Nat} {b ci : Nat} {a1 a2 a3 a4 a5 a6 a7 a8 : Value} (w : fx_wV (fx_y M).cls idx 8 M' ci) (hb : fx_s h b = some (.inl ci)) {E : String} (hC : fx_C g M' (Value.ref b :: [a1, a2, a3, a4, a5, a6, a7, a8]) h (fx_th E k) mc' ms') (hlv : fx_lv M' + 1 ≤ fx_lv M) (hlo : (st.map fun v => v.category).sum + (fx_ml M' + 11) + fx_lw M' ≤ fx_lw M) (d : decode (fx_cc M) pc = .ok (.invokevirtual idx, 3))
    (K : fx_T g M pc lv E k Q mc ms) : fx_X g M pc lv (a8 :: a7 :: a6 :: a5 :: a4 :: a3 :: a2 :: a1 :: Value.ref b :: st) h Q (mc' + mc) (ms' + ms) := by
  obtain ⟨q, hq, hqc⟩ := w.2.2.2
  exact fx_callT ok hC (fx_siteV ok (as := [a1, a2, a3, a4, a5, a6, a7, a8]) w.1 w.2.1 w.2.2.1 hb hq hqc d) w.1.1 w.1.2.1 hlv hlo K
theorem fx_Si9 (ok : fx_ok g) {idx : Nat} {a1 a2 a3 a4 a5 a6 a7 a8 a9 : Value} (w : fx_wS (fx_y M).cls idx 9 M') (hC : fx_C g M' ([a1, a2, a3, a4, a5, a6, a7, a8, a9] : List Value) h (fx_is (some x) k) 0 0) (hlv : fx_lv M' + 1 ≤ fx_lv M) (hlo : (st.map fun v => v.category).sum + (fx_ml M' + 11) + fx_lw M' ≤ fx_lw M) (d : decode (fx_cc M) pc = .ok (.invokestatic idx, 3))
    (K : fx_X g M (pc + 3) lv (.int x :: st) k Q mc ms) : fx_X g M pc lv (a9 :: a8 :: a7 :: a6 :: a5 :: a4 :: a3 :: a2 :: a1 :: st) h Q mc ms :=
  fx_callR0 ok hC (fx_siteS ok (as := [a1, a2, a3, a4, a5, a6, a7, a8, a9]) w.1 w.2 d) w.1.1 w.1.2.1 hlv hlo K
theorem fx_Sv9 (ok : fx_ok g) {idx : Nat} {a1 a2 a3 a4 a5 a6 a7 a8 a9 : Value} (w : fx_wS (fx_y M).cls idx 9 M') (hC : fx_C g M' ([a1, a2, a3, a4, a5, a6, a7, a8, a9] : List Value) h (fx_is none k) 0 0) (hlv : fx_lv M' + 1 ≤ fx_lv M) (hlo : (st.map fun v => v.category).sum + (fx_ml M' + 11) + fx_lw M' ≤ fx_lw M) (d : decode (fx_cc M) pc = .ok (.invokestatic idx, 3))
    (K : fx_X g M (pc + 3) lv st k Q mc ms) : fx_X g M pc lv (a9 :: a8 :: a7 :: a6 :: a5 :: a4 :: a3 :: a2 :: a1 :: st) h Q mc ms :=
  fx_callR0 ok hC (fx_siteS ok (as := [a1, a2, a3, a4, a5, a6, a7, a8, a9]) w.1 w.2 d) w.1.1 w.1.2.1 hlv hlo K
theorem fx_Sa9 (ok : fx_ok g) {idx : Nat} {a1 a2 a3 a4 a5 a6 a7 a8 a9 : Value} (w : fx_wS (fx_y M).cls idx 9 M') (hC : fx_C g M' ([a1, a2, a3, a4, a5, a6, a7, a8, a9] : List Value) h (fx_is none k) mc' ms') (hlv : fx_lv M' + 1 ≤ fx_lv M) (hlo : (st.map fun v => v.category).sum + (fx_ml M' + 11) + fx_lw M' ≤ fx_lw M) (d : decode (fx_cc M) pc = .ok (.invokestatic idx, 3))
    (K : fx_X g M (pc + 3) lv st k Q mc ms) : fx_X g M pc lv (a9 :: a8 :: a7 :: a6 :: a5 :: a4 :: a3 :: a2 :: a1 :: st) h Q (mc' + mc) (ms' + ms) :=
  fx_callR ok hC (fx_siteS ok (as := [a1, a2, a3, a4, a5, a6, a7, a8, a9]) w.1 w.2 d) w.1.1 w.1.2.1 hlv hlo K
theorem fx_Sb9 (ok : fx_ok g) {idx : Nat} {a1 a2 a3 a4 a5 a6 a7 a8 a9 : Value} (w : fx_wS (fx_y M).cls idx 9 M') (hC : fx_C g M' ([a1, a2, a3, a4, a5, a6, a7, a8, a9] : List Value) h (fx_is (some x) k) mc' ms') (hlv : fx_lv M' + 1 ≤ fx_lv M) (hlo : (st.map fun v => v.category).sum + (fx_ml M' + 11) + fx_lw M' ≤ fx_lw M) (d : decode (fx_cc M) pc = .ok (.invokestatic idx, 3))
    (K : fx_X g M (pc + 3) lv (.int x :: st) k Q mc ms) : fx_X g M pc lv (a9 :: a8 :: a7 :: a6 :: a5 :: a4 :: a3 :: a2 :: a1 :: st) h Q (mc' + mc) (ms' + ms) :=
  fx_callR ok hC (fx_siteS ok (as := [a1, a2, a3, a4, a5, a6, a7, a8, a9]) w.1 w.2 d) w.1.1 w.1.2.1 hlv hlo K
theorem fx_St9 (ok : fx_ok g) {idx : Nat} {a1 a2 a3 a4 a5 a6 a7 a8 a9 : Value} (w : fx_wS (fx_y M).cls idx 9 M') {E : String} (hC : fx_C g M' ([a1, a2, a3, a4, a5, a6, a7, a8, a9] : List Value) h (fx_th E k) mc' ms') (hlv : fx_lv M' + 1 ≤ fx_lv M) (hlo : (st.map fun v => v.category).sum + (fx_ml M' + 11) + fx_lw M' ≤ fx_lw M) (d : decode (fx_cc M) pc = .ok (.invokestatic idx, 3))
    (K : fx_T g M pc lv E k Q mc ms) : fx_X g M pc lv (a9 :: a8 :: a7 :: a6 :: a5 :: a4 :: a3 :: a2 :: a1 :: st) h Q (mc' + mc) (ms' + ms) :=
  fx_callT ok hC (fx_siteS ok (as := [a1, a2, a3, a4, a5, a6, a7, a8, a9]) w.1 w.2 d) w.1.1 w.1.2.1 hlv hlo K
theorem fx_Vi9 (ok : fx_ok g) {idx : Nat} {b ci : Nat} {a1 a2 a3 a4 a5 a6 a7 a8 a9 : Value} (w : fx_wV (fx_y M).cls idx 9 M' ci) (hb : fx_s h b = some (.inl ci)) (hC : fx_C g M' (Value.ref b :: [a1, a2, a3, a4, a5, a6, a7, a8, a9]) h (fx_is (some x) k) 0 0) (hlv : fx_lv M' + 1 ≤ fx_lv M) (hlo : (st.map fun v => v.category).sum + (fx_ml M' + 11) + fx_lw M' ≤ fx_lw M) (d : decode (fx_cc M) pc = .ok (.invokevirtual idx, 3))
    (K : fx_X g M (pc + 3) lv (.int x :: st) k Q mc ms) : fx_X g M pc lv (a9 :: a8 :: a7 :: a6 :: a5 :: a4 :: a3 :: a2 :: a1 :: Value.ref b :: st) h Q mc ms := by
  obtain ⟨q, hq, hqc⟩ := w.2.2.2
  exact fx_callR0 ok hC (fx_siteV ok (as := [a1, a2, a3, a4, a5, a6, a7, a8, a9]) w.1 w.2.1 w.2.2.1 hb hq hqc d) w.1.1 w.1.2.1 hlv hlo K
theorem fx_Vv9 (ok : fx_ok g) {idx : Nat} {b ci : Nat} {a1 a2 a3 a4 a5 a6 a7 a8 a9 : Value} (w : fx_wV (fx_y M).cls idx 9 M' ci) (hb : fx_s h b = some (.inl ci)) (hC : fx_C g M' (Value.ref b :: [a1, a2, a3, a4, a5, a6, a7, a8, a9]) h (fx_is none k) 0 0) (hlv : fx_lv M' + 1 ≤ fx_lv M) (hlo : (st.map fun v => v.category).sum + (fx_ml M' + 11) + fx_lw M' ≤ fx_lw M) (d : decode (fx_cc M) pc = .ok (.invokevirtual idx, 3))
    (K : fx_X g M (pc + 3) lv st k Q mc ms) : fx_X g M pc lv (a9 :: a8 :: a7 :: a6 :: a5 :: a4 :: a3 :: a2 :: a1 :: Value.ref b :: st) h Q mc ms := by
  obtain ⟨q, hq, hqc⟩ := w.2.2.2
  exact fx_callR0 ok hC (fx_siteV ok (as := [a1, a2, a3, a4, a5, a6, a7, a8, a9]) w.1 w.2.1 w.2.2.1 hb hq hqc d) w.1.1 w.1.2.1 hlv hlo K
theorem fx_Va9 (ok : fx_ok g) {idx : Nat} {b ci : Nat} {a1 a2 a3 a4 a5 a6 a7 a8 a9 : Value} (w : fx_wV (fx_y M).cls idx 9 M' ci) (hb : fx_s h b = some (.inl ci)) (hC : fx_C g M' (Value.ref b :: [a1, a2, a3, a4, a5, a6, a7, a8, a9]) h (fx_is none k) mc' ms') (hlv : fx_lv M' + 1 ≤ fx_lv M) (hlo : (st.map fun v => v.category).sum + (fx_ml M' + 11) + fx_lw M' ≤ fx_lw M) (d : decode (fx_cc M) pc = .ok (.invokevirtual idx, 3))
    (K : fx_X g M (pc + 3) lv st k Q mc ms) : fx_X g M pc lv (a9 :: a8 :: a7 :: a6 :: a5 :: a4 :: a3 :: a2 :: a1 :: Value.ref b :: st) h Q (mc' + mc) (ms' + ms) := by
  obtain ⟨q, hq, hqc⟩ := w.2.2.2
  exact fx_callR ok hC (fx_siteV ok (as := [a1, a2, a3, a4, a5, a6, a7, a8, a9]) w.1 w.2.1 w.2.2.1 hb hq hqc d) w.1.1 w.1.2.1 hlv hlo K
theorem fx_Vb9 (ok : fx_ok g) {idx : Nat} {b ci : Nat} {a1 a2 a3 a4 a5 a6 a7 a8 a9 : Value} (w : fx_wV (fx_y M).cls idx 9 M' ci) (hb : fx_s h b = some (.inl ci)) (hC : fx_C g M' (Value.ref b :: [a1, a2, a3, a4, a5, a6, a7, a8, a9]) h (fx_is (some x) k) mc' ms') (hlv : fx_lv M' + 1 ≤ fx_lv M) (hlo : (st.map fun v => v.category).sum + (fx_ml M' + 11) + fx_lw M' ≤ fx_lw M) (d : decode (fx_cc M) pc = .ok (.invokevirtual idx, 3))
    (K : fx_X g M (pc + 3) lv (.int x :: st) k Q mc ms) : fx_X g M pc lv (a9 :: a8 :: a7 :: a6 :: a5 :: a4 :: a3 :: a2 :: a1 :: Value.ref b :: st) h Q (mc' + mc) (ms' + ms) := by
  obtain ⟨q, hq, hqc⟩ := w.2.2.2
  exact fx_callR ok hC (fx_siteV ok (as := [a1, a2, a3, a4, a5, a6, a7, a8, a9]) w.1 w.2.1 w.2.2.1 hb hq hqc d) w.1.1 w.1.2.1 hlv hlo K
theorem fx_Vt9 (ok : fx_ok g) {idx : Nat} {b ci : Nat} {a1 a2 a3 a4 a5 a6 a7 a8 a9 : Value} (w : fx_wV (fx_y M).cls idx 9 M' ci) (hb : fx_s h b = some (.inl ci)) {E : String} (hC : fx_C g M' (Value.ref b :: [a1, a2, a3, a4, a5, a6, a7, a8, a9]) h (fx_th E k) mc' ms') (hlv : fx_lv M' + 1 ≤ fx_lv M) (hlo : (st.map fun v => v.category).sum + (fx_ml M' + 11) + fx_lw M' ≤ fx_lw M) (d : decode (fx_cc M) pc = .ok (.invokevirtual idx, 3))
    (K : fx_T g M pc lv E k Q mc ms) : fx_X g M pc lv (a9 :: a8 :: a7 :: a6 :: a5 :: a4 :: a3 :: a2 :: a1 :: Value.ref b :: st) h Q (mc' + mc) (ms' + ms) := by
  obtain ⟨q, hq, hqc⟩ := w.2.2.2
  exact fx_callT ok hC (fx_siteV ok (as := [a1, a2, a3, a4, a5, a6, a7, a8, a9]) w.1 w.2.1 w.2.2.1 hb hq hqc d) w.1.1 w.1.2.1 hlv hlo K
theorem fx_Ia0 (ok : fx_ok g) {idx : Nat} {b : Nat} (w : fx_wI (fx_y M).cls idx 0 M') (hC : fx_C g M' (Value.ref b :: []) h (fx_is none k) mc' ms') (hlv : fx_lv M' + 1 ≤ fx_lv M) (hlo : (st.map fun v => v.category).sum + (fx_ml M' + 11) + fx_lw M' ≤ fx_lw M) (d : decode (fx_cc M) pc = .ok (.invokespecial idx, 3))
    (K : fx_X g M (pc + 3) lv st k Q mc ms) : fx_X g M pc lv (Value.ref b :: st) h Q (mc' + mc) (ms' + ms) :=
  fx_callR ok hC (fx_siteI ok (as := []) w.1 w.2.1 w.2.2.1 w.2.2.2.1 w.2.2.2.2 d) w.1.1 w.1.2.1 hlv hlo K
theorem fx_Na0 (ok : fx_ok g) {idx : Nat} {b : Nat} {host : String} (w : fx_wN (fx_y M).cls idx 0 M' host) (hC : fx_C g M' (Value.ref b :: []) h (fx_is none k) mc' ms') (hlv : fx_lv M' + 1 ≤ fx_lv M) (hlo : (st.map fun v => v.category).sum + (fx_ml M' + 11) + fx_lw M' ≤ fx_lw M) (d : decode (fx_cc M) pc = .ok (.invokespecial idx, 3))
    (K : fx_X g M (pc + 3) lv st k Q mc ms) : fx_X g M pc lv (Value.ref b :: st) h Q (mc' + mc) (ms' + ms) :=
  fx_callR ok hC (fx_siteIN ok (as := []) w.1 w.2.1 w.2.2.1 w.2.2.2.1 w.2.2.2.2 d) w.1.1 w.1.2.1 hlv hlo K
theorem fx_Mi3 (ok : fx_ok g) {idx : Nat} {a1 a2 a3 : Value} {host : String} (w : fx_wSN (fx_y M).cls idx 3 M' host) (hC : fx_C g M' ([a1, a2, a3] : List Value) h (fx_is (some x) k) 0 0) (hlv : fx_lv M' + 1 ≤ fx_lv M) (hlo : (st.map fun v => v.category).sum + (fx_ml M' + 11) + fx_lw M' ≤ fx_lw M) (d : decode (fx_cc M) pc = .ok (.invokestatic idx, 3))
    (K : fx_X g M (pc + 3) lv (.int x :: st) k Q mc ms) : fx_X g M pc lv (a3 :: a2 :: a1 :: st) h Q mc ms :=
  fx_callR0 ok hC (fx_siteSN ok (as := [a1, a2, a3]) w.1 w.2 d) w.1.1 w.1.2.1 hlv hlo K
end FXS
end
section
/-! ===== the methods: name, bytes, locals, answer, room, table ===== -/
theorem fx_m1 {w : Cond} (i : Nat) (h : tables_1[i]? = some w) : w ∈ fx_tb := List.mem_append_left _ (List.mem_append_right _ (List.mem_of_getElem? h))
theorem fx_m0 {w : Cond} (i : Nat) (h : (k2_sels lw_privs)[i]? = some w) : w ∈ fx_tb := List.mem_append_left _ (List.mem_append_left _ (List.mem_of_getElem? h))
theorem fx_m2 {w : Cond} (i : Nat) (h : fx_ex[i]? = some w) : w ∈ fx_tb := List.mem_append_right _ (List.mem_of_getElem? h)
theorem fx_mU {C : String} {T : u_T} {N : Nat} (ps : List Nat) (h : u_ws C T N = ps.filterMap (fun i => tables_1[i]?)) : ∀ w ∈ u_ws C T N, w ∈ fx_tb := by
  intro w hw
  rw [h] at hw
  obtain ⟨i, -, hi⟩ := List.mem_filterMap.mp hw
  exact fx_m1 i hi
def mq_FS_init : fx_M := (⟨"FrameSwapper", "<init>", "()V"⟩, prog_1_method_1_code, 1, none, (5, 71), [])
def mq_DE_init : fx_M := (⟨"FrameSwapper$Desk", "<init>", "()V"⟩, prog_4_method_1_code, 2, none, (4, 56), [])
def mq_PL_init : fx_M := (⟨"FrameSwapper$Pile", "<init>", "()V"⟩, prog_8_method_1_code, 2, none, (3, 41), [])
def mq_PI_init : fx_M := (⟨"FrameSwapper$Picture", "<init>", "()V"⟩, prog_7_method_1_code, 1, none, (2, 26), [])
def mq_RE_init : fx_M := (⟨"FrameSwapper$Rectangle", "<init>", "()V"⟩, prog_10_method_1_code, 1, none, (1, 12), [])
def mq_CO_init : fx_M := (⟨"FrameSwapper$Composer", "<init>", "()V"⟩, prog_3_method_1_code, 2, none, (4, 56), [])
def mq_PN_init : fx_M := (⟨"FrameSwapper$Planes", "<init>", "()V"⟩, prog_9_method_1_code, 1, none, (2, 29), [])
def mq_ME_init : fx_M := (⟨"FrameSwapper$Memory", "<init>", "()V"⟩, prog_5_method_1_code, 1, none, (3, 42), [])
def mq_MI_init : fx_M := (⟨"FrameSwapper$Misses", "<init>", "()V"⟩, prog_6_method_1_code, 2, none, (2, 27), [])
def mq_BE_init : fx_M := (⟨"FrameSwapper$Beam", "<init>", "()V"⟩, prog_2_method_1_code, 1, none, (3, 43), [])
def mq_FS_scan : fx_M := (⟨"FrameSwapper", "scan", "()I"⟩, prog_1_method_11_code, 1, some .int, (3, 49), [])
def mq_BE_scanRow : fx_M := (⟨"FrameSwapper$Beam", "scanRow", "(LFrameSwapper$Memory;)I"⟩, prog_2_method_2_code, 3, some .int, (2, 35), [])
def mq_PN_mixInto : fx_M := (⟨"FrameSwapper$Planes", "mixInto", "([II)V"⟩, prog_9_method_7_code, 6, none, (1, 18), [])
def mq_BE_endFrame : fx_M := (⟨"FrameSwapper$Beam", "endFrame", "(I)V"⟩, prog_2_method_3_code, 2, none, (1, 18), [])
def mq_CO_swap : fx_M := (⟨"FrameSwapper$Composer", "swap", "()V"⟩, prog_3_method_9_code, 2, none, (0, 0), [])
def mq_PN_become : fx_M := (⟨"FrameSwapper$Planes", "become", "(LFrameSwapper$Planes;)V"⟩, prog_9_method_3_code, 3, none, (2, 29), [])
def mq_RE_become : fx_M := (⟨"FrameSwapper$Rectangle", "become", "(LFrameSwapper$Rectangle;)V"⟩, prog_10_method_3_code, 2, none, (1, 16), [])
def mq_RE_set : fx_M := (⟨"FrameSwapper$Rectangle", "set", "(IIII)V"⟩, prog_10_method_2_code, 5, none, (0, 0), [])
def mq_FS_state : fx_M := (⟨"FrameSwapper", "state", "()I"⟩, prog_1_method_12_code, 1, some .int, (0, 0), [])
def mq_FS_seen : fx_M := (⟨"FrameSwapper", "seen", "(II)I"⟩, prog_1_method_13_code, 3, some .int, (2, 27), [])
def mq_FS_isOnScreen : fx_M := (⟨"FrameSwapper", "isOnScreen", "(II)Z"⟩, prog_1_method_25_code, 2, some .boolean, (1, 14), [])
def mq_FS_isWithin : fx_M := (⟨"FrameSwapper", "isWithin", "(III)Z"⟩, prog_1_method_20_code, 3, some .boolean, (0, 0), [])
def mq_FS_wanted : fx_M := (⟨"FrameSwapper", "wanted", "(II)I"⟩, prog_1_method_14_code, 3, some .int, (3, 48), [])
def mq_PL_colorAt : fx_M := (⟨"FrameSwapper$Pile", "colorAt", "(II)I"⟩, prog_8_method_4_code, 6, some .int, (2, 31), [])
def mq_RE_has : fx_M := (⟨"FrameSwapper$Rectangle", "has", "(II)Z"⟩, prog_10_method_8_code, 3, some .boolean, (0, 0), [])
def mq_PI_colorAt : fx_M := (⟨"FrameSwapper$Picture", "colorAt", "(II)I"⟩, prog_7_method_6_code, 3, some .int, (0, 0), [])
def mq_FS_mix : fx_M := (⟨"FrameSwapper", "mix", "(III)I"⟩, prog_1_method_26_code, 6, some .int, (1, 14), [])
def mq_FS_mixPart : fx_M := (⟨"FrameSwapper", "mixPart", "(III)I"⟩, prog_1_method_27_code, 3, some .int, (0, 0), [])
def mq_FS_count : fx_M := (⟨"FrameSwapper", "count", "(I)I"⟩, prog_1_method_15_code, 2, some .int, (0, 0), [])
def mq_FS_missed : fx_M := (⟨"FrameSwapper", "missed", "(II)I"⟩, prog_1_method_16_code, 5, some .int, (0, 0), [])
def mq_FS_plane : fx_M := (⟨"FrameSwapper", "plane", "(I)I"⟩, prog_1_method_17_code, 2, some .int, (1, 14), [])
def mq_FS_free : fx_M := (⟨"FrameSwapper", "free", "()I"⟩, prog_1_method_18_code, 1, some .int, (0, 0), [])
def mq_LA_surface : fx_M := (⟨"FrameSwapperLaw", "surface", "(LFrameSwapper;III[J)I"⟩, method_3_code, 6, some .int, (8, 112), [(0, 12, 15, 13), (0, 12, 19, 15)])
def mq_FS_surface : fx_M := (⟨"FrameSwapper", "surface", "(III)I"⟩, prog_1_method_2_code, 5, some .int, (7, 94), [])
def mq_FS_isClient : fx_M := (⟨"FrameSwapper", "isClient", "(I)Z"⟩, prog_1_method_21_code, 1, some .boolean, (1, 14), [])
def mq_FS_demand : fx_M := (⟨"FrameSwapper", "demand", "(Z)V"⟩, prog_1_method_19_code, 1, none, (6, 82), [])
def mq_DE_lowestFreeNumber : fx_M := (⟨"FrameSwapper$Desk", "lowestFreeNumber", "()I"⟩, prog_4_method_3_code, 2, some .int, (0, 0), [])
def mq_DE_open : fx_M := (⟨"FrameSwapper$Desk", "open", "(IIII)V"⟩, prog_4_method_4_code, 5, none, (4, 56), [])
def mq_PI_start : fx_M := (⟨"FrameSwapper$Picture", "start", "(II)V"⟩, prog_7_method_2_code, 3, none, (3, 42), [])
def mq_PI_findShown : fx_M := (⟨"FrameSwapper$Picture", "findShown", "()V"⟩, prog_7_method_5_code, 1, none, (2, 30), [])
def mq_RE_shift : fx_M := (⟨"FrameSwapper$Rectangle", "shift", "(II)V"⟩, prog_10_method_4_code, 3, none, (0, 0), [])
def mq_RE_cut : fx_M := (⟨"FrameSwapper$Rectangle", "cut", "(II)V"⟩, prog_10_method_5_code, 5, none, (1, 14), [])
def mq_LA_destroy : fx_M := (⟨"FrameSwapperLaw", "destroy", "(LFrameSwapper;I)I"⟩, method_4_code, 3, some .int, (8, 107), [(0, 5, 8, 13)])
def mq_FS_destroy : fx_M := (⟨"FrameSwapper", "destroy", "(I)V"⟩, prog_1_method_3_code, 2, none, (7, 94), [])
def mq_DE_hasDraft : fx_M := (⟨"FrameSwapper$Desk", "hasDraft", "(I)Z"⟩, prog_4_method_2_code, 2, some .boolean, (0, 0), [])
def mq_PI_remove : fx_M := (⟨"FrameSwapper$Picture", "remove", "()V"⟩, prog_7_method_3_code, 1, none, (3, 42), [])
def mq_LA_place : fx_M := (⟨"FrameSwapperLaw", "place", "(LFrameSwapper;IIIIIZ)I"⟩, method_5_code, 8, some .int, (8, 113), [(0, 13, 16, 13)])
def mq_FS_place : fx_M := (⟨"FrameSwapper", "place", "(IIIIIZ)V"⟩, prog_1_method_4_code, 8, none, (7, 94), [])
def mq_FS_isPlace : fx_M := (⟨"FrameSwapper", "isPlace", "(I)Z"⟩, prog_1_method_23_code, 1, some .boolean, (1, 14), [])
def mq_LA_clip : fx_M := (⟨"FrameSwapperLaw", "clip", "(LFrameSwapper;IIIII)I"⟩, method_6_code, 7, some .int, (8, 112), [(0, 11, 14, 13)])
def mq_FS_clip : fx_M := (⟨"FrameSwapper", "clip", "(IIIII)V"⟩, prog_1_method_5_code, 7, none, (7, 94), [])
def mq_FS_isArea : fx_M := (⟨"FrameSwapper", "isArea", "(IIII)Z"⟩, prog_1_method_24_code, 4, some .boolean, (2, 26), [])
def mq_LA_put : fx_M := (⟨"FrameSwapperLaw", "put", "(LFrameSwapper;IIII)I"⟩, method_7_code, 6, some .int, (8, 111), [(0, 9, 12, 13), (0, 9, 16, 33)])
def mq_FS_put : fx_M := (⟨"FrameSwapper", "put", "(IIII)V"⟩, prog_1_method_6_code, 6, none, (7, 94), [])
def mq_FS_isColor : fx_M := (⟨"FrameSwapper", "isColor", "(I)Z"⟩, prog_1_method_22_code, 1, some .boolean, (1, 14), [])
def mq_LA_fill : fx_M := (⟨"FrameSwapperLaw", "fill", "(LFrameSwapper;IIIIII[J)I"⟩, method_8_code, 9, some .int, (8, 115), [(0, 18, 21, 13)])
def mq_FS_fill : fx_M := (⟨"FrameSwapper", "fill", "(IIIIII)I"⟩, prog_1_method_7_code, 8, some .int, (7, 94), [])
def mq_PI_paintOver : fx_M := (⟨"FrameSwapper$Picture", "paintOver", "(LFrameSwapper$Rectangle;I)V"⟩, prog_7_method_7_code, 5, none, (0, 0), [])
def mq_RE_pixels : fx_M := (⟨"FrameSwapper$Rectangle", "pixels", "()I"⟩, prog_10_method_7_code, 1, some .int, (0, 0), [])
def mq_LA_copy : fx_M := (⟨"FrameSwapperLaw", "copy", "(LFrameSwapper;IIIIIIII[J)I"⟩, method_9_code, 11, some .int, (8, 118), [(0, 22, 25, 13)])
def mq_FS_copy : fx_M := (⟨"FrameSwapper", "copy", "(IIIIIIII)I"⟩, prog_1_method_8_code, 11, some .int, (7, 94), [])
def mq_PI_become : fx_M := (⟨"FrameSwapper$Picture", "become", "(LFrameSwapper$Picture;)V"⟩, prog_7_method_4_code, 2, none, (2, 29), [])
def mq_PI_layDown : fx_M := (⟨"FrameSwapper$Picture", "layDown", "(LFrameSwapper$Rectangle;LFrameSwapper$Picture;)V"⟩, prog_7_method_8_code, 5, none, (1, 16), [])
def mq_LA_commit : fx_M := (⟨"FrameSwapperLaw", "commit", "(LFrameSwapper;I[J)I"⟩, method_10_code, 4, some .int, (8, 109), [(0, 9, 12, 13), (0, 9, 15, 15)])
def mq_FS_commit : fx_M := (⟨"FrameSwapper", "commit", "(I)I"⟩, prog_1_method_9_code, 2, some .int, (7, 94), [])
def mq_DE_commitAll : fx_M := (⟨"FrameSwapper$Desk", "commitAll", "(I)V"⟩, prog_4_method_5_code, 3, none, (3, 42), [])
def mq_PL_sort : fx_M := (⟨"FrameSwapper$Pile", "sort", "()V"⟩, prog_8_method_2_code, 3, none, (0, 0), [])
def mq_LA_draw : fx_M := (⟨"FrameSwapperLaw", "draw", "(LFrameSwapper;I[J)I"⟩, method_11_code, 4, some .int, (8, 118), [(0, 9, 12, 13)])
def mq_FS_draw : fx_M := (⟨"FrameSwapper", "draw", "(I)I"⟩, prog_1_method_10_code, 2, some .int, (7, 103), [])
def mq_CO_begin : fx_M := (⟨"FrameSwapper$Composer", "begin", "(LFrameSwapper$Desk;)V"⟩, prog_3_method_2_code, 2, none, (6, 90), [])
def mq_CO_rememberBefore : fx_M := (⟨"FrameSwapper$Composer", "rememberBefore", "()V"⟩, prog_3_method_3_code, 2, none, (2, 29), [])
def mq_PN_has : fx_M := (⟨"FrameSwapper$Planes", "has", "(I)Z"⟩, prog_9_method_2_code, 2, some .boolean, (0, 0), [])
def mq_PL_become : fx_M := (⟨"FrameSwapper$Pile", "become", "(LFrameSwapper$Pile;)V"⟩, prog_8_method_3_code, 3, none, (3, 42), [])
def mq_PN_choose : fx_M := (⟨"FrameSwapper$Planes", "choose", "(LFrameSwapper$Pile;)V"⟩, prog_9_method_4_code, 4, none, (3, 48), [])
def mq_PN_isFit : fx_M := (⟨"FrameSwapper$Planes", "isFit", "(LFrameSwapper$Pile;I)Z"⟩, prog_9_method_5_code, 5, some .boolean, (2, 27), [])
def mq_RE_isEmpty : fx_M := (⟨"FrameSwapper$Rectangle", "isEmpty", "()Z"⟩, prog_10_method_6_code, 1, some .boolean, (0, 0), [])
def mq_RE_meets : fx_M := (⟨"FrameSwapper$Rectangle", "meets", "(LFrameSwapper$Rectangle;)Z"⟩, prog_10_method_9_code, 2, some .boolean, (1, 14), [])
def mq_PN_give : fx_M := (⟨"FrameSwapper$Planes", "give", "(IILFrameSwapper$Picture;)V"⟩, prog_9_method_6_code, 8, none, (2, 29), [])
def mq_CO_noteChanges : fx_M := (⟨"FrameSwapper$Composer", "noteChanges", "(LFrameSwapper$Desk;)V"⟩, prog_3_method_4_code, 5, none, (5, 74), [])
def mq_DE_isWaiting : fx_M := (⟨"FrameSwapper$Desk", "isWaiting", "(I)Z"⟩, prog_4_method_6_code, 2, some .boolean, (0, 0), [])
def mq_MI_add : fx_M := (⟨"FrameSwapper$Misses", "add", "(LFrameSwapper$Rectangle;)V"⟩, prog_6_method_2_code, 2, none, (4, 61), [])
def mq_MI_isCovered : fx_M := (⟨"FrameSwapper$Misses", "isCovered", "(LFrameSwapper$Rectangle;)Z"⟩, prog_6_method_3_code, 3, some .boolean, (1, 13), [])
def mq_RE_contains : fx_M := (⟨"FrameSwapper$Rectangle", "contains", "(LFrameSwapper$Rectangle;)Z"⟩, prog_10_method_10_code, 2, some .boolean, (0, 0), [])
def mq_MI_joinNearest : fx_M := (⟨"FrameSwapper$Misses", "joinNearest", "()V"⟩, prog_6_method_4_code, 7, none, (3, 43), [])
def mq_RE_wasteWith : fx_M := (⟨"FrameSwapper$Rectangle", "wasteWith", "(LFrameSwapper$Rectangle;)I"⟩, prog_10_method_11_code, 4, some .int, (1, 14), [])
def mq_RE_growOver : fx_M := (⟨"FrameSwapper$Rectangle", "growOver", "(LFrameSwapper$Rectangle;)V"⟩, prog_10_method_12_code, 4, none, (1, 14), [])
def mq_MI_dropAt : fx_M := (⟨"FrameSwapper$Misses", "dropAt", "(I)V"⟩, prog_6_method_5_code, 3, none, (2, 29), [])
def mq_DE_allTaken : fx_M := (⟨"FrameSwapper$Desk", "allTaken", "()V"⟩, prog_4_method_7_code, 2, none, (0, 0), [])
def mq_CO_startHole : fx_M := (⟨"FrameSwapper$Composer", "startHole", "(I)V"⟩, prog_3_method_5_code, 2, none, (0, 0), [])
def mq_CO_makeSteps : fx_M := (⟨"FrameSwapper$Composer", "makeSteps", "(I)I"⟩, prog_3_method_6_code, 3, some .int, (4, 63), [])
def mq_CO_makeStep : fx_M := (⟨"FrameSwapper$Composer", "makeStep", "()V"⟩, prog_3_method_7_code, 2, none, (3, 50), [])
def mq_ME_blacken : fx_M := (⟨"FrameSwapper$Memory", "blacken", "(LFrameSwapper$Rectangle;)V"⟩, prog_5_method_2_code, 4, none, (0, 0), [])
def mq_ME_paint : fx_M := (⟨"FrameSwapper$Memory", "paint", "(LFrameSwapper$Picture;LFrameSwapper$Rectangle;)V"⟩, prog_5_method_3_code, 6, none, (2, 33), [])
def mq_CO_nextLevel : fx_M := (⟨"FrameSwapper$Composer", "nextLevel", "(LFrameSwapper$Rectangle;)I"⟩, prog_3_method_8_code, 4, some .int, (2, 27), [])
def mq_MO_init : fx_M := (⟨"FrameSwapperModel", "<init>", "()V"⟩, prog_12_method_1_code, 1, none, (1, 12), [])
def mq_MO_thrown : fx_M := (⟨"FrameSwapperModel", "thrown", "()I"⟩, prog_12_method_2_code, 1, some .int, (0, 0), [])
def mq_MO_surface : fx_M := (⟨"FrameSwapperModel", "surface", "(III)I"⟩, prog_12_method_6_code, 6, some .int, (1, 15), [])
def mq_MO_within : fx_M := (⟨"FrameSwapperModel", "within", "(III)Z"⟩, prog_12_method_4_code, 3, some .boolean, (0, 0), [])
def mq_MO_freePixels : fx_M := (⟨"FrameSwapperModel", "freePixels", "()I"⟩, prog_12_method_5_code, 3, some .int, (0, 0), [])
def mq_MO_destroy : fx_M := (⟨"FrameSwapperModel", "destroy", "(I)V"⟩, prog_12_method_7_code, 2, none, (1, 14), [])
def mq_MO_hasDraft : fx_M := (⟨"FrameSwapperModel", "hasDraft", "(I)Z"⟩, prog_12_method_3_code, 2, some .boolean, (0, 0), [])
def mq_MO_place : fx_M := (⟨"FrameSwapperModel", "place", "(IIIIIZ)V"⟩, prog_12_method_8_code, 7, none, (1, 15), [])
def mq_MO_clip : fx_M := (⟨"FrameSwapperModel", "clip", "(IIIII)V"⟩, prog_12_method_11_code, 8, none, (2, 30), [])
def mq_MO_isArea : fx_M := (⟨"FrameSwapperModel", "isArea", "(IIII)Z"⟩, prog_12_method_10_code, 4, some .boolean, (1, 14), [])
def mq_MO_put : fx_M := (⟨"FrameSwapperModel", "put", "(IIII)V"⟩, prog_12_method_13_code, 5, none, (1, 16), [])
def mq_MO_has : fx_M := (⟨"FrameSwapperModel", "has", "(III)Z"⟩, prog_12_method_12_code, 4, some .boolean, (0, 0), [])
def mq_MO_fill : fx_M := (⟨"FrameSwapperModel", "fill", "(IIIIII)I"⟩, prog_12_method_14_code, 10, some .int, (2, 30), [])
def mq_MO_copy : fx_M := (⟨"FrameSwapperModel", "copy", "(IIIIIIII)I"⟩, prog_12_method_16_code, 12, some .int, (2, 31), [])
def mq_MO_isCopy : fx_M := (⟨"FrameSwapperModel", "isCopy", "(IIII)Z"⟩, prog_12_method_15_code, 5, some .boolean, (1, 14), [])
def mq_MO_commit : fx_M := (⟨"FrameSwapperModel", "commit", "(I)I"⟩, prog_12_method_18_code, 3, some .int, (1, 15), [])
def mq_MO_copyPicture : fx_M := (⟨"FrameSwapperModel", "copyPicture", "(II)V"⟩, prog_12_method_17_code, 4, none, (0, 0), [])
def mq_MO_draw : fx_M := (⟨"FrameSwapperModel", "draw", "(I)I"⟩, prog_12_method_37_code, 3, some .int, (5, 75), [])
def mq_MO_begin : fx_M := (⟨"FrameSwapperModel", "begin", "()V"⟩, prog_12_method_32_code, 3, none, (3, 53), [])
def mq_MO_show : fx_M := (⟨"FrameSwapperModel", "show", "(I)V"⟩, prog_12_method_19_code, 2, none, (1, 18), [])
def mq_MO_cut : fx_M := (⟨"FrameSwapperModel", "cut", "(IIII)V"⟩, prog_12_method_9_code, 7, none, (0, 0), [])
def mq_MO_isPlane : fx_M := (⟨"FrameSwapperModel", "isPlane", "(I)Z"⟩, prog_12_method_31_code, 2, some .boolean, (0, 0), [])
def mq_MO_choosePlanes : fx_M := (⟨"FrameSwapperModel", "choosePlanes", "()V"⟩, prog_12_method_30_code, 10, none, (2, 32), [])
def mq_MO_nth : fx_M := (⟨"FrameSwapperModel", "nth", "(II)I"⟩, prog_12_method_21_code, 6, some .int, (1, 15), [])
def mq_MO_isAbove : fx_M := (⟨"FrameSwapperModel", "isAbove", "(II)Z"⟩, prog_12_method_20_code, 3, some .boolean, (0, 0), [])
def mq_MO_miss : fx_M := (⟨"FrameSwapperModel", "miss", "()V"⟩, prog_12_method_29_code, 4, none, (2, 36), [])
def mq_MO_lies : fx_M := (⟨"FrameSwapperModel", "lies", "(II)Z"⟩, prog_12_method_25_code, 4, some .boolean, (0, 0), [])
def mq_MO_join : fx_M := (⟨"FrameSwapperModel", "join", "(I)V"⟩, prog_12_method_28_code, 8, none, (1, 17), [])
def mq_MO_hullWide : fx_M := (⟨"FrameSwapperModel", "hullWide", "(II)I"⟩, prog_12_method_26_code, 5, some .int, (0, 0), [])
def mq_MO_hullHigh : fx_M := (⟨"FrameSwapperModel", "hullHigh", "(II)I"⟩, prog_12_method_27_code, 5, some .int, (0, 0), [])
def mq_MO_findStep : fx_M := (⟨"FrameSwapperModel", "findStep", "()V"⟩, prog_12_method_35_code, 2, none, (3, 47), [])
def mq_MO_meet : fx_M := (⟨"FrameSwapperModel", "meet", "(I)V"⟩, prog_12_method_33_code, 4, none, (2, 32), [])
def mq_MO_make : fx_M := (⟨"FrameSwapperModel", "make", "()V"⟩, prog_12_method_36_code, 4, none, (4, 60), [])
def mq_MO_paint : fx_M := (⟨"FrameSwapperModel", "paint", "(I)V"⟩, prog_12_method_34_code, 5, none, (2, 33), [])
def mq_MO_pixelOf : fx_M := (⟨"FrameSwapperModel", "pixelOf", "(III)I"⟩, prog_12_method_24_code, 4, some .int, (0, 0), [])
def mq_MO_mixed : fx_M := (⟨"FrameSwapperModel", "mixed", "(III)I"⟩, prog_12_method_23_code, 3, some .int, (1, 17), [])
def mq_MO_part : fx_M := (⟨"FrameSwapperModel", "part", "(IIIII)I"⟩, prog_12_method_22_code, 5, some .int, (0, 0), [])
def mq_MO_scan : fx_M := (⟨"FrameSwapperModel", "scan", "()I"⟩, prog_12_method_40_code, 1, some .int, (3, 45), [])
def mq_MO_look : fx_M := (⟨"FrameSwapperModel", "look", "()V"⟩, prog_12_method_38_code, 5, none, (0, 0), [])
def mq_MO_change : fx_M := (⟨"FrameSwapperModel", "change", "()V"⟩, prog_12_method_39_code, 3, none, (2, 31), [])
def mq_MO_state : fx_M := (⟨"FrameSwapperModel", "state", "()I"⟩, prog_12_method_41_code, 1, some .int, (0, 0), [])
def mq_MO_seen : fx_M := (⟨"FrameSwapperModel", "seen", "(II)I"⟩, prog_12_method_43_code, 3, some .int, (1, 13), [])
def mq_MO_isPixel : fx_M := (⟨"FrameSwapperModel", "isPixel", "(II)Z"⟩, prog_12_method_42_code, 2, some .boolean, (0, 0), [])
def mq_MO_wanted : fx_M := (⟨"FrameSwapperModel", "wanted", "(II)I"⟩, prog_12_method_44_code, 6, some .int, (2, 32), [])
def mq_MO_count : fx_M := (⟨"FrameSwapperModel", "count", "(I)I"⟩, prog_12_method_45_code, 2, some .int, (0, 0), [])
def mq_MO_missed : fx_M := (⟨"FrameSwapperModel", "missed", "(II)I"⟩, prog_12_method_46_code, 4, some .int, (0, 0), [])
def mq_MO_plane : fx_M := (⟨"FrameSwapperModel", "plane", "(I)I"⟩, prog_12_method_47_code, 2, some .int, (0, 0), [])
def mq_MO_free : fx_M := (⟨"FrameSwapperModel", "free", "()I"⟩, prog_12_method_48_code, 1, some .int, (1, 14), [])
def mq_AR_fill : fx_M := (⟨"java/util/Arrays", "fill", "([II)V"⟩, prog_21_method_103_code, 4, none, (0, 0), [])
-- words of the methods
theorem kc_FS_init : fx_cw mq_FS_init ∈ fx_tb := fx_m1 25 (by decide +kernel)
theorem ki_FS_init : Cond.instanceMethod (fx_y mq_FS_init) ∈ fx_tb := fx_m1 24 (by decide +kernel)
theorem kc_DE_init : fx_cw mq_DE_init ∈ fx_tb := fx_m1 33 (by decide +kernel)
theorem ki_DE_init : Cond.instanceMethod (fx_y mq_DE_init) ∈ fx_tb := fx_m1 32 (by decide +kernel)
theorem kc_PL_init : fx_cw mq_PL_init ∈ fx_tb := fx_m1 41 (by decide +kernel)
theorem ki_PL_init : Cond.instanceMethod (fx_y mq_PL_init) ∈ fx_tb := fx_m1 40 (by decide +kernel)
theorem kc_PI_init : fx_cw mq_PI_init ∈ fx_tb := fx_m1 47 (by decide +kernel)
theorem ki_PI_init : Cond.instanceMethod (fx_y mq_PI_init) ∈ fx_tb := fx_m1 46 (by decide +kernel)
theorem kc_RE_init : fx_cw mq_RE_init ∈ fx_tb := fx_m1 53 (by decide +kernel)
theorem ki_RE_init : Cond.instanceMethod (fx_y mq_RE_init) ∈ fx_tb := fx_m1 52 (by decide +kernel)
theorem kc_CO_init : fx_cw mq_CO_init ∈ fx_tb := fx_m1 192 (by decide +kernel)
theorem ki_CO_init : Cond.instanceMethod (fx_y mq_CO_init) ∈ fx_tb := fx_m1 191 (by decide +kernel)
theorem kc_PN_init : fx_cw mq_PN_init ∈ fx_tb := fx_m1 200 (by decide +kernel)
theorem ki_PN_init : Cond.instanceMethod (fx_y mq_PN_init) ∈ fx_tb := fx_m1 199 (by decide +kernel)
theorem kc_ME_init : fx_cw mq_ME_init ∈ fx_tb := fx_m1 223 (by decide +kernel)
theorem ki_ME_init : Cond.instanceMethod (fx_y mq_ME_init) ∈ fx_tb := fx_m1 222 (by decide +kernel)
theorem kc_MI_init : fx_cw mq_MI_init ∈ fx_tb := fx_m1 229 (by decide +kernel)
theorem ki_MI_init : Cond.instanceMethod (fx_y mq_MI_init) ∈ fx_tb := fx_m1 228 (by decide +kernel)
theorem kc_BE_init : fx_cw mq_BE_init ∈ fx_tb := fx_m1 299 (by decide +kernel)
theorem ki_BE_init : Cond.instanceMethod (fx_y mq_BE_init) ∈ fx_tb := fx_m1 298 (by decide +kernel)
theorem kc_FS_scan : fx_cw mq_FS_scan ∈ fx_tb := fx_m1 350 (by decide +kernel)
theorem ki_FS_scan : Cond.instanceMethod (fx_y mq_FS_scan) ∈ fx_tb := fx_m1 348 (by decide +kernel)
theorem ke_FS_scan : Cond.selects (fx_y mq_FS_scan).cls (fx_y mq_FS_scan) (fx_y mq_FS_scan) ∈ fx_tb := fx_m1 349 (by decide +kernel)
theorem kc_BE_scanRow : fx_cw mq_BE_scanRow ∈ fx_tb := fx_m1 354 (by decide +kernel)
theorem ki_BE_scanRow : Cond.instanceMethod (fx_y mq_BE_scanRow) ∈ fx_tb := fx_m1 352 (by decide +kernel)
theorem ke_BE_scanRow : Cond.selects (fx_y mq_BE_scanRow).cls (fx_y mq_BE_scanRow) (fx_y mq_BE_scanRow) ∈ fx_tb := fx_m1 353 (by decide +kernel)
theorem kc_PN_mixInto : fx_cw mq_PN_mixInto ∈ fx_tb := fx_m1 361 (by decide +kernel)
theorem ki_PN_mixInto : Cond.instanceMethod (fx_y mq_PN_mixInto) ∈ fx_tb := fx_m1 359 (by decide +kernel)
theorem ke_PN_mixInto : Cond.selects (fx_y mq_PN_mixInto).cls (fx_y mq_PN_mixInto) (fx_y mq_PN_mixInto) ∈ fx_tb := fx_m1 360 (by decide +kernel)
theorem kc_BE_endFrame : fx_cw mq_BE_endFrame ∈ fx_tb := fx_m1 366 (by decide +kernel)
theorem ki_BE_endFrame : Cond.instanceMethod (fx_y mq_BE_endFrame) ∈ fx_tb := fx_m1 364 (by decide +kernel)
theorem ke_BE_endFrame : Cond.selects (fx_y mq_BE_endFrame).cls (fx_y mq_BE_endFrame) (fx_y mq_BE_endFrame) ∈ fx_tb := fx_m1 365 (by decide +kernel)
theorem kc_CO_swap : fx_cw mq_CO_swap ∈ fx_tb := fx_m1 370 (by decide +kernel)
theorem ki_CO_swap : Cond.instanceMethod (fx_y mq_CO_swap) ∈ fx_tb := fx_m1 368 (by decide +kernel)
theorem ke_CO_swap : Cond.selects (fx_y mq_CO_swap).cls (fx_y mq_CO_swap) (fx_y mq_CO_swap) ∈ fx_tb := fx_m1 369 (by decide +kernel)
theorem kc_PN_become : fx_cw mq_PN_become ∈ fx_tb := fx_m1 374 (by decide +kernel)
theorem ki_PN_become : Cond.instanceMethod (fx_y mq_PN_become) ∈ fx_tb := fx_m1 372 (by decide +kernel)
theorem ke_PN_become : Cond.selects (fx_y mq_PN_become).cls (fx_y mq_PN_become) (fx_y mq_PN_become) ∈ fx_tb := fx_m1 373 (by decide +kernel)
theorem kc_RE_become : fx_cw mq_RE_become ∈ fx_tb := fx_m1 378 (by decide +kernel)
theorem ki_RE_become : Cond.instanceMethod (fx_y mq_RE_become) ∈ fx_tb := fx_m1 376 (by decide +kernel)
theorem ke_RE_become : Cond.selects (fx_y mq_RE_become).cls (fx_y mq_RE_become) (fx_y mq_RE_become) ∈ fx_tb := fx_m1 377 (by decide +kernel)
theorem kc_RE_set : fx_cw mq_RE_set ∈ fx_tb := fx_m1 382 (by decide +kernel)
theorem ki_RE_set : Cond.instanceMethod (fx_y mq_RE_set) ∈ fx_tb := fx_m1 380 (by decide +kernel)
theorem ke_RE_set : Cond.selects (fx_y mq_RE_set).cls (fx_y mq_RE_set) (fx_y mq_RE_set) ∈ fx_tb := fx_m1 381 (by decide +kernel)
theorem kc_FS_state : fx_cw mq_FS_state ∈ fx_tb := fx_m1 386 (by decide +kernel)
theorem ki_FS_state : Cond.instanceMethod (fx_y mq_FS_state) ∈ fx_tb := fx_m1 384 (by decide +kernel)
theorem ke_FS_state : Cond.selects (fx_y mq_FS_state).cls (fx_y mq_FS_state) (fx_y mq_FS_state) ∈ fx_tb := fx_m1 385 (by decide +kernel)
theorem kc_FS_seen : fx_cw mq_FS_seen ∈ fx_tb := fx_m1 390 (by decide +kernel)
theorem ki_FS_seen : Cond.instanceMethod (fx_y mq_FS_seen) ∈ fx_tb := fx_m1 388 (by decide +kernel)
theorem ke_FS_seen : Cond.selects (fx_y mq_FS_seen).cls (fx_y mq_FS_seen) (fx_y mq_FS_seen) ∈ fx_tb := fx_m1 389 (by decide +kernel)
theorem kc_FS_isOnScreen : fx_cw mq_FS_isOnScreen ∈ fx_tb := fx_m1 393 (by decide +kernel)
theorem ks_FS_isOnScreen : Cond.static (fx_y mq_FS_isOnScreen) ∈ fx_tb := fx_m1 392 (by decide +kernel)
theorem kc_FS_isWithin : fx_cw mq_FS_isWithin ∈ fx_tb := fx_m1 396 (by decide +kernel)
theorem ks_FS_isWithin : Cond.static (fx_y mq_FS_isWithin) ∈ fx_tb := fx_m1 395 (by decide +kernel)
theorem kc_FS_wanted : fx_cw mq_FS_wanted ∈ fx_tb := fx_m1 400 (by decide +kernel)
theorem ki_FS_wanted : Cond.instanceMethod (fx_y mq_FS_wanted) ∈ fx_tb := fx_m1 398 (by decide +kernel)
theorem ke_FS_wanted : Cond.selects (fx_y mq_FS_wanted).cls (fx_y mq_FS_wanted) (fx_y mq_FS_wanted) ∈ fx_tb := fx_m1 399 (by decide +kernel)
theorem kc_PL_colorAt : fx_cw mq_PL_colorAt ∈ fx_tb := fx_m1 404 (by decide +kernel)
theorem ki_PL_colorAt : Cond.instanceMethod (fx_y mq_PL_colorAt) ∈ fx_tb := fx_m1 402 (by decide +kernel)
theorem ke_PL_colorAt : Cond.selects (fx_y mq_PL_colorAt).cls (fx_y mq_PL_colorAt) (fx_y mq_PL_colorAt) ∈ fx_tb := fx_m1 403 (by decide +kernel)
theorem kc_RE_has : fx_cw mq_RE_has ∈ fx_tb := fx_m1 408 (by decide +kernel)
theorem ki_RE_has : Cond.instanceMethod (fx_y mq_RE_has) ∈ fx_tb := fx_m1 406 (by decide +kernel)
theorem ke_RE_has : Cond.selects (fx_y mq_RE_has).cls (fx_y mq_RE_has) (fx_y mq_RE_has) ∈ fx_tb := fx_m1 407 (by decide +kernel)
theorem kc_PI_colorAt : fx_cw mq_PI_colorAt ∈ fx_tb := fx_m1 412 (by decide +kernel)
theorem ki_PI_colorAt : Cond.instanceMethod (fx_y mq_PI_colorAt) ∈ fx_tb := fx_m1 410 (by decide +kernel)
theorem ke_PI_colorAt : Cond.selects (fx_y mq_PI_colorAt).cls (fx_y mq_PI_colorAt) (fx_y mq_PI_colorAt) ∈ fx_tb := fx_m1 411 (by decide +kernel)
theorem kc_FS_mix : fx_cw mq_FS_mix ∈ fx_tb := fx_m1 415 (by decide +kernel)
theorem ks_FS_mix : Cond.static (fx_y mq_FS_mix) ∈ fx_tb := fx_m1 414 (by decide +kernel)
theorem kc_FS_mixPart : fx_cw mq_FS_mixPart ∈ fx_tb := fx_m1 418 (by decide +kernel)
theorem ks_FS_mixPart : Cond.static (fx_y mq_FS_mixPart) ∈ fx_tb := fx_m1 417 (by decide +kernel)
theorem kc_FS_count : fx_cw mq_FS_count ∈ fx_tb := fx_m1 422 (by decide +kernel)
theorem ki_FS_count : Cond.instanceMethod (fx_y mq_FS_count) ∈ fx_tb := fx_m1 420 (by decide +kernel)
theorem ke_FS_count : Cond.selects (fx_y mq_FS_count).cls (fx_y mq_FS_count) (fx_y mq_FS_count) ∈ fx_tb := fx_m1 421 (by decide +kernel)
theorem kc_FS_missed : fx_cw mq_FS_missed ∈ fx_tb := fx_m1 426 (by decide +kernel)
theorem ki_FS_missed : Cond.instanceMethod (fx_y mq_FS_missed) ∈ fx_tb := fx_m1 424 (by decide +kernel)
theorem ke_FS_missed : Cond.selects (fx_y mq_FS_missed).cls (fx_y mq_FS_missed) (fx_y mq_FS_missed) ∈ fx_tb := fx_m1 425 (by decide +kernel)
theorem kc_FS_plane : fx_cw mq_FS_plane ∈ fx_tb := fx_m1 430 (by decide +kernel)
theorem ki_FS_plane : Cond.instanceMethod (fx_y mq_FS_plane) ∈ fx_tb := fx_m1 428 (by decide +kernel)
theorem ke_FS_plane : Cond.selects (fx_y mq_FS_plane).cls (fx_y mq_FS_plane) (fx_y mq_FS_plane) ∈ fx_tb := fx_m1 429 (by decide +kernel)
theorem kc_FS_free : fx_cw mq_FS_free ∈ fx_tb := fx_m1 434 (by decide +kernel)
theorem ki_FS_free : Cond.instanceMethod (fx_y mq_FS_free) ∈ fx_tb := fx_m1 432 (by decide +kernel)
theorem ke_FS_free : Cond.selects (fx_y mq_FS_free).cls (fx_y mq_FS_free) (fx_y mq_FS_free) ∈ fx_tb := fx_m1 433 (by decide +kernel)
theorem kc_LA_surface : fx_cw mq_LA_surface ∈ fx_tb := fx_m1 437 (by decide +kernel)
theorem ks_LA_surface : Cond.static (fx_y mq_LA_surface) ∈ fx_tb := fx_m1 436 (by decide +kernel)
theorem kc_FS_surface : fx_cw mq_FS_surface ∈ fx_tb := fx_m1 443 (by decide +kernel)
theorem ki_FS_surface : Cond.instanceMethod (fx_y mq_FS_surface) ∈ fx_tb := fx_m1 441 (by decide +kernel)
theorem ke_FS_surface : Cond.selects (fx_y mq_FS_surface).cls (fx_y mq_FS_surface) (fx_y mq_FS_surface) ∈ fx_tb := fx_m1 442 (by decide +kernel)
theorem kc_FS_isClient : fx_cw mq_FS_isClient ∈ fx_tb := fx_m1 446 (by decide +kernel)
theorem ks_FS_isClient : Cond.static (fx_y mq_FS_isClient) ∈ fx_tb := fx_m1 445 (by decide +kernel)
theorem kc_FS_demand : fx_cw mq_FS_demand ∈ fx_tb := fx_m1 449 (by decide +kernel)
theorem ks_FS_demand : Cond.static (fx_y mq_FS_demand) ∈ fx_tb := fx_m1 448 (by decide +kernel)
theorem kc_DE_lowestFreeNumber : fx_cw mq_DE_lowestFreeNumber ∈ fx_tb := fx_m1 516 (by decide +kernel)
theorem ki_DE_lowestFreeNumber : Cond.instanceMethod (fx_y mq_DE_lowestFreeNumber) ∈ fx_tb := fx_m1 514 (by decide +kernel)
theorem ke_DE_lowestFreeNumber : Cond.selects (fx_y mq_DE_lowestFreeNumber).cls (fx_y mq_DE_lowestFreeNumber) (fx_y mq_DE_lowestFreeNumber) ∈ fx_tb := fx_m1 515 (by decide +kernel)
theorem kc_DE_open : fx_cw mq_DE_open ∈ fx_tb := fx_m1 535 (by decide +kernel)
theorem ki_DE_open : Cond.instanceMethod (fx_y mq_DE_open) ∈ fx_tb := fx_m1 533 (by decide +kernel)
theorem ke_DE_open : Cond.selects (fx_y mq_DE_open).cls (fx_y mq_DE_open) (fx_y mq_DE_open) ∈ fx_tb := fx_m1 534 (by decide +kernel)
theorem kc_PI_start : fx_cw mq_PI_start ∈ fx_tb := fx_m1 539 (by decide +kernel)
theorem ki_PI_start : Cond.instanceMethod (fx_y mq_PI_start) ∈ fx_tb := fx_m1 537 (by decide +kernel)
theorem ke_PI_start : Cond.selects (fx_y mq_PI_start).cls (fx_y mq_PI_start) (fx_y mq_PI_start) ∈ fx_tb := fx_m1 538 (by decide +kernel)
theorem kc_PI_findShown : fx_cw mq_PI_findShown ∈ fx_tb := fx_m1 547 (by decide +kernel)
theorem ki_PI_findShown : Cond.instanceMethod (fx_y mq_PI_findShown) ∈ fx_tb := fx_m1 545 (by decide +kernel)
theorem ke_PI_findShown : Cond.selects (fx_y mq_PI_findShown).cls (fx_y mq_PI_findShown) (fx_y mq_PI_findShown) ∈ fx_tb := fx_m1 546 (by decide +kernel)
theorem kc_RE_shift : fx_cw mq_RE_shift ∈ fx_tb := fx_m1 552 (by decide +kernel)
theorem ki_RE_shift : Cond.instanceMethod (fx_y mq_RE_shift) ∈ fx_tb := fx_m1 550 (by decide +kernel)
theorem ke_RE_shift : Cond.selects (fx_y mq_RE_shift).cls (fx_y mq_RE_shift) (fx_y mq_RE_shift) ∈ fx_tb := fx_m1 551 (by decide +kernel)
theorem kc_RE_cut : fx_cw mq_RE_cut ∈ fx_tb := fx_m1 556 (by decide +kernel)
theorem ki_RE_cut : Cond.instanceMethod (fx_y mq_RE_cut) ∈ fx_tb := fx_m1 554 (by decide +kernel)
theorem ke_RE_cut : Cond.selects (fx_y mq_RE_cut).cls (fx_y mq_RE_cut) (fx_y mq_RE_cut) ∈ fx_tb := fx_m1 555 (by decide +kernel)
theorem kc_LA_destroy : fx_cw mq_LA_destroy ∈ fx_tb := fx_m1 565 (by decide +kernel)
theorem ks_LA_destroy : Cond.static (fx_y mq_LA_destroy) ∈ fx_tb := fx_m1 564 (by decide +kernel)
theorem kc_FS_destroy : fx_cw mq_FS_destroy ∈ fx_tb := fx_m1 569 (by decide +kernel)
theorem ki_FS_destroy : Cond.instanceMethod (fx_y mq_FS_destroy) ∈ fx_tb := fx_m1 567 (by decide +kernel)
theorem ke_FS_destroy : Cond.selects (fx_y mq_FS_destroy).cls (fx_y mq_FS_destroy) (fx_y mq_FS_destroy) ∈ fx_tb := fx_m1 568 (by decide +kernel)
theorem kc_DE_hasDraft : fx_cw mq_DE_hasDraft ∈ fx_tb := fx_m1 573 (by decide +kernel)
theorem ki_DE_hasDraft : Cond.instanceMethod (fx_y mq_DE_hasDraft) ∈ fx_tb := fx_m1 571 (by decide +kernel)
theorem ke_DE_hasDraft : Cond.selects (fx_y mq_DE_hasDraft).cls (fx_y mq_DE_hasDraft) (fx_y mq_DE_hasDraft) ∈ fx_tb := fx_m1 572 (by decide +kernel)
theorem kc_PI_remove : fx_cw mq_PI_remove ∈ fx_tb := fx_m1 577 (by decide +kernel)
theorem ki_PI_remove : Cond.instanceMethod (fx_y mq_PI_remove) ∈ fx_tb := fx_m1 575 (by decide +kernel)
theorem ke_PI_remove : Cond.selects (fx_y mq_PI_remove).cls (fx_y mq_PI_remove) (fx_y mq_PI_remove) ∈ fx_tb := fx_m1 576 (by decide +kernel)
theorem kc_LA_place : fx_cw mq_LA_place ∈ fx_tb := fx_m1 580 (by decide +kernel)
theorem ks_LA_place : Cond.static (fx_y mq_LA_place) ∈ fx_tb := fx_m1 579 (by decide +kernel)
theorem kc_FS_place : fx_cw mq_FS_place ∈ fx_tb := fx_m1 584 (by decide +kernel)
theorem ki_FS_place : Cond.instanceMethod (fx_y mq_FS_place) ∈ fx_tb := fx_m1 582 (by decide +kernel)
theorem ke_FS_place : Cond.selects (fx_y mq_FS_place).cls (fx_y mq_FS_place) (fx_y mq_FS_place) ∈ fx_tb := fx_m1 583 (by decide +kernel)
theorem kc_FS_isPlace : fx_cw mq_FS_isPlace ∈ fx_tb := fx_m1 587 (by decide +kernel)
theorem ks_FS_isPlace : Cond.static (fx_y mq_FS_isPlace) ∈ fx_tb := fx_m1 586 (by decide +kernel)
theorem kc_LA_clip : fx_cw mq_LA_clip ∈ fx_tb := fx_m1 591 (by decide +kernel)
theorem ks_LA_clip : Cond.static (fx_y mq_LA_clip) ∈ fx_tb := fx_m1 590 (by decide +kernel)
theorem kc_FS_clip : fx_cw mq_FS_clip ∈ fx_tb := fx_m1 595 (by decide +kernel)
theorem ki_FS_clip : Cond.instanceMethod (fx_y mq_FS_clip) ∈ fx_tb := fx_m1 593 (by decide +kernel)
theorem ke_FS_clip : Cond.selects (fx_y mq_FS_clip).cls (fx_y mq_FS_clip) (fx_y mq_FS_clip) ∈ fx_tb := fx_m1 594 (by decide +kernel)
theorem kc_FS_isArea : fx_cw mq_FS_isArea ∈ fx_tb := fx_m1 598 (by decide +kernel)
theorem ks_FS_isArea : Cond.static (fx_y mq_FS_isArea) ∈ fx_tb := fx_m1 597 (by decide +kernel)
theorem kc_LA_put : fx_cw mq_LA_put ∈ fx_tb := fx_m1 603 (by decide +kernel)
theorem ks_LA_put : Cond.static (fx_y mq_LA_put) ∈ fx_tb := fx_m1 602 (by decide +kernel)
theorem kc_FS_put : fx_cw mq_FS_put ∈ fx_tb := fx_m1 608 (by decide +kernel)
theorem ki_FS_put : Cond.instanceMethod (fx_y mq_FS_put) ∈ fx_tb := fx_m1 606 (by decide +kernel)
theorem ke_FS_put : Cond.selects (fx_y mq_FS_put).cls (fx_y mq_FS_put) (fx_y mq_FS_put) ∈ fx_tb := fx_m1 607 (by decide +kernel)
theorem kc_FS_isColor : fx_cw mq_FS_isColor ∈ fx_tb := fx_m1 611 (by decide +kernel)
theorem ks_FS_isColor : Cond.static (fx_y mq_FS_isColor) ∈ fx_tb := fx_m1 610 (by decide +kernel)
theorem kc_LA_fill : fx_cw mq_LA_fill ∈ fx_tb := fx_m1 630 (by decide +kernel)
theorem ks_LA_fill : Cond.static (fx_y mq_LA_fill) ∈ fx_tb := fx_m1 629 (by decide +kernel)
theorem kc_FS_fill : fx_cw mq_FS_fill ∈ fx_tb := fx_m1 634 (by decide +kernel)
theorem ki_FS_fill : Cond.instanceMethod (fx_y mq_FS_fill) ∈ fx_tb := fx_m1 632 (by decide +kernel)
theorem ke_FS_fill : Cond.selects (fx_y mq_FS_fill).cls (fx_y mq_FS_fill) (fx_y mq_FS_fill) ∈ fx_tb := fx_m1 633 (by decide +kernel)
theorem kc_PI_paintOver : fx_cw mq_PI_paintOver ∈ fx_tb := fx_m1 638 (by decide +kernel)
theorem ki_PI_paintOver : Cond.instanceMethod (fx_y mq_PI_paintOver) ∈ fx_tb := fx_m1 636 (by decide +kernel)
theorem ke_PI_paintOver : Cond.selects (fx_y mq_PI_paintOver).cls (fx_y mq_PI_paintOver) (fx_y mq_PI_paintOver) ∈ fx_tb := fx_m1 637 (by decide +kernel)
theorem kc_RE_pixels : fx_cw mq_RE_pixels ∈ fx_tb := fx_m1 642 (by decide +kernel)
theorem ki_RE_pixels : Cond.instanceMethod (fx_y mq_RE_pixels) ∈ fx_tb := fx_m1 640 (by decide +kernel)
theorem ke_RE_pixels : Cond.selects (fx_y mq_RE_pixels).cls (fx_y mq_RE_pixels) (fx_y mq_RE_pixels) ∈ fx_tb := fx_m1 641 (by decide +kernel)
theorem kc_LA_copy : fx_cw mq_LA_copy ∈ fx_tb := fx_m1 645 (by decide +kernel)
theorem ks_LA_copy : Cond.static (fx_y mq_LA_copy) ∈ fx_tb := fx_m1 644 (by decide +kernel)
theorem kc_FS_copy : fx_cw mq_FS_copy ∈ fx_tb := fx_m1 649 (by decide +kernel)
theorem ki_FS_copy : Cond.instanceMethod (fx_y mq_FS_copy) ∈ fx_tb := fx_m1 647 (by decide +kernel)
theorem ke_FS_copy : Cond.selects (fx_y mq_FS_copy).cls (fx_y mq_FS_copy) (fx_y mq_FS_copy) ∈ fx_tb := fx_m1 648 (by decide +kernel)
theorem kc_PI_become : fx_cw mq_PI_become ∈ fx_tb := fx_m1 654 (by decide +kernel)
theorem ki_PI_become : Cond.instanceMethod (fx_y mq_PI_become) ∈ fx_tb := fx_m1 652 (by decide +kernel)
theorem ke_PI_become : Cond.selects (fx_y mq_PI_become).cls (fx_y mq_PI_become) (fx_y mq_PI_become) ∈ fx_tb := fx_m1 653 (by decide +kernel)
theorem kc_PI_layDown : fx_cw mq_PI_layDown ∈ fx_tb := fx_m1 659 (by decide +kernel)
theorem ki_PI_layDown : Cond.instanceMethod (fx_y mq_PI_layDown) ∈ fx_tb := fx_m1 657 (by decide +kernel)
theorem ke_PI_layDown : Cond.selects (fx_y mq_PI_layDown).cls (fx_y mq_PI_layDown) (fx_y mq_PI_layDown) ∈ fx_tb := fx_m1 658 (by decide +kernel)
theorem kc_LA_commit : fx_cw mq_LA_commit ∈ fx_tb := fx_m1 663 (by decide +kernel)
theorem ks_LA_commit : Cond.static (fx_y mq_LA_commit) ∈ fx_tb := fx_m1 662 (by decide +kernel)
theorem kc_FS_commit : fx_cw mq_FS_commit ∈ fx_tb := fx_m1 667 (by decide +kernel)
theorem ki_FS_commit : Cond.instanceMethod (fx_y mq_FS_commit) ∈ fx_tb := fx_m1 665 (by decide +kernel)
theorem ke_FS_commit : Cond.selects (fx_y mq_FS_commit).cls (fx_y mq_FS_commit) (fx_y mq_FS_commit) ∈ fx_tb := fx_m1 666 (by decide +kernel)
theorem kc_DE_commitAll : fx_cw mq_DE_commitAll ∈ fx_tb := fx_m1 671 (by decide +kernel)
theorem ki_DE_commitAll : Cond.instanceMethod (fx_y mq_DE_commitAll) ∈ fx_tb := fx_m1 669 (by decide +kernel)
theorem ke_DE_commitAll : Cond.selects (fx_y mq_DE_commitAll).cls (fx_y mq_DE_commitAll) (fx_y mq_DE_commitAll) ∈ fx_tb := fx_m1 670 (by decide +kernel)
theorem kc_PL_sort : fx_cw mq_PL_sort ∈ fx_tb := fx_m1 676 (by decide +kernel)
theorem ki_PL_sort : Cond.instanceMethod (fx_y mq_PL_sort) ∈ fx_tb := fx_m1 674 (by decide +kernel)
theorem ke_PL_sort : Cond.selects (fx_y mq_PL_sort).cls (fx_y mq_PL_sort) (fx_y mq_PL_sort) ∈ fx_tb := fx_m1 675 (by decide +kernel)
theorem kc_LA_draw : fx_cw mq_LA_draw ∈ fx_tb := fx_m1 679 (by decide +kernel)
theorem ks_LA_draw : Cond.static (fx_y mq_LA_draw) ∈ fx_tb := fx_m1 678 (by decide +kernel)
theorem kc_FS_draw : fx_cw mq_FS_draw ∈ fx_tb := fx_m1 683 (by decide +kernel)
theorem ki_FS_draw : Cond.instanceMethod (fx_y mq_FS_draw) ∈ fx_tb := fx_m1 681 (by decide +kernel)
theorem ke_FS_draw : Cond.selects (fx_y mq_FS_draw).cls (fx_y mq_FS_draw) (fx_y mq_FS_draw) ∈ fx_tb := fx_m1 682 (by decide +kernel)
theorem kc_CO_begin : fx_cw mq_CO_begin ∈ fx_tb := fx_m1 687 (by decide +kernel)
theorem ki_CO_begin : Cond.instanceMethod (fx_y mq_CO_begin) ∈ fx_tb := fx_m1 685 (by decide +kernel)
theorem ke_CO_begin : Cond.selects (fx_y mq_CO_begin).cls (fx_y mq_CO_begin) (fx_y mq_CO_begin) ∈ fx_tb := fx_m1 686 (by decide +kernel)
theorem kc_CO_rememberBefore : fx_cw mq_CO_rememberBefore ∈ fx_tb := fx_m1 691 (by decide +kernel)
theorem ki_CO_rememberBefore : Cond.instanceMethod (fx_y mq_CO_rememberBefore) ∈ fx_tb := fx_m1 690 (by decide +kernel)
theorem ke_CO_rememberBefore : Cond.selects (fx_y mq_CO_rememberBefore).cls (fx_y mq_CO_rememberBefore) (fx_y mq_CO_rememberBefore) ∈ fx_tb := fx_m0 1 (by decide +kernel)
theorem kc_PN_has : fx_cw mq_PN_has ∈ fx_tb := fx_m1 695 (by decide +kernel)
theorem ki_PN_has : Cond.instanceMethod (fx_y mq_PN_has) ∈ fx_tb := fx_m1 693 (by decide +kernel)
theorem ke_PN_has : Cond.selects (fx_y mq_PN_has).cls (fx_y mq_PN_has) (fx_y mq_PN_has) ∈ fx_tb := fx_m1 694 (by decide +kernel)
theorem kc_PL_become : fx_cw mq_PL_become ∈ fx_tb := fx_m1 700 (by decide +kernel)
theorem ki_PL_become : Cond.instanceMethod (fx_y mq_PL_become) ∈ fx_tb := fx_m1 698 (by decide +kernel)
theorem ke_PL_become : Cond.selects (fx_y mq_PL_become).cls (fx_y mq_PL_become) (fx_y mq_PL_become) ∈ fx_tb := fx_m1 699 (by decide +kernel)
theorem kc_PN_choose : fx_cw mq_PN_choose ∈ fx_tb := fx_m1 706 (by decide +kernel)
theorem ki_PN_choose : Cond.instanceMethod (fx_y mq_PN_choose) ∈ fx_tb := fx_m1 704 (by decide +kernel)
theorem ke_PN_choose : Cond.selects (fx_y mq_PN_choose).cls (fx_y mq_PN_choose) (fx_y mq_PN_choose) ∈ fx_tb := fx_m1 705 (by decide +kernel)
theorem kc_PN_isFit : fx_cw mq_PN_isFit ∈ fx_tb := fx_m1 711 (by decide +kernel)
theorem ki_PN_isFit : Cond.instanceMethod (fx_y mq_PN_isFit) ∈ fx_tb := fx_m1 710 (by decide +kernel)
theorem ke_PN_isFit : Cond.selects (fx_y mq_PN_isFit).cls (fx_y mq_PN_isFit) (fx_y mq_PN_isFit) ∈ fx_tb := fx_m0 2 (by decide +kernel)
theorem kc_RE_isEmpty : fx_cw mq_RE_isEmpty ∈ fx_tb := fx_m1 715 (by decide +kernel)
theorem ki_RE_isEmpty : Cond.instanceMethod (fx_y mq_RE_isEmpty) ∈ fx_tb := fx_m1 713 (by decide +kernel)
theorem ke_RE_isEmpty : Cond.selects (fx_y mq_RE_isEmpty).cls (fx_y mq_RE_isEmpty) (fx_y mq_RE_isEmpty) ∈ fx_tb := fx_m1 714 (by decide +kernel)
theorem kc_RE_meets : fx_cw mq_RE_meets ∈ fx_tb := fx_m1 720 (by decide +kernel)
theorem ki_RE_meets : Cond.instanceMethod (fx_y mq_RE_meets) ∈ fx_tb := fx_m1 718 (by decide +kernel)
theorem ke_RE_meets : Cond.selects (fx_y mq_RE_meets).cls (fx_y mq_RE_meets) (fx_y mq_RE_meets) ∈ fx_tb := fx_m1 719 (by decide +kernel)
theorem kc_PN_give : fx_cw mq_PN_give ∈ fx_tb := fx_m1 724 (by decide +kernel)
theorem ki_PN_give : Cond.instanceMethod (fx_y mq_PN_give) ∈ fx_tb := fx_m1 723 (by decide +kernel)
theorem ke_PN_give : Cond.selects (fx_y mq_PN_give).cls (fx_y mq_PN_give) (fx_y mq_PN_give) ∈ fx_tb := fx_m0 3 (by decide +kernel)
theorem kc_CO_noteChanges : fx_cw mq_CO_noteChanges ∈ fx_tb := fx_m1 729 (by decide +kernel)
theorem ki_CO_noteChanges : Cond.instanceMethod (fx_y mq_CO_noteChanges) ∈ fx_tb := fx_m1 728 (by decide +kernel)
theorem ke_CO_noteChanges : Cond.selects (fx_y mq_CO_noteChanges).cls (fx_y mq_CO_noteChanges) (fx_y mq_CO_noteChanges) ∈ fx_tb := fx_m0 4 (by decide +kernel)
theorem kc_DE_isWaiting : fx_cw mq_DE_isWaiting ∈ fx_tb := fx_m1 733 (by decide +kernel)
theorem ki_DE_isWaiting : Cond.instanceMethod (fx_y mq_DE_isWaiting) ∈ fx_tb := fx_m1 731 (by decide +kernel)
theorem ke_DE_isWaiting : Cond.selects (fx_y mq_DE_isWaiting).cls (fx_y mq_DE_isWaiting) (fx_y mq_DE_isWaiting) ∈ fx_tb := fx_m1 732 (by decide +kernel)
theorem kc_MI_add : fx_cw mq_MI_add ∈ fx_tb := fx_m1 737 (by decide +kernel)
theorem ki_MI_add : Cond.instanceMethod (fx_y mq_MI_add) ∈ fx_tb := fx_m1 735 (by decide +kernel)
theorem ke_MI_add : Cond.selects (fx_y mq_MI_add).cls (fx_y mq_MI_add) (fx_y mq_MI_add) ∈ fx_tb := fx_m1 736 (by decide +kernel)
theorem kc_MI_isCovered : fx_cw mq_MI_isCovered ∈ fx_tb := fx_m1 742 (by decide +kernel)
theorem ki_MI_isCovered : Cond.instanceMethod (fx_y mq_MI_isCovered) ∈ fx_tb := fx_m1 741 (by decide +kernel)
theorem ke_MI_isCovered : Cond.selects (fx_y mq_MI_isCovered).cls (fx_y mq_MI_isCovered) (fx_y mq_MI_isCovered) ∈ fx_tb := fx_m0 5 (by decide +kernel)
theorem kc_RE_contains : fx_cw mq_RE_contains ∈ fx_tb := fx_m1 746 (by decide +kernel)
theorem ki_RE_contains : Cond.instanceMethod (fx_y mq_RE_contains) ∈ fx_tb := fx_m1 744 (by decide +kernel)
theorem ke_RE_contains : Cond.selects (fx_y mq_RE_contains).cls (fx_y mq_RE_contains) (fx_y mq_RE_contains) ∈ fx_tb := fx_m1 745 (by decide +kernel)
theorem kc_MI_joinNearest : fx_cw mq_MI_joinNearest ∈ fx_tb := fx_m1 751 (by decide +kernel)
theorem ki_MI_joinNearest : Cond.instanceMethod (fx_y mq_MI_joinNearest) ∈ fx_tb := fx_m1 750 (by decide +kernel)
theorem ke_MI_joinNearest : Cond.selects (fx_y mq_MI_joinNearest).cls (fx_y mq_MI_joinNearest) (fx_y mq_MI_joinNearest) ∈ fx_tb := fx_m0 6 (by decide +kernel)
theorem kc_RE_wasteWith : fx_cw mq_RE_wasteWith ∈ fx_tb := fx_m1 755 (by decide +kernel)
theorem ki_RE_wasteWith : Cond.instanceMethod (fx_y mq_RE_wasteWith) ∈ fx_tb := fx_m1 753 (by decide +kernel)
theorem ke_RE_wasteWith : Cond.selects (fx_y mq_RE_wasteWith).cls (fx_y mq_RE_wasteWith) (fx_y mq_RE_wasteWith) ∈ fx_tb := fx_m1 754 (by decide +kernel)
theorem kc_RE_growOver : fx_cw mq_RE_growOver ∈ fx_tb := fx_m1 759 (by decide +kernel)
theorem ki_RE_growOver : Cond.instanceMethod (fx_y mq_RE_growOver) ∈ fx_tb := fx_m1 757 (by decide +kernel)
theorem ke_RE_growOver : Cond.selects (fx_y mq_RE_growOver).cls (fx_y mq_RE_growOver) (fx_y mq_RE_growOver) ∈ fx_tb := fx_m1 758 (by decide +kernel)
theorem kc_MI_dropAt : fx_cw mq_MI_dropAt ∈ fx_tb := fx_m1 763 (by decide +kernel)
theorem ki_MI_dropAt : Cond.instanceMethod (fx_y mq_MI_dropAt) ∈ fx_tb := fx_m1 762 (by decide +kernel)
theorem ke_MI_dropAt : Cond.selects (fx_y mq_MI_dropAt).cls (fx_y mq_MI_dropAt) (fx_y mq_MI_dropAt) ∈ fx_tb := fx_m0 7 (by decide +kernel)
theorem kc_DE_allTaken : fx_cw mq_DE_allTaken ∈ fx_tb := fx_m1 767 (by decide +kernel)
theorem ki_DE_allTaken : Cond.instanceMethod (fx_y mq_DE_allTaken) ∈ fx_tb := fx_m1 765 (by decide +kernel)
theorem ke_DE_allTaken : Cond.selects (fx_y mq_DE_allTaken).cls (fx_y mq_DE_allTaken) (fx_y mq_DE_allTaken) ∈ fx_tb := fx_m1 766 (by decide +kernel)
theorem kc_CO_startHole : fx_cw mq_CO_startHole ∈ fx_tb := fx_m1 771 (by decide +kernel)
theorem ki_CO_startHole : Cond.instanceMethod (fx_y mq_CO_startHole) ∈ fx_tb := fx_m1 770 (by decide +kernel)
theorem ke_CO_startHole : Cond.selects (fx_y mq_CO_startHole).cls (fx_y mq_CO_startHole) (fx_y mq_CO_startHole) ∈ fx_tb := fx_m0 8 (by decide +kernel)
theorem kc_CO_makeSteps : fx_cw mq_CO_makeSteps ∈ fx_tb := fx_m1 775 (by decide +kernel)
theorem ki_CO_makeSteps : Cond.instanceMethod (fx_y mq_CO_makeSteps) ∈ fx_tb := fx_m1 773 (by decide +kernel)
theorem ke_CO_makeSteps : Cond.selects (fx_y mq_CO_makeSteps).cls (fx_y mq_CO_makeSteps) (fx_y mq_CO_makeSteps) ∈ fx_tb := fx_m1 774 (by decide +kernel)
theorem kc_CO_makeStep : fx_cw mq_CO_makeStep ∈ fx_tb := fx_m1 779 (by decide +kernel)
theorem ki_CO_makeStep : Cond.instanceMethod (fx_y mq_CO_makeStep) ∈ fx_tb := fx_m1 778 (by decide +kernel)
theorem ke_CO_makeStep : Cond.selects (fx_y mq_CO_makeStep).cls (fx_y mq_CO_makeStep) (fx_y mq_CO_makeStep) ∈ fx_tb := fx_m0 9 (by decide +kernel)
theorem kc_ME_blacken : fx_cw mq_ME_blacken ∈ fx_tb := fx_m1 783 (by decide +kernel)
theorem ki_ME_blacken : Cond.instanceMethod (fx_y mq_ME_blacken) ∈ fx_tb := fx_m1 781 (by decide +kernel)
theorem ke_ME_blacken : Cond.selects (fx_y mq_ME_blacken).cls (fx_y mq_ME_blacken) (fx_y mq_ME_blacken) ∈ fx_tb := fx_m1 782 (by decide +kernel)
theorem kc_ME_paint : fx_cw mq_ME_paint ∈ fx_tb := fx_m1 787 (by decide +kernel)
theorem ki_ME_paint : Cond.instanceMethod (fx_y mq_ME_paint) ∈ fx_tb := fx_m1 785 (by decide +kernel)
theorem ke_ME_paint : Cond.selects (fx_y mq_ME_paint).cls (fx_y mq_ME_paint) (fx_y mq_ME_paint) ∈ fx_tb := fx_m1 786 (by decide +kernel)
theorem kc_CO_nextLevel : fx_cw mq_CO_nextLevel ∈ fx_tb := fx_m1 794 (by decide +kernel)
theorem ki_CO_nextLevel : Cond.instanceMethod (fx_y mq_CO_nextLevel) ∈ fx_tb := fx_m1 793 (by decide +kernel)
theorem ke_CO_nextLevel : Cond.selects (fx_y mq_CO_nextLevel).cls (fx_y mq_CO_nextLevel) (fx_y mq_CO_nextLevel) ∈ fx_tb := fx_m0 10 (by decide +kernel)
theorem kc_MO_init : fx_cw mq_MO_init ∈ fx_tb := fx_m1 800 (by decide +kernel)
theorem ki_MO_init : Cond.instanceMethod (fx_y mq_MO_init) ∈ fx_tb := fx_m1 799 (by decide +kernel)
theorem kc_MO_thrown : fx_cw mq_MO_thrown ∈ fx_tb := fx_m1 962 (by decide +kernel)
theorem ki_MO_thrown : Cond.instanceMethod (fx_y mq_MO_thrown) ∈ fx_tb := fx_m1 960 (by decide +kernel)
theorem ke_MO_thrown : Cond.selects (fx_y mq_MO_thrown).cls (fx_y mq_MO_thrown) (fx_y mq_MO_thrown) ∈ fx_tb := fx_m1 961 (by decide +kernel)
theorem kc_MO_surface : fx_cw mq_MO_surface ∈ fx_tb := fx_m1 966 (by decide +kernel)
theorem ki_MO_surface : Cond.instanceMethod (fx_y mq_MO_surface) ∈ fx_tb := fx_m1 964 (by decide +kernel)
theorem ke_MO_surface : Cond.selects (fx_y mq_MO_surface).cls (fx_y mq_MO_surface) (fx_y mq_MO_surface) ∈ fx_tb := fx_m1 965 (by decide +kernel)
theorem kc_MO_within : fx_cw mq_MO_within ∈ fx_tb := fx_m1 969 (by decide +kernel)
theorem ks_MO_within : Cond.static (fx_y mq_MO_within) ∈ fx_tb := fx_m1 968 (by decide +kernel)
theorem kc_MO_freePixels : fx_cw mq_MO_freePixels ∈ fx_tb := fx_m1 973 (by decide +kernel)
theorem ki_MO_freePixels : Cond.instanceMethod (fx_y mq_MO_freePixels) ∈ fx_tb := fx_m1 972 (by decide +kernel)
theorem ke_MO_freePixels : Cond.selects (fx_y mq_MO_freePixels).cls (fx_y mq_MO_freePixels) (fx_y mq_MO_freePixels) ∈ fx_tb := fx_m0 11 (by decide +kernel)
theorem kc_MO_destroy : fx_cw mq_MO_destroy ∈ fx_tb := fx_m1 977 (by decide +kernel)
theorem ki_MO_destroy : Cond.instanceMethod (fx_y mq_MO_destroy) ∈ fx_tb := fx_m1 975 (by decide +kernel)
theorem ke_MO_destroy : Cond.selects (fx_y mq_MO_destroy).cls (fx_y mq_MO_destroy) (fx_y mq_MO_destroy) ∈ fx_tb := fx_m1 976 (by decide +kernel)
theorem kc_MO_hasDraft : fx_cw mq_MO_hasDraft ∈ fx_tb := fx_m1 981 (by decide +kernel)
theorem ki_MO_hasDraft : Cond.instanceMethod (fx_y mq_MO_hasDraft) ∈ fx_tb := fx_m1 980 (by decide +kernel)
theorem ke_MO_hasDraft : Cond.selects (fx_y mq_MO_hasDraft).cls (fx_y mq_MO_hasDraft) (fx_y mq_MO_hasDraft) ∈ fx_tb := fx_m0 12 (by decide +kernel)
theorem kc_MO_place : fx_cw mq_MO_place ∈ fx_tb := fx_m1 985 (by decide +kernel)
theorem ki_MO_place : Cond.instanceMethod (fx_y mq_MO_place) ∈ fx_tb := fx_m1 983 (by decide +kernel)
theorem ke_MO_place : Cond.selects (fx_y mq_MO_place).cls (fx_y mq_MO_place) (fx_y mq_MO_place) ∈ fx_tb := fx_m1 984 (by decide +kernel)
theorem kc_MO_clip : fx_cw mq_MO_clip ∈ fx_tb := fx_m1 989 (by decide +kernel)
theorem ki_MO_clip : Cond.instanceMethod (fx_y mq_MO_clip) ∈ fx_tb := fx_m1 987 (by decide +kernel)
theorem ke_MO_clip : Cond.selects (fx_y mq_MO_clip).cls (fx_y mq_MO_clip) (fx_y mq_MO_clip) ∈ fx_tb := fx_m1 988 (by decide +kernel)
theorem kc_MO_isArea : fx_cw mq_MO_isArea ∈ fx_tb := fx_m1 992 (by decide +kernel)
theorem ks_MO_isArea : Cond.static (fx_y mq_MO_isArea) ∈ fx_tb := fx_m1 991 (by decide +kernel)
theorem kc_MO_put : fx_cw mq_MO_put ∈ fx_tb := fx_m1 996 (by decide +kernel)
theorem ki_MO_put : Cond.instanceMethod (fx_y mq_MO_put) ∈ fx_tb := fx_m1 994 (by decide +kernel)
theorem ke_MO_put : Cond.selects (fx_y mq_MO_put).cls (fx_y mq_MO_put) (fx_y mq_MO_put) ∈ fx_tb := fx_m1 995 (by decide +kernel)
theorem kc_MO_has : fx_cw mq_MO_has ∈ fx_tb := fx_m1 1001 (by decide +kernel)
theorem ki_MO_has : Cond.instanceMethod (fx_y mq_MO_has) ∈ fx_tb := fx_m1 1000 (by decide +kernel)
theorem ke_MO_has : Cond.selects (fx_y mq_MO_has).cls (fx_y mq_MO_has) (fx_y mq_MO_has) ∈ fx_tb := fx_m0 13 (by decide +kernel)
theorem kc_MO_fill : fx_cw mq_MO_fill ∈ fx_tb := fx_m1 1005 (by decide +kernel)
theorem ki_MO_fill : Cond.instanceMethod (fx_y mq_MO_fill) ∈ fx_tb := fx_m1 1003 (by decide +kernel)
theorem ke_MO_fill : Cond.selects (fx_y mq_MO_fill).cls (fx_y mq_MO_fill) (fx_y mq_MO_fill) ∈ fx_tb := fx_m1 1004 (by decide +kernel)
theorem kc_MO_copy : fx_cw mq_MO_copy ∈ fx_tb := fx_m1 1009 (by decide +kernel)
theorem ki_MO_copy : Cond.instanceMethod (fx_y mq_MO_copy) ∈ fx_tb := fx_m1 1007 (by decide +kernel)
theorem ke_MO_copy : Cond.selects (fx_y mq_MO_copy).cls (fx_y mq_MO_copy) (fx_y mq_MO_copy) ∈ fx_tb := fx_m1 1008 (by decide +kernel)
theorem kc_MO_isCopy : fx_cw mq_MO_isCopy ∈ fx_tb := fx_m1 1013 (by decide +kernel)
theorem ki_MO_isCopy : Cond.instanceMethod (fx_y mq_MO_isCopy) ∈ fx_tb := fx_m1 1012 (by decide +kernel)
theorem ke_MO_isCopy : Cond.selects (fx_y mq_MO_isCopy).cls (fx_y mq_MO_isCopy) (fx_y mq_MO_isCopy) ∈ fx_tb := fx_m0 14 (by decide +kernel)
theorem kc_MO_commit : fx_cw mq_MO_commit ∈ fx_tb := fx_m1 1017 (by decide +kernel)
theorem ki_MO_commit : Cond.instanceMethod (fx_y mq_MO_commit) ∈ fx_tb := fx_m1 1015 (by decide +kernel)
theorem ke_MO_commit : Cond.selects (fx_y mq_MO_commit).cls (fx_y mq_MO_commit) (fx_y mq_MO_commit) ∈ fx_tb := fx_m1 1016 (by decide +kernel)
theorem kc_MO_copyPicture : fx_cw mq_MO_copyPicture ∈ fx_tb := fx_m1 1021 (by decide +kernel)
theorem ki_MO_copyPicture : Cond.instanceMethod (fx_y mq_MO_copyPicture) ∈ fx_tb := fx_m1 1020 (by decide +kernel)
theorem ke_MO_copyPicture : Cond.selects (fx_y mq_MO_copyPicture).cls (fx_y mq_MO_copyPicture) (fx_y mq_MO_copyPicture) ∈ fx_tb := fx_m0 15 (by decide +kernel)
theorem kc_MO_draw : fx_cw mq_MO_draw ∈ fx_tb := fx_m1 1025 (by decide +kernel)
theorem ki_MO_draw : Cond.instanceMethod (fx_y mq_MO_draw) ∈ fx_tb := fx_m1 1023 (by decide +kernel)
theorem ke_MO_draw : Cond.selects (fx_y mq_MO_draw).cls (fx_y mq_MO_draw) (fx_y mq_MO_draw) ∈ fx_tb := fx_m1 1024 (by decide +kernel)
theorem kc_MO_begin : fx_cw mq_MO_begin ∈ fx_tb := fx_m1 1029 (by decide +kernel)
theorem ki_MO_begin : Cond.instanceMethod (fx_y mq_MO_begin) ∈ fx_tb := fx_m1 1028 (by decide +kernel)
theorem ke_MO_begin : Cond.selects (fx_y mq_MO_begin).cls (fx_y mq_MO_begin) (fx_y mq_MO_begin) ∈ fx_tb := fx_m0 16 (by decide +kernel)
theorem kc_MO_show : fx_cw mq_MO_show ∈ fx_tb := fx_m1 1033 (by decide +kernel)
theorem ki_MO_show : Cond.instanceMethod (fx_y mq_MO_show) ∈ fx_tb := fx_m1 1032 (by decide +kernel)
theorem ke_MO_show : Cond.selects (fx_y mq_MO_show).cls (fx_y mq_MO_show) (fx_y mq_MO_show) ∈ fx_tb := fx_m0 17 (by decide +kernel)
theorem kc_MO_cut : fx_cw mq_MO_cut ∈ fx_tb := fx_m1 1037 (by decide +kernel)
theorem ki_MO_cut : Cond.instanceMethod (fx_y mq_MO_cut) ∈ fx_tb := fx_m1 1036 (by decide +kernel)
theorem ke_MO_cut : Cond.selects (fx_y mq_MO_cut).cls (fx_y mq_MO_cut) (fx_y mq_MO_cut) ∈ fx_tb := fx_m0 18 (by decide +kernel)
theorem kc_MO_isPlane : fx_cw mq_MO_isPlane ∈ fx_tb := fx_m1 1041 (by decide +kernel)
theorem ki_MO_isPlane : Cond.instanceMethod (fx_y mq_MO_isPlane) ∈ fx_tb := fx_m1 1040 (by decide +kernel)
theorem ke_MO_isPlane : Cond.selects (fx_y mq_MO_isPlane).cls (fx_y mq_MO_isPlane) (fx_y mq_MO_isPlane) ∈ fx_tb := fx_m0 19 (by decide +kernel)
theorem kc_MO_choosePlanes : fx_cw mq_MO_choosePlanes ∈ fx_tb := fx_m1 1045 (by decide +kernel)
theorem ki_MO_choosePlanes : Cond.instanceMethod (fx_y mq_MO_choosePlanes) ∈ fx_tb := fx_m1 1044 (by decide +kernel)
theorem ke_MO_choosePlanes : Cond.selects (fx_y mq_MO_choosePlanes).cls (fx_y mq_MO_choosePlanes) (fx_y mq_MO_choosePlanes) ∈ fx_tb := fx_m0 20 (by decide +kernel)
theorem kc_MO_nth : fx_cw mq_MO_nth ∈ fx_tb := fx_m1 1049 (by decide +kernel)
theorem ki_MO_nth : Cond.instanceMethod (fx_y mq_MO_nth) ∈ fx_tb := fx_m1 1048 (by decide +kernel)
theorem ke_MO_nth : Cond.selects (fx_y mq_MO_nth).cls (fx_y mq_MO_nth) (fx_y mq_MO_nth) ∈ fx_tb := fx_m0 21 (by decide +kernel)
theorem kc_MO_isAbove : fx_cw mq_MO_isAbove ∈ fx_tb := fx_m1 1053 (by decide +kernel)
theorem ki_MO_isAbove : Cond.instanceMethod (fx_y mq_MO_isAbove) ∈ fx_tb := fx_m1 1052 (by decide +kernel)
theorem ke_MO_isAbove : Cond.selects (fx_y mq_MO_isAbove).cls (fx_y mq_MO_isAbove) (fx_y mq_MO_isAbove) ∈ fx_tb := fx_m0 22 (by decide +kernel)
theorem kc_MO_miss : fx_cw mq_MO_miss ∈ fx_tb := fx_m1 1057 (by decide +kernel)
theorem ki_MO_miss : Cond.instanceMethod (fx_y mq_MO_miss) ∈ fx_tb := fx_m1 1056 (by decide +kernel)
theorem ke_MO_miss : Cond.selects (fx_y mq_MO_miss).cls (fx_y mq_MO_miss) (fx_y mq_MO_miss) ∈ fx_tb := fx_m0 23 (by decide +kernel)
theorem kc_MO_lies : fx_cw mq_MO_lies ∈ fx_tb := fx_m1 1061 (by decide +kernel)
theorem ki_MO_lies : Cond.instanceMethod (fx_y mq_MO_lies) ∈ fx_tb := fx_m1 1060 (by decide +kernel)
theorem ke_MO_lies : Cond.selects (fx_y mq_MO_lies).cls (fx_y mq_MO_lies) (fx_y mq_MO_lies) ∈ fx_tb := fx_m0 24 (by decide +kernel)
theorem kc_MO_join : fx_cw mq_MO_join ∈ fx_tb := fx_m1 1065 (by decide +kernel)
theorem ki_MO_join : Cond.instanceMethod (fx_y mq_MO_join) ∈ fx_tb := fx_m1 1064 (by decide +kernel)
theorem ke_MO_join : Cond.selects (fx_y mq_MO_join).cls (fx_y mq_MO_join) (fx_y mq_MO_join) ∈ fx_tb := fx_m0 25 (by decide +kernel)
theorem kc_MO_hullWide : fx_cw mq_MO_hullWide ∈ fx_tb := fx_m1 1070 (by decide +kernel)
theorem ki_MO_hullWide : Cond.instanceMethod (fx_y mq_MO_hullWide) ∈ fx_tb := fx_m1 1069 (by decide +kernel)
theorem ke_MO_hullWide : Cond.selects (fx_y mq_MO_hullWide).cls (fx_y mq_MO_hullWide) (fx_y mq_MO_hullWide) ∈ fx_tb := fx_m0 26 (by decide +kernel)
theorem kc_MO_hullHigh : fx_cw mq_MO_hullHigh ∈ fx_tb := fx_m1 1074 (by decide +kernel)
theorem ki_MO_hullHigh : Cond.instanceMethod (fx_y mq_MO_hullHigh) ∈ fx_tb := fx_m1 1073 (by decide +kernel)
theorem ke_MO_hullHigh : Cond.selects (fx_y mq_MO_hullHigh).cls (fx_y mq_MO_hullHigh) (fx_y mq_MO_hullHigh) ∈ fx_tb := fx_m0 27 (by decide +kernel)
theorem kc_MO_findStep : fx_cw mq_MO_findStep ∈ fx_tb := fx_m1 1078 (by decide +kernel)
theorem ki_MO_findStep : Cond.instanceMethod (fx_y mq_MO_findStep) ∈ fx_tb := fx_m1 1077 (by decide +kernel)
theorem ke_MO_findStep : Cond.selects (fx_y mq_MO_findStep).cls (fx_y mq_MO_findStep) (fx_y mq_MO_findStep) ∈ fx_tb := fx_m0 28 (by decide +kernel)
theorem kc_MO_meet : fx_cw mq_MO_meet ∈ fx_tb := fx_m1 1082 (by decide +kernel)
theorem ki_MO_meet : Cond.instanceMethod (fx_y mq_MO_meet) ∈ fx_tb := fx_m1 1081 (by decide +kernel)
theorem ke_MO_meet : Cond.selects (fx_y mq_MO_meet).cls (fx_y mq_MO_meet) (fx_y mq_MO_meet) ∈ fx_tb := fx_m0 29 (by decide +kernel)
theorem kc_MO_make : fx_cw mq_MO_make ∈ fx_tb := fx_m1 1086 (by decide +kernel)
theorem ki_MO_make : Cond.instanceMethod (fx_y mq_MO_make) ∈ fx_tb := fx_m1 1085 (by decide +kernel)
theorem ke_MO_make : Cond.selects (fx_y mq_MO_make).cls (fx_y mq_MO_make) (fx_y mq_MO_make) ∈ fx_tb := fx_m0 30 (by decide +kernel)
theorem kc_MO_paint : fx_cw mq_MO_paint ∈ fx_tb := fx_m1 1090 (by decide +kernel)
theorem ki_MO_paint : Cond.instanceMethod (fx_y mq_MO_paint) ∈ fx_tb := fx_m1 1089 (by decide +kernel)
theorem ke_MO_paint : Cond.selects (fx_y mq_MO_paint).cls (fx_y mq_MO_paint) (fx_y mq_MO_paint) ∈ fx_tb := fx_m0 31 (by decide +kernel)
theorem kc_MO_pixelOf : fx_cw mq_MO_pixelOf ∈ fx_tb := fx_m1 1094 (by decide +kernel)
theorem ki_MO_pixelOf : Cond.instanceMethod (fx_y mq_MO_pixelOf) ∈ fx_tb := fx_m1 1093 (by decide +kernel)
theorem ke_MO_pixelOf : Cond.selects (fx_y mq_MO_pixelOf).cls (fx_y mq_MO_pixelOf) (fx_y mq_MO_pixelOf) ∈ fx_tb := fx_m0 32 (by decide +kernel)
theorem kc_MO_mixed : fx_cw mq_MO_mixed ∈ fx_tb := fx_m1 1097 (by decide +kernel)
theorem ks_MO_mixed : Cond.static (fx_y mq_MO_mixed) ∈ fx_tb := fx_m1 1096 (by decide +kernel)
theorem kc_MO_part : fx_cw mq_MO_part ∈ fx_tb := fx_m1 1100 (by decide +kernel)
theorem ks_MO_part : Cond.static (fx_y mq_MO_part) ∈ fx_tb := fx_m1 1099 (by decide +kernel)
theorem kc_MO_scan : fx_cw mq_MO_scan ∈ fx_tb := fx_m1 1104 (by decide +kernel)
theorem ki_MO_scan : Cond.instanceMethod (fx_y mq_MO_scan) ∈ fx_tb := fx_m1 1102 (by decide +kernel)
theorem ke_MO_scan : Cond.selects (fx_y mq_MO_scan).cls (fx_y mq_MO_scan) (fx_y mq_MO_scan) ∈ fx_tb := fx_m1 1103 (by decide +kernel)
theorem kc_MO_look : fx_cw mq_MO_look ∈ fx_tb := fx_m1 1108 (by decide +kernel)
theorem ki_MO_look : Cond.instanceMethod (fx_y mq_MO_look) ∈ fx_tb := fx_m1 1107 (by decide +kernel)
theorem ke_MO_look : Cond.selects (fx_y mq_MO_look).cls (fx_y mq_MO_look) (fx_y mq_MO_look) ∈ fx_tb := fx_m0 33 (by decide +kernel)
theorem kc_MO_change : fx_cw mq_MO_change ∈ fx_tb := fx_m1 1112 (by decide +kernel)
theorem ki_MO_change : Cond.instanceMethod (fx_y mq_MO_change) ∈ fx_tb := fx_m1 1111 (by decide +kernel)
theorem ke_MO_change : Cond.selects (fx_y mq_MO_change).cls (fx_y mq_MO_change) (fx_y mq_MO_change) ∈ fx_tb := fx_m0 34 (by decide +kernel)
theorem kc_MO_state : fx_cw mq_MO_state ∈ fx_tb := fx_m1 1116 (by decide +kernel)
theorem ki_MO_state : Cond.instanceMethod (fx_y mq_MO_state) ∈ fx_tb := fx_m1 1114 (by decide +kernel)
theorem ke_MO_state : Cond.selects (fx_y mq_MO_state).cls (fx_y mq_MO_state) (fx_y mq_MO_state) ∈ fx_tb := fx_m1 1115 (by decide +kernel)
theorem kc_MO_seen : fx_cw mq_MO_seen ∈ fx_tb := fx_m1 1120 (by decide +kernel)
theorem ki_MO_seen : Cond.instanceMethod (fx_y mq_MO_seen) ∈ fx_tb := fx_m1 1118 (by decide +kernel)
theorem ke_MO_seen : Cond.selects (fx_y mq_MO_seen).cls (fx_y mq_MO_seen) (fx_y mq_MO_seen) ∈ fx_tb := fx_m1 1119 (by decide +kernel)
theorem kc_MO_isPixel : fx_cw mq_MO_isPixel ∈ fx_tb := fx_m1 1123 (by decide +kernel)
theorem ks_MO_isPixel : Cond.static (fx_y mq_MO_isPixel) ∈ fx_tb := fx_m1 1122 (by decide +kernel)
theorem kc_MO_wanted : fx_cw mq_MO_wanted ∈ fx_tb := fx_m1 1127 (by decide +kernel)
theorem ki_MO_wanted : Cond.instanceMethod (fx_y mq_MO_wanted) ∈ fx_tb := fx_m1 1125 (by decide +kernel)
theorem ke_MO_wanted : Cond.selects (fx_y mq_MO_wanted).cls (fx_y mq_MO_wanted) (fx_y mq_MO_wanted) ∈ fx_tb := fx_m1 1126 (by decide +kernel)
theorem kc_MO_count : fx_cw mq_MO_count ∈ fx_tb := fx_m1 1131 (by decide +kernel)
theorem ki_MO_count : Cond.instanceMethod (fx_y mq_MO_count) ∈ fx_tb := fx_m1 1129 (by decide +kernel)
theorem ke_MO_count : Cond.selects (fx_y mq_MO_count).cls (fx_y mq_MO_count) (fx_y mq_MO_count) ∈ fx_tb := fx_m1 1130 (by decide +kernel)
theorem kc_MO_missed : fx_cw mq_MO_missed ∈ fx_tb := fx_m1 1135 (by decide +kernel)
theorem ki_MO_missed : Cond.instanceMethod (fx_y mq_MO_missed) ∈ fx_tb := fx_m1 1133 (by decide +kernel)
theorem ke_MO_missed : Cond.selects (fx_y mq_MO_missed).cls (fx_y mq_MO_missed) (fx_y mq_MO_missed) ∈ fx_tb := fx_m1 1134 (by decide +kernel)
theorem kc_MO_plane : fx_cw mq_MO_plane ∈ fx_tb := fx_m1 1139 (by decide +kernel)
theorem ki_MO_plane : Cond.instanceMethod (fx_y mq_MO_plane) ∈ fx_tb := fx_m1 1137 (by decide +kernel)
theorem ke_MO_plane : Cond.selects (fx_y mq_MO_plane).cls (fx_y mq_MO_plane) (fx_y mq_MO_plane) ∈ fx_tb := fx_m1 1138 (by decide +kernel)
theorem kc_MO_free : fx_cw mq_MO_free ∈ fx_tb := fx_m1 1143 (by decide +kernel)
theorem ki_MO_free : Cond.instanceMethod (fx_y mq_MO_free) ∈ fx_tb := fx_m1 1141 (by decide +kernel)
theorem ke_MO_free : Cond.selects (fx_y mq_MO_free).cls (fx_y mq_MO_free) (fx_y mq_MO_free) ∈ fx_tb := fx_m1 1142 (by decide +kernel)
theorem kc_AR_fill : fx_cw mq_AR_fill ∈ fx_tb := fx_m1 542 (by decide +kernel)
theorem ks_AR_fill : Cond.static (fx_y mq_AR_fill) ∈ fx_tb := fx_m1 541 (by decide +kernel)
theorem kn_FS : Cond.initialized "FrameSwapper" ∈ fx_tb := fx_m1 1 (by decide +kernel)
theorem kn_RE : Cond.initialized "FrameSwapper$Rectangle" ∈ fx_tb := fx_m1 5 (by decide +kernel)
theorem kn_PI : Cond.initialized "FrameSwapper$Picture" ∈ fx_tb := fx_m1 4 (by decide +kernel)
theorem kn_PL : Cond.initialized "FrameSwapper$Pile" ∈ fx_tb := fx_m1 3 (by decide +kernel)
theorem kn_DE : Cond.initialized "FrameSwapper$Desk" ∈ fx_tb := fx_m1 2 (by decide +kernel)
theorem kn_MI : Cond.initialized "FrameSwapper$Misses" ∈ fx_tb := fx_m1 9 (by decide +kernel)
theorem kn_ME : Cond.initialized "FrameSwapper$Memory" ∈ fx_tb := fx_m1 8 (by decide +kernel)
theorem kn_PN : Cond.initialized "FrameSwapper$Planes" ∈ fx_tb := fx_m1 7 (by decide +kernel)
theorem kn_CO : Cond.initialized "FrameSwapper$Composer" ∈ fx_tb := fx_m1 6 (by decide +kernel)
theorem kn_BE : Cond.initialized "FrameSwapper$Beam" ∈ fx_tb := fx_m1 10 (by decide +kernel)
theorem kn_MO : Cond.initialized "FrameSwapperModel" ∈ fx_tb := fx_m1 11 (by decide +kernel)
theorem kn_LA : Cond.initialized "FrameSwapperLaw" ∈ fx_tb := fx_m1 0 (by decide +kernel)
theorem kn_AR : Cond.initialized "java/util/Arrays" ∈ fx_tb := fx_m1 17 (by decide +kernel)
end
section
/-! ===== the words of calls, by the class that calls and its pool ===== -/
theorem sq_FS_1 : Cond.methodLink "FrameSwapper" 1 ⟨"java/lang/Object", "<init>", "()V"⟩ ∈ fx_tb := fx_m1 26 (by decide +kernel)
theorem sq_FS_9 : fx_wI "FrameSwapper" 9 0 mq_DE_init := ⟨⟨kc_DE_init, kn_DE, ⟨by decide, by decide⟩, by decide +kernel, fx_m1 31 (by decide +kernel)⟩, ki_DE_init, rfl, rfl, rfl⟩
theorem sq_FS_18 : fx_wI "FrameSwapper" 18 0 mq_CO_init := ⟨⟨kc_CO_init, kn_CO, ⟨by decide, by decide⟩, by decide +kernel, fx_m1 190 (by decide +kernel)⟩, ki_CO_init, rfl, rfl, rfl⟩
theorem sq_FS_25 : fx_wN "FrameSwapper" 25 0 mq_BE_init "FrameSwapper" := ⟨⟨kc_BE_init, kn_BE, ⟨by decide, by decide⟩, by decide +kernel, fx_m1 297 (by decide +kernel)⟩, ki_BE_init, rfl, rfl, rfl⟩
theorem sq_FS_32 : fx_wN "FrameSwapper" 32 0 mq_RE_init "FrameSwapper" := ⟨⟨kc_RE_init, kn_RE, ⟨by decide, by decide⟩, by decide +kernel, fx_m1 328 (by decide +kernel)⟩, ki_RE_init, rfl, rfl, rfl⟩
theorem sq_FS_39 : fx_wN "FrameSwapper" 39 0 mq_PI_init "FrameSwapper" := ⟨⟨kc_PI_init, kn_PI, ⟨by decide, by decide⟩, by decide +kernel, fx_m1 330 (by decide +kernel)⟩, ki_PI_init, rfl, rfl, rfl⟩
theorem sq_DE_3 : Cond.methodLink "FrameSwapper$Desk" 3 ⟨"java/lang/Object", "<init>", "()V"⟩ ∈ fx_tb := fx_m1 34 (by decide +kernel)
theorem sq_DE_19 : fx_wI "FrameSwapper$Desk" 19 0 mq_PL_init := ⟨⟨kc_PL_init, kn_PL, ⟨by decide, by decide⟩, by decide +kernel, fx_m1 39 (by decide +kernel)⟩, ki_PL_init, rfl, rfl, rfl⟩
theorem sq_DE_39 : fx_wN "FrameSwapper$Desk" 39 0 mq_PI_init "FrameSwapper" := ⟨⟨kc_PI_init, kn_PI, ⟨by decide, by decide⟩, by decide +kernel, fx_m1 157 (by decide +kernel)⟩, ki_PI_init, rfl, rfl, rfl⟩
theorem sq_PL_3 : Cond.methodLink "FrameSwapper$Pile" 3 ⟨"java/lang/Object", "<init>", "()V"⟩ ∈ fx_tb := fx_m1 42 (by decide +kernel)
theorem sq_PL_21 : fx_wN "FrameSwapper$Pile" 21 0 mq_PI_init "FrameSwapper" := ⟨⟨kc_PI_init, kn_PI, ⟨by decide, by decide⟩, by decide +kernel, fx_m1 45 (by decide +kernel)⟩, ki_PI_init, rfl, rfl, rfl⟩
theorem sq_PI_3 : Cond.methodLink "FrameSwapper$Picture" 3 ⟨"java/lang/Object", "<init>", "()V"⟩ ∈ fx_tb := fx_m1 48 (by decide +kernel)
theorem sq_PI_17 : fx_wN "FrameSwapper$Picture" 17 0 mq_RE_init "FrameSwapper" := ⟨⟨kc_RE_init, kn_RE, ⟨by decide, by decide⟩, by decide +kernel, fx_m1 51 (by decide +kernel)⟩, ki_RE_init, rfl, rfl, rfl⟩
theorem sq_RE_1 : Cond.methodLink "FrameSwapper$Rectangle" 1 ⟨"java/lang/Object", "<init>", "()V"⟩ ∈ fx_tb := fx_m1 54 (by decide +kernel)
theorem sq_CO_3 : Cond.methodLink "FrameSwapper$Composer" 3 ⟨"java/lang/Object", "<init>", "()V"⟩ ∈ fx_tb := fx_m1 193 (by decide +kernel)
theorem sq_CO_11 : fx_wI "FrameSwapper$Composer" 11 0 mq_PL_init := ⟨⟨kc_PL_init, kn_PL, ⟨by decide, by decide⟩, by decide +kernel, fx_m1 195 (by decide +kernel)⟩, ki_PL_init, rfl, rfl, rfl⟩
theorem sq_CO_20 : fx_wN "FrameSwapper$Composer" 20 0 mq_PN_init "FrameSwapper" := ⟨⟨kc_PN_init, kn_PN, ⟨by decide, by decide⟩, by decide +kernel, fx_m1 198 (by decide +kernel)⟩, ki_PN_init, rfl, rfl, rfl⟩
theorem sq_CO_37 : fx_wN "FrameSwapper$Composer" 37 0 mq_ME_init "FrameSwapper" := ⟨⟨kc_ME_init, kn_ME, ⟨by decide, by decide⟩, by decide +kernel, fx_m1 221 (by decide +kernel)⟩, ki_ME_init, rfl, rfl, rfl⟩
theorem sq_CO_49 : fx_wN "FrameSwapper$Composer" 49 0 mq_RE_init "FrameSwapper" := ⟨⟨kc_RE_init, kn_RE, ⟨by decide, by decide⟩, by decide +kernel, fx_m1 254 (by decide +kernel)⟩, ki_RE_init, rfl, rfl, rfl⟩
theorem sq_PN_3 : Cond.methodLink "FrameSwapper$Planes" 3 ⟨"java/lang/Object", "<init>", "()V"⟩ ∈ fx_tb := fx_m1 201 (by decide +kernel)
theorem sq_PN_17 : fx_wN "FrameSwapper$Planes" 17 0 mq_RE_init "FrameSwapper" := ⟨⟨kc_RE_init, kn_RE, ⟨by decide, by decide⟩, by decide +kernel, fx_m1 204 (by decide +kernel)⟩, ki_RE_init, rfl, rfl, rfl⟩
theorem sq_ME_3 : Cond.methodLink "FrameSwapper$Memory" 3 ⟨"java/lang/Object", "<init>", "()V"⟩ ∈ fx_tb := fx_m1 224 (by decide +kernel)
theorem sq_ME_17 : fx_wI "FrameSwapper$Memory" 17 0 mq_MI_init := ⟨⟨kc_MI_init, kn_MI, ⟨by decide, by decide⟩, by decide +kernel, fx_m1 227 (by decide +kernel)⟩, ki_MI_init, rfl, rfl, rfl⟩
theorem sq_MI_3 : Cond.methodLink "FrameSwapper$Misses" 3 ⟨"java/lang/Object", "<init>", "()V"⟩ ∈ fx_tb := fx_m1 230 (by decide +kernel)
theorem sq_MI_17 : fx_wN "FrameSwapper$Misses" 17 0 mq_RE_init "FrameSwapper" := ⟨⟨kc_RE_init, kn_RE, ⟨by decide, by decide⟩, by decide +kernel, fx_m1 232 (by decide +kernel)⟩, ki_RE_init, rfl, rfl, rfl⟩
theorem sq_BE_3 : Cond.methodLink "FrameSwapper$Beam" 3 ⟨"java/lang/Object", "<init>", "()V"⟩ ∈ fx_tb := fx_m1 300 (by decide +kernel)
theorem sq_BE_11 : fx_wN "FrameSwapper$Beam" 11 0 mq_PN_init "FrameSwapper" := ⟨⟨kc_PN_init, kn_PN, ⟨by decide, by decide⟩, by decide +kernel, fx_m1 302 (by decide +kernel)⟩, ki_PN_init, rfl, rfl, rfl⟩
theorem sq_FS_188 : fx_wV "FrameSwapper" 188 1 mq_BE_endFrame 9 := ⟨⟨kc_BE_endFrame, kn_BE, ⟨by decide, by decide⟩, by decide +kernel, fx_m1 363 (by decide +kernel)⟩, ki_BE_endFrame, ke_BE_endFrame, _, rfl, rfl⟩
theorem sq_FS_191 : fx_wV "FrameSwapper" 191 0 mq_CO_swap 8 := ⟨⟨kc_CO_swap, kn_CO, ⟨by decide, by decide⟩, by decide +kernel, fx_m1 367 (by decide +kernel)⟩, ki_CO_swap, ke_CO_swap, _, rfl, rfl⟩
theorem sq_FS_201 : fx_wV "FrameSwapper" 201 1 mq_PN_become 7 := ⟨⟨kc_PN_become, kn_PN, ⟨by decide, by decide⟩, by decide +kernel, fx_m1 371 (by decide +kernel)⟩, ki_PN_become, ke_PN_become, _, rfl, rfl⟩
theorem sq_FS_181 : fx_wV "FrameSwapper" 181 1 mq_BE_scanRow 9 := ⟨⟨kc_BE_scanRow, kn_BE, ⟨by decide, by decide⟩, by decide +kernel, fx_m1 351 (by decide +kernel)⟩, ki_BE_scanRow, ke_BE_scanRow, _, rfl, rfl⟩
theorem sq_BE_34 : Cond.methodLink "FrameSwapper$Beam" 34 ⟨"java/lang/System", "arraycopy", "(Ljava/lang/Object;ILjava/lang/Object;II)V"⟩ ∈ fx_tb := fx_m1 355 (by decide +kernel)
theorem sq_BE_40 : fx_wV "FrameSwapper$Beam" 40 2 mq_PN_mixInto 7 := ⟨⟨kc_PN_mixInto, kn_PN, ⟨by decide, by decide⟩, by decide +kernel, fx_m1 358 (by decide +kernel)⟩, ki_PN_mixInto, ke_PN_mixInto, _, rfl, rfl⟩
theorem sq_PN_31 : Cond.methodLink "FrameSwapper$Planes" 31 ⟨"java/lang/System", "arraycopy", "(Ljava/lang/Object;ILjava/lang/Object;II)V"⟩ ∈ fx_tb := fx_m1 362 (by decide +kernel)
theorem sq_PN_27 : fx_wV "FrameSwapper$Planes" 27 1 mq_RE_become 1 := ⟨⟨kc_RE_become, kn_RE, ⟨by decide, by decide⟩, by decide +kernel, fx_m1 375 (by decide +kernel)⟩, ki_RE_become, ke_RE_become, _, rfl, rfl⟩
theorem sq_RE_22 : fx_wV "FrameSwapper$Rectangle" 22 4 mq_RE_set 1 := ⟨⟨kc_RE_set, kn_RE, ⟨by decide, by decide⟩, by decide +kernel, fx_m1 379 (by decide +kernel)⟩, ki_RE_set, ke_RE_set, _, rfl, rfl⟩
theorem sq_FS_206 : fx_wS "FrameSwapper" 206 2 mq_FS_isOnScreen := ⟨⟨kc_FS_isOnScreen, kn_FS, ⟨by decide, by decide⟩, by decide +kernel, fx_m1 391 (by decide +kernel)⟩, ks_FS_isOnScreen⟩
theorem sq_FS_48 : fx_wS "FrameSwapper" 48 3 mq_FS_isWithin := ⟨⟨kc_FS_isWithin, kn_FS, ⟨by decide, by decide⟩, by decide +kernel, fx_m1 394 (by decide +kernel)⟩, ks_FS_isWithin⟩
theorem sq_FS_217 : fx_wV "FrameSwapper" 217 2 mq_PL_colorAt 3 := ⟨⟨kc_PL_colorAt, kn_PL, ⟨by decide, by decide⟩, by decide +kernel, fx_m1 401 (by decide +kernel)⟩, ki_PL_colorAt, ke_PL_colorAt, _, rfl, rfl⟩
theorem sq_PL_44 : fx_wV "FrameSwapper$Pile" 44 2 mq_RE_has 1 := ⟨⟨kc_RE_has, kn_RE, ⟨by decide, by decide⟩, by decide +kernel, fx_m1 405 (by decide +kernel)⟩, ki_RE_has, ke_RE_has, _, rfl, rfl⟩
theorem sq_PL_50 : fx_wV "FrameSwapper$Pile" 50 2 mq_PI_colorAt 2 := ⟨⟨kc_PI_colorAt, kn_PI, ⟨by decide, by decide⟩, by decide +kernel, fx_m1 409 (by decide +kernel)⟩, ki_PI_colorAt, ke_PI_colorAt, _, rfl, rfl⟩
theorem sq_PL_57 : fx_wSN "FrameSwapper$Pile" 57 3 mq_FS_mix "FrameSwapper" := ⟨⟨kc_FS_mix, kn_FS, ⟨by decide, by decide⟩, by decide +kernel, fx_m1 413 (by decide +kernel)⟩, ks_FS_mix⟩
theorem sq_FS_258 : fx_wS "FrameSwapper" 258 3 mq_FS_mixPart := ⟨⟨kc_FS_mixPart, kn_FS, ⟨by decide, by decide⟩, by decide +kernel, fx_m1 416 (by decide +kernel)⟩, ks_FS_mixPart⟩
theorem sq_LA_7 : fx_wV "FrameSwapperLaw" 7 3 mq_FS_surface 0 := ⟨⟨kc_FS_surface, kn_FS, ⟨by decide, by decide⟩, by decide +kernel, fx_m1 440 (by decide +kernel)⟩, ki_FS_surface, ke_FS_surface, _, rfl, rfl⟩
theorem sq_FS_44 : fx_wS "FrameSwapper" 44 1 mq_FS_isClient := ⟨⟨kc_FS_isClient, kn_FS, ⟨by decide, by decide⟩, by decide +kernel, fx_m1 444 (by decide +kernel)⟩, ks_FS_isClient⟩
theorem sq_FS_52 : fx_wS "FrameSwapper" 52 1 mq_FS_demand := ⟨⟨kc_FS_demand, kn_FS, ⟨by decide, by decide⟩, by decide +kernel, fx_m1 447 (by decide +kernel)⟩, ks_FS_demand⟩
theorem sq_FS_56 : fx_wV "FrameSwapper" 56 0 mq_DE_lowestFreeNumber 4 := ⟨⟨kc_DE_lowestFreeNumber, kn_DE, ⟨by decide, by decide⟩, by decide +kernel, fx_m1 513 (by decide +kernel)⟩, ki_DE_lowestFreeNumber, ke_DE_lowestFreeNumber, _, rfl, rfl⟩
theorem sq_FS_66 : Cond.methodLink "FrameSwapper" 66 ⟨"java/lang/IllegalStateException", "<init>", "()V"⟩ ∈ fx_tb := fx_m1 526 (by decide +kernel)
theorem sq_FS_67 : fx_wV "FrameSwapper" 67 4 mq_DE_open 4 := ⟨⟨kc_DE_open, kn_DE, ⟨by decide, by decide⟩, by decide +kernel, fx_m1 532 (by decide +kernel)⟩, ki_DE_open, ke_DE_open, _, rfl, rfl⟩
theorem sq_FS_256 : Cond.methodLink "FrameSwapper" 256 ⟨"java/lang/IllegalArgumentException", "<init>", "()V"⟩ ∈ fx_tb := fx_m1 491 (by decide +kernel)
theorem sq_DE_44 : fx_wV "FrameSwapper$Desk" 44 2 mq_PI_start 2 := ⟨⟨kc_PI_start, kn_PI, ⟨by decide, by decide⟩, by decide +kernel, fx_m1 536 (by decide +kernel)⟩, ki_PI_start, ke_PI_start, _, rfl, rfl⟩
theorem sq_PI_51 : fx_wS "FrameSwapper$Picture" 51 2 mq_AR_fill := ⟨⟨kc_AR_fill, kn_AR, ⟨by decide, by decide⟩, by decide +kernel, fx_m1 540 (by decide +kernel)⟩, ks_AR_fill⟩
theorem sq_PI_57 : fx_wV "FrameSwapper$Picture" 57 4 mq_RE_set 1 := ⟨⟨kc_RE_set, kn_RE, ⟨by decide, by decide⟩, by decide +kernel, fx_m1 543 (by decide +kernel)⟩, ki_RE_set, ke_RE_set, _, rfl, rfl⟩
theorem sq_PI_61 : fx_wV "FrameSwapper$Picture" 61 0 mq_PI_findShown 2 := ⟨⟨kc_PI_findShown, kn_PI, ⟨by decide, by decide⟩, by decide +kernel, fx_m1 544 (by decide +kernel)⟩, ki_PI_findShown, ke_PI_findShown, _, rfl, rfl⟩
theorem sq_PI_70 : fx_wV "FrameSwapper$Picture" 70 1 mq_RE_become 1 := ⟨⟨kc_RE_become, kn_RE, ⟨by decide, by decide⟩, by decide +kernel, fx_m1 548 (by decide +kernel)⟩, ki_RE_become, ke_RE_become, _, rfl, rfl⟩
theorem sq_PI_74 : fx_wV "FrameSwapper$Picture" 74 2 mq_RE_shift 1 := ⟨⟨kc_RE_shift, kn_RE, ⟨by decide, by decide⟩, by decide +kernel, fx_m1 549 (by decide +kernel)⟩, ki_RE_shift, ke_RE_shift, _, rfl, rfl⟩
theorem sq_PI_78 : fx_wV "FrameSwapper$Picture" 78 2 mq_RE_cut 1 := ⟨⟨kc_RE_cut, kn_RE, ⟨by decide, by decide⟩, by decide +kernel, fx_m1 553 (by decide +kernel)⟩, ki_RE_cut, ke_RE_cut, _, rfl, rfl⟩
theorem sq_RE_26 : Cond.methodLink "FrameSwapper$Rectangle" 26 ⟨"java/lang/Math", "min", "(II)I"⟩ ∈ fx_tb := fx_m1 557 (by decide +kernel)
theorem sq_RE_32 : Cond.methodLink "FrameSwapper$Rectangle" 32 ⟨"java/lang/Math", "max", "(II)I"⟩ ∈ fx_tb := fx_m1 560 (by decide +kernel)
theorem sq_LA_17 : fx_wV "FrameSwapperLaw" 17 1 mq_FS_destroy 0 := ⟨⟨kc_FS_destroy, kn_FS, ⟨by decide, by decide⟩, by decide +kernel, fx_m1 566 (by decide +kernel)⟩, ki_FS_destroy, ke_FS_destroy, _, rfl, rfl⟩
theorem sq_FS_71 : fx_wV "FrameSwapper" 71 1 mq_DE_hasDraft 4 := ⟨⟨kc_DE_hasDraft, kn_DE, ⟨by decide, by decide⟩, by decide +kernel, fx_m1 570 (by decide +kernel)⟩, ki_DE_hasDraft, ke_DE_hasDraft, _, rfl, rfl⟩
theorem sq_FS_78 : fx_wV "FrameSwapper" 78 0 mq_PI_remove 2 := ⟨⟨kc_PI_remove, kn_PI, ⟨by decide, by decide⟩, by decide +kernel, fx_m1 574 (by decide +kernel)⟩, ki_PI_remove, ke_PI_remove, _, rfl, rfl⟩
theorem sq_LA_21 : fx_wV "FrameSwapperLaw" 21 6 mq_FS_place 0 := ⟨⟨kc_FS_place, kn_FS, ⟨by decide, by decide⟩, by decide +kernel, fx_m1 581 (by decide +kernel)⟩, ki_FS_place, ke_FS_place, _, rfl, rfl⟩
theorem sq_FS_100 : fx_wV "FrameSwapper" 100 0 mq_PI_findShown 2 := ⟨⟨kc_PI_findShown, kn_PI, ⟨by decide, by decide⟩, by decide +kernel, fx_m1 588 (by decide +kernel)⟩, ki_PI_findShown, ke_PI_findShown, _, rfl, rfl⟩
theorem sq_FS_81 : fx_wS "FrameSwapper" 81 1 mq_FS_isPlace := ⟨⟨kc_FS_isPlace, kn_FS, ⟨by decide, by decide⟩, by decide +kernel, fx_m1 585 (by decide +kernel)⟩, ks_FS_isPlace⟩
theorem sq_LA_25 : fx_wV "FrameSwapperLaw" 25 5 mq_FS_clip 0 := ⟨⟨kc_FS_clip, kn_FS, ⟨by decide, by decide⟩, by decide +kernel, fx_m1 592 (by decide +kernel)⟩, ki_FS_clip, ke_FS_clip, _, rfl, rfl⟩
theorem sq_FS_110 : fx_wV "FrameSwapper" 110 4 mq_RE_set 1 := ⟨⟨kc_RE_set, kn_RE, ⟨by decide, by decide⟩, by decide +kernel, fx_m1 599 (by decide +kernel)⟩, ki_RE_set, ke_RE_set, _, rfl, rfl⟩
theorem sq_FS_119 : fx_wV "FrameSwapper" 119 2 mq_RE_cut 1 := ⟨⟨kc_RE_cut, kn_RE, ⟨by decide, by decide⟩, by decide +kernel, fx_m1 600 (by decide +kernel)⟩, ki_RE_cut, ke_RE_cut, _, rfl, rfl⟩
theorem sq_FS_103 : fx_wS "FrameSwapper" 103 4 mq_FS_isArea := ⟨⟨kc_FS_isArea, kn_FS, ⟨by decide, by decide⟩, by decide +kernel, fx_m1 596 (by decide +kernel)⟩, ks_FS_isArea⟩
theorem sq_LA_29 : fx_wV "FrameSwapperLaw" 29 4 mq_FS_put 0 := ⟨⟨kc_FS_put, kn_FS, ⟨by decide, by decide⟩, by decide +kernel, fx_m1 605 (by decide +kernel)⟩, ki_FS_put, ke_FS_put, _, rfl, rfl⟩
theorem sq_FS_128 : Cond.methodLink "FrameSwapper" 128 ⟨"java/lang/IndexOutOfBoundsException", "<init>", "()V"⟩ ∈ fx_tb := fx_m1 622 (by decide +kernel)
theorem sq_FS_123 : fx_wS "FrameSwapper" 123 1 mq_FS_isColor := ⟨⟨kc_FS_isColor, kn_FS, ⟨by decide, by decide⟩, by decide +kernel, fx_m1 609 (by decide +kernel)⟩, ks_FS_isColor⟩
theorem sq_LA_35 : fx_wV "FrameSwapperLaw" 35 6 mq_FS_fill 0 := ⟨⟨kc_FS_fill, kn_FS, ⟨by decide, by decide⟩, by decide +kernel, fx_m1 631 (by decide +kernel)⟩, ki_FS_fill, ke_FS_fill, _, rfl, rfl⟩
theorem sq_FS_133 : fx_wV "FrameSwapper" 133 2 mq_PI_paintOver 2 := ⟨⟨kc_PI_paintOver, kn_PI, ⟨by decide, by decide⟩, by decide +kernel, fx_m1 635 (by decide +kernel)⟩, ki_PI_paintOver, ke_PI_paintOver, _, rfl, rfl⟩
theorem sq_FS_137 : fx_wV "FrameSwapper" 137 0 mq_RE_pixels 1 := ⟨⟨kc_RE_pixels, kn_RE, ⟨by decide, by decide⟩, by decide +kernel, fx_m1 639 (by decide +kernel)⟩, ki_RE_pixels, ke_RE_pixels, _, rfl, rfl⟩
theorem sq_LA_39 : fx_wV "FrameSwapperLaw" 39 8 mq_FS_copy 0 := ⟨⟨kc_FS_copy, kn_FS, ⟨by decide, by decide⟩, by decide +kernel, fx_m1 646 (by decide +kernel)⟩, ki_FS_copy, ke_FS_copy, _, rfl, rfl⟩
theorem sq_FS_142 : fx_wV "FrameSwapper" 142 2 mq_RE_shift 1 := ⟨⟨kc_RE_shift, kn_RE, ⟨by decide, by decide⟩, by decide +kernel, fx_m1 650 (by decide +kernel)⟩, ki_RE_shift, ke_RE_shift, _, rfl, rfl⟩
theorem sq_FS_145 : fx_wV "FrameSwapper" 145 1 mq_PI_become 2 := ⟨⟨kc_PI_become, kn_PI, ⟨by decide, by decide⟩, by decide +kernel, fx_m1 651 (by decide +kernel)⟩, ki_PI_become, ke_PI_become, _, rfl, rfl⟩
theorem sq_FS_149 : fx_wV "FrameSwapper" 149 2 mq_PI_layDown 2 := ⟨⟨kc_PI_layDown, kn_PI, ⟨by decide, by decide⟩, by decide +kernel, fx_m1 656 (by decide +kernel)⟩, ki_PI_layDown, ke_PI_layDown, _, rfl, rfl⟩
theorem sq_PI_64 : Cond.methodLink "FrameSwapper$Picture" 64 ⟨"java/lang/System", "arraycopy", "(Ljava/lang/Object;ILjava/lang/Object;II)V"⟩ ∈ fx_tb := fx_m1 655 (by decide +kernel)
theorem sq_PI_85 : fx_wV "FrameSwapper$Picture" 85 2 mq_PI_colorAt 2 := ⟨⟨kc_PI_colorAt, kn_PI, ⟨by decide, by decide⟩, by decide +kernel, fx_m1 660 (by decide +kernel)⟩, ki_PI_colorAt, ke_PI_colorAt, _, rfl, rfl⟩
theorem sq_LA_43 : fx_wV "FrameSwapperLaw" 43 1 mq_FS_commit 0 := ⟨⟨kc_FS_commit, kn_FS, ⟨by decide, by decide⟩, by decide +kernel, fx_m1 664 (by decide +kernel)⟩, ki_FS_commit, ke_FS_commit, _, rfl, rfl⟩
theorem sq_FS_159 : fx_wV "FrameSwapper" 159 1 mq_DE_commitAll 4 := ⟨⟨kc_DE_commitAll, kn_DE, ⟨by decide, by decide⟩, by decide +kernel, fx_m1 668 (by decide +kernel)⟩, ki_DE_commitAll, ke_DE_commitAll, _, rfl, rfl⟩
theorem sq_DE_55 : fx_wV "FrameSwapper$Desk" 55 0 mq_PL_sort 3 := ⟨⟨kc_PL_sort, kn_PL, ⟨by decide, by decide⟩, by decide +kernel, fx_m1 673 (by decide +kernel)⟩, ki_PL_sort, ke_PL_sort, _, rfl, rfl⟩
theorem sq_DE_51 : fx_wV "FrameSwapper$Desk" 51 1 mq_PI_become 2 := ⟨⟨kc_PI_become, kn_PI, ⟨by decide, by decide⟩, by decide +kernel, fx_m1 672 (by decide +kernel)⟩, ki_PI_become, ke_PI_become, _, rfl, rfl⟩
theorem sq_LA_47 : fx_wV "FrameSwapperLaw" 47 1 mq_FS_draw 0 := ⟨⟨kc_FS_draw, kn_FS, ⟨by decide, by decide⟩, by decide +kernel, fx_m1 680 (by decide +kernel)⟩, ki_FS_draw, ke_FS_draw, _, rfl, rfl⟩
theorem sq_FS_170 : fx_wV "FrameSwapper" 170 1 mq_CO_makeSteps 8 := ⟨⟨kc_CO_makeSteps, kn_CO, ⟨by decide, by decide⟩, by decide +kernel, fx_m1 772 (by decide +kernel)⟩, ki_CO_makeSteps, ke_CO_makeSteps, _, rfl, rfl⟩
theorem sq_FS_166 : fx_wV "FrameSwapper" 166 1 mq_CO_begin 8 := ⟨⟨kc_CO_begin, kn_CO, ⟨by decide, by decide⟩, by decide +kernel, fx_m1 684 (by decide +kernel)⟩, ki_CO_begin, ke_CO_begin, _, rfl, rfl⟩
theorem sq_CO_50 : fx_wV "FrameSwapper$Composer" 50 0 mq_CO_rememberBefore 8 := ⟨⟨kc_CO_rememberBefore, kn_CO, ⟨by decide, by decide⟩, by decide +kernel, fx_m1 688 (by decide +kernel)⟩, ki_CO_rememberBefore, ke_CO_rememberBefore, _, rfl, rfl⟩
theorem sq_CO_58 : fx_wV "FrameSwapper$Composer" 58 1 mq_PL_become 3 := ⟨⟨kc_PL_become, kn_PL, ⟨by decide, by decide⟩, by decide +kernel, fx_m1 697 (by decide +kernel)⟩, ki_PL_become, ke_PL_become, _, rfl, rfl⟩
theorem sq_CO_68 : fx_wV "FrameSwapper$Composer" 68 1 mq_PN_choose 7 := ⟨⟨kc_PN_choose, kn_PN, ⟨by decide, by decide⟩, by decide +kernel, fx_m1 703 (by decide +kernel)⟩, ki_PN_choose, ke_PN_choose, _, rfl, rfl⟩
theorem sq_CO_71 : fx_wV "FrameSwapper$Composer" 71 1 mq_CO_noteChanges 8 := ⟨⟨kc_CO_noteChanges, kn_CO, ⟨by decide, by decide⟩, by decide +kernel, fx_m1 726 (by decide +kernel)⟩, ki_CO_noteChanges, ke_CO_noteChanges, _, rfl, rfl⟩
theorem sq_CO_75 : fx_wV "FrameSwapper$Composer" 75 0 mq_DE_allTaken 4 := ⟨⟨kc_DE_allTaken, kn_DE, ⟨by decide, by decide⟩, by decide +kernel, fx_m1 764 (by decide +kernel)⟩, ki_DE_allTaken, ke_DE_allTaken, _, rfl, rfl⟩
theorem sq_CO_78 : fx_wV "FrameSwapper$Composer" 78 1 mq_CO_startHole 8 := ⟨⟨kc_CO_startHole, kn_CO, ⟨by decide, by decide⟩, by decide +kernel, fx_m1 768 (by decide +kernel)⟩, ki_CO_startHole, ke_CO_startHole, _, rfl, rfl⟩
theorem sq_CO_82 : fx_wV "FrameSwapper$Composer" 82 1 mq_PN_has 7 := ⟨⟨kc_PN_has, kn_PN, ⟨by decide, by decide⟩, by decide +kernel, fx_m1 692 (by decide +kernel)⟩, ki_PN_has, ke_PN_has, _, rfl, rfl⟩
theorem sq_CO_96 : fx_wV "FrameSwapper$Composer" 96 1 mq_RE_become 1 := ⟨⟨kc_RE_become, kn_RE, ⟨by decide, by decide⟩, by decide +kernel, fx_m1 696 (by decide +kernel)⟩, ki_RE_become, ke_RE_become, _, rfl, rfl⟩
theorem sq_PL_37 : fx_wV "FrameSwapper$Pile" 37 0 mq_PL_sort 3 := ⟨⟨kc_PL_sort, kn_PL, ⟨by decide, by decide⟩, by decide +kernel, fx_m1 702 (by decide +kernel)⟩, ki_PL_sort, ke_PL_sort, _, rfl, rfl⟩
theorem sq_PL_33 : fx_wV "FrameSwapper$Pile" 33 1 mq_PI_become 2 := ⟨⟨kc_PI_become, kn_PI, ⟨by decide, by decide⟩, by decide +kernel, fx_m1 701 (by decide +kernel)⟩, ki_PI_become, ke_PI_become, _, rfl, rfl⟩
theorem sq_PN_37 : fx_wS "FrameSwapper$Planes" 37 2 mq_AR_fill := ⟨⟨kc_AR_fill, kn_AR, ⟨by decide, by decide⟩, by decide +kernel, fx_m1 707 (by decide +kernel)⟩, ks_AR_fill⟩
theorem sq_PN_49 : fx_wV "FrameSwapper$Planes" 49 2 mq_PN_isFit 7 := ⟨⟨kc_PN_isFit, kn_PN, ⟨by decide, by decide⟩, by decide +kernel, fx_m1 708 (by decide +kernel)⟩, ki_PN_isFit, ke_PN_isFit, _, rfl, rfl⟩
theorem sq_PN_60 : fx_wV "FrameSwapper$Planes" 60 3 mq_PN_give 7 := ⟨⟨kc_PN_give, kn_PN, ⟨by decide, by decide⟩, by decide +kernel, fx_m1 721 (by decide +kernel)⟩, ki_PN_give, ke_PN_give, _, rfl, rfl⟩
theorem sq_PN_72 : fx_wV "FrameSwapper$Planes" 72 0 mq_RE_isEmpty 1 := ⟨⟨kc_RE_isEmpty, kn_RE, ⟨by decide, by decide⟩, by decide +kernel, fx_m1 712 (by decide +kernel)⟩, ki_RE_isEmpty, ke_RE_isEmpty, _, rfl, rfl⟩
theorem sq_PN_76 : fx_wV "FrameSwapper$Planes" 76 0 mq_RE_pixels 1 := ⟨⟨kc_RE_pixels, kn_RE, ⟨by decide, by decide⟩, by decide +kernel, fx_m1 716 (by decide +kernel)⟩, ki_RE_pixels, ke_RE_pixels, _, rfl, rfl⟩
theorem sq_PN_80 : fx_wV "FrameSwapper$Planes" 80 1 mq_RE_meets 1 := ⟨⟨kc_RE_meets, kn_RE, ⟨by decide, by decide⟩, by decide +kernel, fx_m1 717 (by decide +kernel)⟩, ki_RE_meets, ke_RE_meets, _, rfl, rfl⟩
theorem sq_PN_96 : fx_wV "FrameSwapper$Planes" 96 2 mq_PI_colorAt 2 := ⟨⟨kc_PI_colorAt, kn_PI, ⟨by decide, by decide⟩, by decide +kernel, fx_m1 725 (by decide +kernel)⟩, ki_PI_colorAt, ke_PI_colorAt, _, rfl, rfl⟩
theorem sq_CO_99 : fx_wV "FrameSwapper$Composer" 99 1 mq_DE_isWaiting 4 := ⟨⟨kc_DE_isWaiting, kn_DE, ⟨by decide, by decide⟩, by decide +kernel, fx_m1 730 (by decide +kernel)⟩, ki_DE_isWaiting, ke_DE_isWaiting, _, rfl, rfl⟩
theorem sq_CO_106 : fx_wV "FrameSwapper$Composer" 106 1 mq_MI_add 5 := ⟨⟨kc_MI_add, kn_MI, ⟨by decide, by decide⟩, by decide +kernel, fx_m1 734 (by decide +kernel)⟩, ki_MI_add, ke_MI_add, _, rfl, rfl⟩
theorem sq_MI_18 : fx_wV "FrameSwapper$Misses" 18 0 mq_RE_isEmpty 1 := ⟨⟨kc_RE_isEmpty, kn_RE, ⟨by decide, by decide⟩, by decide +kernel, fx_m1 738 (by decide +kernel)⟩, ki_RE_isEmpty, ke_RE_isEmpty, _, rfl, rfl⟩
theorem sq_MI_22 : fx_wV "FrameSwapper$Misses" 22 1 mq_MI_isCovered 5 := ⟨⟨kc_MI_isCovered, kn_MI, ⟨by decide, by decide⟩, by decide +kernel, fx_m1 739 (by decide +kernel)⟩, ki_MI_isCovered, ke_MI_isCovered, _, rfl, rfl⟩
theorem sq_MI_30 : fx_wV "FrameSwapper$Misses" 30 1 mq_RE_become 1 := ⟨⟨kc_RE_become, kn_RE, ⟨by decide, by decide⟩, by decide +kernel, fx_m1 747 (by decide +kernel)⟩, ki_RE_become, ke_RE_become, _, rfl, rfl⟩
theorem sq_MI_34 : fx_wV "FrameSwapper$Misses" 34 0 mq_MI_joinNearest 5 := ⟨⟨kc_MI_joinNearest, kn_MI, ⟨by decide, by decide⟩, by decide +kernel, fx_m1 748 (by decide +kernel)⟩, ki_MI_joinNearest, ke_MI_joinNearest, _, rfl, rfl⟩
theorem sq_MI_37 : fx_wV "FrameSwapper$Misses" 37 1 mq_RE_contains 1 := ⟨⟨kc_RE_contains, kn_RE, ⟨by decide, by decide⟩, by decide +kernel, fx_m1 743 (by decide +kernel)⟩, ki_RE_contains, ke_RE_contains, _, rfl, rfl⟩
theorem sq_MI_40 : fx_wV "FrameSwapper$Misses" 40 1 mq_RE_wasteWith 1 := ⟨⟨kc_RE_wasteWith, kn_RE, ⟨by decide, by decide⟩, by decide +kernel, fx_m1 752 (by decide +kernel)⟩, ki_RE_wasteWith, ke_RE_wasteWith, _, rfl, rfl⟩
theorem sq_MI_44 : fx_wV "FrameSwapper$Misses" 44 1 mq_RE_growOver 1 := ⟨⟨kc_RE_growOver, kn_RE, ⟨by decide, by decide⟩, by decide +kernel, fx_m1 756 (by decide +kernel)⟩, ki_RE_growOver, ke_RE_growOver, _, rfl, rfl⟩
theorem sq_MI_47 : fx_wV "FrameSwapper$Misses" 47 1 mq_MI_dropAt 5 := ⟨⟨kc_MI_dropAt, kn_MI, ⟨by decide, by decide⟩, by decide +kernel, fx_m1 760 (by decide +kernel)⟩, ki_MI_dropAt, ke_MI_dropAt, _, rfl, rfl⟩
theorem sq_CO_120 : fx_wV "FrameSwapper$Composer" 120 0 mq_CO_makeStep 8 := ⟨⟨kc_CO_makeStep, kn_CO, ⟨by decide, by decide⟩, by decide +kernel, fx_m1 776 (by decide +kernel)⟩, ki_CO_makeStep, ke_CO_makeStep, _, rfl, rfl⟩
theorem sq_CO_133 : fx_wV "FrameSwapper$Composer" 133 2 mq_ME_paint 6 := ⟨⟨kc_ME_paint, kn_ME, ⟨by decide, by decide⟩, by decide +kernel, fx_m1 784 (by decide +kernel)⟩, ki_ME_paint, ke_ME_paint, _, rfl, rfl⟩
theorem sq_CO_137 : fx_wV "FrameSwapper$Composer" 137 1 mq_CO_nextLevel 8 := ⟨⟨kc_CO_nextLevel, kn_CO, ⟨by decide, by decide⟩, by decide +kernel, fx_m1 791 (by decide +kernel)⟩, ki_CO_nextLevel, ke_CO_nextLevel, _, rfl, rfl⟩
theorem sq_CO_126 : fx_wV "FrameSwapper$Composer" 126 1 mq_ME_blacken 6 := ⟨⟨kc_ME_blacken, kn_ME, ⟨by decide, by decide⟩, by decide +kernel, fx_m1 780 (by decide +kernel)⟩, ki_ME_blacken, ke_ME_blacken, _, rfl, rfl⟩
theorem sq_ME_43 : fx_wV "FrameSwapper$Memory" 43 2 mq_RE_has 1 := ⟨⟨kc_RE_has, kn_RE, ⟨by decide, by decide⟩, by decide +kernel, fx_m1 788 (by decide +kernel)⟩, ki_RE_has, ke_RE_has, _, rfl, rfl⟩
theorem sq_ME_47 : fx_wV "FrameSwapper$Memory" 47 2 mq_PI_colorAt 2 := ⟨⟨kc_PI_colorAt, kn_PI, ⟨by decide, by decide⟩, by decide +kernel, fx_m1 789 (by decide +kernel)⟩, ki_PI_colorAt, ke_PI_colorAt, _, rfl, rfl⟩
theorem sq_ME_54 : fx_wSN "FrameSwapper$Memory" 54 3 mq_FS_mix "FrameSwapper" := ⟨⟨kc_FS_mix, kn_FS, ⟨by decide, by decide⟩, by decide +kernel, fx_m1 790 (by decide +kernel)⟩, ks_FS_mix⟩
theorem sq_CO_144 : fx_wV "FrameSwapper$Composer" 144 1 mq_RE_meets 1 := ⟨⟨kc_RE_meets, kn_RE, ⟨by decide, by decide⟩, by decide +kernel, fx_m1 795 (by decide +kernel)⟩, ki_RE_meets, ke_RE_meets, _, rfl, rfl⟩
theorem sq_MO_1 : Cond.methodLink "FrameSwapperModel" 1 ⟨"java/lang/Object", "<init>", "()V"⟩ ∈ fx_tb := fx_m1 801 (by decide +kernel)
theorem sq_MO_129 : fx_wS "FrameSwapperModel" 129 3 mq_MO_within := ⟨⟨kc_MO_within, kn_MO, ⟨by decide, by decide⟩, by decide +kernel, fx_m1 967 (by decide +kernel)⟩, ks_MO_within⟩
theorem sq_MO_133 : fx_wV "FrameSwapperModel" 133 0 mq_MO_freePixels 10 := ⟨⟨kc_MO_freePixels, kn_MO, ⟨by decide, by decide⟩, by decide +kernel, fx_m1 970 (by decide +kernel)⟩, ki_MO_freePixels, ke_MO_freePixels, _, rfl, rfl⟩
theorem sq_MO_137 : fx_wV "FrameSwapperModel" 137 1 mq_MO_hasDraft 10 := ⟨⟨kc_MO_hasDraft, kn_MO, ⟨by decide, by decide⟩, by decide +kernel, fx_m1 978 (by decide +kernel)⟩, ki_MO_hasDraft, ke_MO_hasDraft, _, rfl, rfl⟩
theorem sq_MO_153 : fx_wS "FrameSwapperModel" 153 4 mq_MO_isArea := ⟨⟨kc_MO_isArea, kn_MO, ⟨by decide, by decide⟩, by decide +kernel, fx_m1 990 (by decide +kernel)⟩, ks_MO_isArea⟩
theorem sq_MO_158 : fx_wV "FrameSwapperModel" 158 3 mq_MO_has 10 := ⟨⟨kc_MO_has, kn_MO, ⟨by decide, by decide⟩, by decide +kernel, fx_m1 998 (by decide +kernel)⟩, ki_MO_has, ke_MO_has, _, rfl, rfl⟩
theorem sq_MO_161 : fx_wV "FrameSwapperModel" 161 4 mq_MO_isCopy 10 := ⟨⟨kc_MO_isCopy, kn_MO, ⟨by decide, by decide⟩, by decide +kernel, fx_m1 1010 (by decide +kernel)⟩, ki_MO_isCopy, ke_MO_isCopy, _, rfl, rfl⟩
theorem sq_MO_170 : fx_wV "FrameSwapperModel" 170 2 mq_MO_copyPicture 10 := ⟨⟨kc_MO_copyPicture, kn_MO, ⟨by decide, by decide⟩, by decide +kernel, fx_m1 1018 (by decide +kernel)⟩, ki_MO_copyPicture, ke_MO_copyPicture, _, rfl, rfl⟩
theorem sq_MO_244 : fx_wV "FrameSwapperModel" 244 0 mq_MO_make 10 := ⟨⟨kc_MO_make, kn_MO, ⟨by decide, by decide⟩, by decide +kernel, fx_m1 1083 (by decide +kernel)⟩, ki_MO_make, ke_MO_make, _, rfl, rfl⟩
theorem sq_MO_241 : fx_wV "FrameSwapperModel" 241 0 mq_MO_begin 10 := ⟨⟨kc_MO_begin, kn_MO, ⟨by decide, by decide⟩, by decide +kernel, fx_m1 1026 (by decide +kernel)⟩, ki_MO_begin, ke_MO_begin, _, rfl, rfl⟩
theorem sq_MO_238 : fx_wV "FrameSwapperModel" 238 0 mq_MO_findStep 10 := ⟨⟨kc_MO_findStep, kn_MO, ⟨by decide, by decide⟩, by decide +kernel, fx_m1 1075 (by decide +kernel)⟩, ki_MO_findStep, ke_MO_findStep, _, rfl, rfl⟩
theorem sq_MO_210 : fx_wV "FrameSwapperModel" 210 0 mq_MO_choosePlanes 10 := ⟨⟨kc_MO_choosePlanes, kn_MO, ⟨by decide, by decide⟩, by decide +kernel, fx_m1 1042 (by decide +kernel)⟩, ki_MO_choosePlanes, ke_MO_choosePlanes, _, rfl, rfl⟩
theorem sq_MO_207 : fx_wV "FrameSwapperModel" 207 1 mq_MO_isPlane 10 := ⟨⟨kc_MO_isPlane, kn_MO, ⟨by decide, by decide⟩, by decide +kernel, fx_m1 1038 (by decide +kernel)⟩, ki_MO_isPlane, ke_MO_isPlane, _, rfl, rfl⟩
theorem sq_MO_213 : fx_wV "FrameSwapperModel" 213 0 mq_MO_miss 10 := ⟨⟨kc_MO_miss, kn_MO, ⟨by decide, by decide⟩, by decide +kernel, fx_m1 1054 (by decide +kernel)⟩, ki_MO_miss, ke_MO_miss, _, rfl, rfl⟩
theorem sq_MO_204 : fx_wV "FrameSwapperModel" 204 1 mq_MO_show 10 := ⟨⟨kc_MO_show, kn_MO, ⟨by decide, by decide⟩, by decide +kernel, fx_m1 1030 (by decide +kernel)⟩, ki_MO_show, ke_MO_show, _, rfl, rfl⟩
theorem sq_MO_174 : fx_wV "FrameSwapperModel" 174 4 mq_MO_cut 10 := ⟨⟨kc_MO_cut, kn_MO, ⟨by decide, by decide⟩, by decide +kernel, fx_m1 1034 (by decide +kernel)⟩, ki_MO_cut, ke_MO_cut, _, rfl, rfl⟩
theorem sq_MO_201 : fx_wV "FrameSwapperModel" 201 2 mq_MO_nth 10 := ⟨⟨kc_MO_nth, kn_MO, ⟨by decide, by decide⟩, by decide +kernel, fx_m1 1046 (by decide +kernel)⟩, ki_MO_nth, ke_MO_nth, _, rfl, rfl⟩
theorem sq_MO_178 : fx_wV "FrameSwapperModel" 178 2 mq_MO_isAbove 10 := ⟨⟨kc_MO_isAbove, kn_MO, ⟨by decide, by decide⟩, by decide +kernel, fx_m1 1050 (by decide +kernel)⟩, ki_MO_isAbove, ke_MO_isAbove, _, rfl, rfl⟩
theorem sq_MO_197 : fx_wV "FrameSwapperModel" 197 1 mq_MO_join 10 := ⟨⟨kc_MO_join, kn_MO, ⟨by decide, by decide⟩, by decide +kernel, fx_m1 1062 (by decide +kernel)⟩, ki_MO_join, ke_MO_join, _, rfl, rfl⟩
theorem sq_MO_194 : fx_wV "FrameSwapperModel" 194 2 mq_MO_lies 10 := ⟨⟨kc_MO_lies, kn_MO, ⟨by decide, by decide⟩, by decide +kernel, fx_m1 1058 (by decide +kernel)⟩, ki_MO_lies, ke_MO_lies, _, rfl, rfl⟩
theorem sq_MO_187 : fx_wV "FrameSwapperModel" 187 2 mq_MO_hullWide 10 := ⟨⟨kc_MO_hullWide, kn_MO, ⟨by decide, by decide⟩, by decide +kernel, fx_m1 1067 (by decide +kernel)⟩, ki_MO_hullWide, ke_MO_hullWide, _, rfl, rfl⟩
theorem sq_MO_191 : fx_wV "FrameSwapperModel" 191 2 mq_MO_hullHigh 10 := ⟨⟨kc_MO_hullHigh, kn_MO, ⟨by decide, by decide⟩, by decide +kernel, fx_m1 1071 (by decide +kernel)⟩, ki_MO_hullHigh, ke_MO_hullHigh, _, rfl, rfl⟩
theorem sq_MO_232 : fx_wV "FrameSwapperModel" 232 1 mq_MO_meet 10 := ⟨⟨kc_MO_meet, kn_MO, ⟨by decide, by decide⟩, by decide +kernel, fx_m1 1079 (by decide +kernel)⟩, ki_MO_meet, ke_MO_meet, _, rfl, rfl⟩
theorem sq_MO_235 : fx_wV "FrameSwapperModel" 235 1 mq_MO_paint 10 := ⟨⟨kc_MO_paint, kn_MO, ⟨by decide, by decide⟩, by decide +kernel, fx_m1 1087 (by decide +kernel)⟩, ki_MO_paint, ke_MO_paint, _, rfl, rfl⟩
theorem sq_MO_225 : fx_wV "FrameSwapperModel" 225 3 mq_MO_pixelOf 10 := ⟨⟨kc_MO_pixelOf, kn_MO, ⟨by decide, by decide⟩, by decide +kernel, fx_m1 1091 (by decide +kernel)⟩, ki_MO_pixelOf, ke_MO_pixelOf, _, rfl, rfl⟩
theorem sq_MO_229 : fx_wS "FrameSwapperModel" 229 3 mq_MO_mixed := ⟨⟨kc_MO_mixed, kn_MO, ⟨by decide, by decide⟩, by decide +kernel, fx_m1 1095 (by decide +kernel)⟩, ks_MO_mixed⟩
theorem sq_MO_182 : fx_wS "FrameSwapperModel" 182 5 mq_MO_part := ⟨⟨kc_MO_part, kn_MO, ⟨by decide, by decide⟩, by decide +kernel, fx_m1 1098 (by decide +kernel)⟩, ks_MO_part⟩
theorem sq_MO_259 : fx_wV "FrameSwapperModel" 259 0 mq_MO_look 10 := ⟨⟨kc_MO_look, kn_MO, ⟨by decide, by decide⟩, by decide +kernel, fx_m1 1105 (by decide +kernel)⟩, ki_MO_look, ke_MO_look, _, rfl, rfl⟩
theorem sq_MO_262 : fx_wV "FrameSwapperModel" 262 0 mq_MO_change 10 := ⟨⟨kc_MO_change, kn_MO, ⟨by decide, by decide⟩, by decide +kernel, fx_m1 1109 (by decide +kernel)⟩, ki_MO_change, ke_MO_change, _, rfl, rfl⟩
theorem sq_MO_265 : fx_wS "FrameSwapperModel" 265 2 mq_MO_isPixel := ⟨⟨kc_MO_isPixel, kn_MO, ⟨by decide, by decide⟩, by decide +kernel, fx_m1 1121 (by decide +kernel)⟩, ks_MO_isPixel⟩
set_option maxRecDepth 20000 in
theorem lq_FS : ∀ w ∈ u_ws Rq_FS Tq_FS 5, w ∈ fx_tb := fx_mU [336, 338, 340, 342, 344] (by decide +kernel)
set_option maxRecDepth 20000 in
theorem lq_RE : ∀ w ∈ u_ws Rq_RE Tq_RE 4, w ∈ fx_tb := fx_mU [75, 77, 79, 81] (by decide +kernel)
set_option maxRecDepth 20000 in
theorem lq_PI : ∀ w ∈ u_ws Rq_PI Tq_PI 11, w ∈ fx_tb := fx_mU [117, 119, 121, 123, 125, 127, 129, 131, 133, 135, 137] (by decide +kernel)
set_option maxRecDepth 20000 in
theorem lq_PL : ∀ w ∈ u_ws Rq_PL Tq_PL 3, w ∈ fx_tb := fx_mU [150, 152, 154] (by decide +kernel)
set_option maxRecDepth 20000 in
theorem lq_DE : ∀ w ∈ u_ws Rq_DE Tq_DE 7, w ∈ fx_tb := fx_mU [172, 174, 176, 178, 180, 182, 184] (by decide +kernel)
set_option maxRecDepth 20000 in
theorem lq_MI : ∀ w ∈ u_ws Rq_MI Tq_MI 2, w ∈ fx_tb := fx_mU [239, 241] (by decide +kernel)
set_option maxRecDepth 20000 in
theorem lq_ME : ∀ w ∈ u_ws Rq_ME Tq_ME 2, w ∈ fx_tb := fx_mU [249, 251] (by decide +kernel)
set_option maxRecDepth 20000 in
theorem lq_PN : ∀ w ∈ u_ws Rq_PN Tq_PN 3, w ∈ fx_tb := fx_mU [211, 213, 215] (by decide +kernel)
set_option maxRecDepth 20000 in
theorem lq_CO : ∀ w ∈ u_ws Rq_CO Tq_CO 11, w ∈ fx_tb := fx_mU [272, 274, 276, 278, 280, 282, 284, 286, 288, 290, 292] (by decide +kernel)
set_option maxRecDepth 20000 in
theorem lq_BE : ∀ w ∈ u_ws Rq_BE Tq_BE 6, w ∈ fx_tb := fx_mU [314, 316, 318, 320, 322, 324] (by decide +kernel)
set_option maxRecDepth 20000 in
theorem lq_MO : ∀ w ∈ u_ws Rq_MO Tq_MO 52, w ∈ fx_tb := fx_mU [854, 856, 858, 860, 862, 864, 866, 868, 870, 872, 874, 876, 878, 880, 882, 884, 886, 888, 890, 892, 894, 896, 898, 900, 902, 904, 906, 908, 910, 912, 914, 916, 918, 920, 922, 924, 926, 928, 930, 932, 934, 936, 938, 940, 942, 944, 946, 948, 950, 952, 954, 956] (by decide +kernel)
theorem fp_RE_7 : fx_fw "FrameSwapper$Rectangle" 7 1 0 false := ⟨Rq_RE, Tq_RE, 4, tq_RE, rfl, lq_RE, by decide, fx_m1 55 (by decide +kernel), tq_RE_ok, nq_RE, rfl, fun _ => rfl, by decide, by decide, by decide, by decide⟩
theorem fq_RE_7 : fx_fg "FrameSwapper$Rectangle" 7 1 0 := fx_fg_of fp_RE_7
theorem fp_ME_31 : fx_fw "FrameSwapper$Memory" 31 1 0 false := ⟨Rq_RE, Tq_RE, 4, tq_RE, rfl, lq_RE, by decide, fx_m1 56 (by decide +kernel), tq_RE_ok, nq_RE, rfl, (by decide), by decide, by decide, by decide, by decide⟩
theorem fq_ME_31 : fx_fg "FrameSwapper$Memory" 31 1 0 := fx_fg_of fp_ME_31
theorem fp_PN_90 : fx_fw "FrameSwapper$Planes" 90 1 0 false := ⟨Rq_RE, Tq_RE, 4, tq_RE, rfl, lq_RE, by decide, fx_m1 57 (by decide +kernel), tq_RE_ok, nq_RE, rfl, (by decide), by decide, by decide, by decide, by decide⟩
theorem fq_PN_90 : fx_fg "FrameSwapper$Planes" 90 1 0 := fx_fg_of fp_PN_90
theorem fp_PI_83 : fx_fw "FrameSwapper$Picture" 83 1 0 false := ⟨Rq_RE, Tq_RE, 4, tq_RE, rfl, lq_RE, by decide, fx_m1 58 (by decide +kernel), tq_RE_ok, nq_RE, rfl, (by decide), by decide, by decide, by decide, by decide⟩
theorem fq_PI_83 : fx_fg "FrameSwapper$Picture" 83 1 0 := fx_fg_of fp_PI_83
theorem fp_FS_247 : fx_fw "FrameSwapper" 247 1 0 false := ⟨Rq_RE, Tq_RE, 4, tq_RE, rfl, lq_RE, by decide, fx_m1 59 (by decide +kernel), tq_RE_ok, nq_RE, rfl, (by decide), by decide, by decide, by decide, by decide⟩
theorem fq_FS_247 : fx_fg "FrameSwapper" 247 1 0 := fx_fg_of fp_FS_247
theorem fp_ME_22 : fx_fw "FrameSwapper$Memory" 22 1 1 false := ⟨Rq_RE, Tq_RE, 4, tq_RE, rfl, lq_RE, by decide, fx_m1 60 (by decide +kernel), tq_RE_ok, nq_RE, rfl, (by decide), by decide, by decide, by decide, by decide⟩
theorem fq_ME_22 : fx_fg "FrameSwapper$Memory" 22 1 1 := fx_fg_of fp_ME_22
theorem fp_RE_13 : fx_fw "FrameSwapper$Rectangle" 13 1 1 false := ⟨Rq_RE, Tq_RE, 4, tq_RE, rfl, lq_RE, by decide, fx_m1 61 (by decide +kernel), tq_RE_ok, nq_RE, rfl, fun _ => rfl, by decide, by decide, by decide, by decide⟩
theorem fq_RE_13 : fx_fg "FrameSwapper$Rectangle" 13 1 1 := fx_fg_of fp_RE_13
theorem fp_PN_84 : fx_fw "FrameSwapper$Planes" 84 1 1 false := ⟨Rq_RE, Tq_RE, 4, tq_RE, rfl, lq_RE, by decide, fx_m1 62 (by decide +kernel), tq_RE_ok, nq_RE, rfl, (by decide), by decide, by decide, by decide, by decide⟩
theorem fq_PN_84 : fx_fg "FrameSwapper$Planes" 84 1 1 := fx_fg_of fp_PN_84
theorem fp_PI_81 : fx_fw "FrameSwapper$Picture" 81 1 1 false := ⟨Rq_RE, Tq_RE, 4, tq_RE, rfl, lq_RE, by decide, fx_m1 63 (by decide +kernel), tq_RE_ok, nq_RE, rfl, (by decide), by decide, by decide, by decide, by decide⟩
theorem fq_PI_81 : fx_fg "FrameSwapper$Picture" 81 1 1 := fx_fg_of fp_PI_81
theorem fp_FS_248 : fx_fw "FrameSwapper" 248 1 1 false := ⟨Rq_RE, Tq_RE, 4, tq_RE, rfl, lq_RE, by decide, fx_m1 64 (by decide +kernel), tq_RE_ok, nq_RE, rfl, (by decide), by decide, by decide, by decide, by decide⟩
theorem fq_FS_248 : fx_fg "FrameSwapper" 248 1 1 := fx_fg_of fp_FS_248
theorem fp_RE_16 : fx_fw "FrameSwapper$Rectangle" 16 1 2 false := ⟨Rq_RE, Tq_RE, 4, tq_RE, rfl, lq_RE, by decide, fx_m1 65 (by decide +kernel), tq_RE_ok, nq_RE, rfl, fun _ => rfl, by decide, by decide, by decide, by decide⟩
theorem fq_RE_16 : fx_fg "FrameSwapper$Rectangle" 16 1 2 := fx_fg_of fp_RE_16
theorem fp_ME_34 : fx_fw "FrameSwapper$Memory" 34 1 2 false := ⟨Rq_RE, Tq_RE, 4, tq_RE, rfl, lq_RE, by decide, fx_m1 66 (by decide +kernel), tq_RE_ok, nq_RE, rfl, (by decide), by decide, by decide, by decide, by decide⟩
theorem fq_ME_34 : fx_fg "FrameSwapper$Memory" 34 1 2 := fx_fg_of fp_ME_34
theorem fp_PN_93 : fx_fw "FrameSwapper$Planes" 93 1 2 false := ⟨Rq_RE, Tq_RE, 4, tq_RE, rfl, lq_RE, by decide, fx_m1 67 (by decide +kernel), tq_RE_ok, nq_RE, rfl, (by decide), by decide, by decide, by decide, by decide⟩
theorem fq_PN_93 : fx_fg "FrameSwapper$Planes" 93 1 2 := fx_fg_of fp_PN_93
theorem fp_PI_84 : fx_fw "FrameSwapper$Picture" 84 1 2 false := ⟨Rq_RE, Tq_RE, 4, tq_RE, rfl, lq_RE, by decide, fx_m1 68 (by decide +kernel), tq_RE_ok, nq_RE, rfl, (by decide), by decide, by decide, by decide, by decide⟩
theorem fq_PI_84 : fx_fg "FrameSwapper$Picture" 84 1 2 := fx_fg_of fp_PI_84
theorem fp_FS_249 : fx_fw "FrameSwapper" 249 1 2 false := ⟨Rq_RE, Tq_RE, 4, tq_RE, rfl, lq_RE, by decide, fx_m1 69 (by decide +kernel), tq_RE_ok, nq_RE, rfl, (by decide), by decide, by decide, by decide, by decide⟩
theorem fq_FS_249 : fx_fg "FrameSwapper" 249 1 2 := fx_fg_of fp_FS_249
theorem fp_ME_28 : fx_fw "FrameSwapper$Memory" 28 1 3 false := ⟨Rq_RE, Tq_RE, 4, tq_RE, rfl, lq_RE, by decide, fx_m1 70 (by decide +kernel), tq_RE_ok, nq_RE, rfl, (by decide), by decide, by decide, by decide, by decide⟩
theorem fq_ME_28 : fx_fg "FrameSwapper$Memory" 28 1 3 := fx_fg_of fp_ME_28
theorem fp_RE_19 : fx_fw "FrameSwapper$Rectangle" 19 1 3 false := ⟨Rq_RE, Tq_RE, 4, tq_RE, rfl, lq_RE, by decide, fx_m1 71 (by decide +kernel), tq_RE_ok, nq_RE, rfl, fun _ => rfl, by decide, by decide, by decide, by decide⟩
theorem fq_RE_19 : fx_fg "FrameSwapper$Rectangle" 19 1 3 := fx_fg_of fp_RE_19
theorem fp_PN_87 : fx_fw "FrameSwapper$Planes" 87 1 3 false := ⟨Rq_RE, Tq_RE, 4, tq_RE, rfl, lq_RE, by decide, fx_m1 72 (by decide +kernel), tq_RE_ok, nq_RE, rfl, (by decide), by decide, by decide, by decide, by decide⟩
theorem fq_PN_87 : fx_fg "FrameSwapper$Planes" 87 1 3 := fx_fg_of fp_PN_87
theorem fp_PI_82 : fx_fw "FrameSwapper$Picture" 82 1 3 false := ⟨Rq_RE, Tq_RE, 4, tq_RE, rfl, lq_RE, by decide, fx_m1 73 (by decide +kernel), tq_RE_ok, nq_RE, rfl, (by decide), by decide, by decide, by decide, by decide⟩
theorem fq_PI_82 : fx_fg "FrameSwapper$Picture" 82 1 3 := fx_fg_of fp_PI_82
theorem fp_FS_250 : fx_fw "FrameSwapper" 250 1 3 false := ⟨Rq_RE, Tq_RE, 4, tq_RE, rfl, lq_RE, by decide, fx_m1 74 (by decide +kernel), tq_RE_ok, nq_RE, rfl, (by decide), by decide, by decide, by decide, by decide⟩
theorem fq_FS_250 : fx_fg "FrameSwapper" 250 1 3 := fx_fg_of fp_FS_250
theorem fp_PI_25 : fx_fw "FrameSwapper$Picture" 25 2 0 false := ⟨Rq_PI, Tq_PI, 11, tq_PI, rfl, lq_PI, by decide, fx_m1 85 (by decide +kernel), tq_PI_ok, nq_PI, rfl, fun _ => rfl, by decide, by decide, by decide, by decide⟩
theorem fq_PI_25 : fx_fg "FrameSwapper$Picture" 25 2 0 := fx_fg_of fp_PI_25
theorem fp_DE_40 : fx_fw "FrameSwapper$Desk" 40 2 0 false := ⟨Rq_PI, Tq_PI, 11, tq_PI, rfl, lq_PI, by decide, fx_m1 86 (by decide +kernel), tq_PI_ok, nq_PI, rfl, (by decide), by decide, by decide, by decide, by decide⟩
theorem fq_DE_40 : fx_fg "FrameSwapper$Desk" 40 2 0 := fx_fg_of fp_DE_40
theorem fp_PL_26 : fx_fw "FrameSwapper$Pile" 26 2 0 false := ⟨Rq_PI, Tq_PI, 11, tq_PI, rfl, lq_PI, by decide, fx_m1 87 (by decide +kernel), tq_PI_ok, nq_PI, rfl, (by decide), by decide, by decide, by decide, by decide⟩
theorem fq_PL_26 : fx_fg "FrameSwapper$Pile" 26 2 0 := fx_fg_of fp_PL_26
theorem fp_PI_29 : fx_fw "FrameSwapper$Picture" 29 2 1 false := ⟨Rq_PI, Tq_PI, 11, tq_PI, rfl, lq_PI, by decide, fx_m1 88 (by decide +kernel), tq_PI_ok, nq_PI, rfl, fun _ => rfl, by decide, by decide, by decide, by decide⟩
theorem fq_PI_29 : fx_fg "FrameSwapper$Picture" 29 2 1 := fx_fg_of fp_PI_29
theorem fp_FS_113 : fx_fw "FrameSwapper" 113 2 1 false := ⟨Rq_PI, Tq_PI, 11, tq_PI, rfl, lq_PI, by decide, fx_m1 89 (by decide +kernel), tq_PI_ok, nq_PI, rfl, (by decide), by decide, by decide, by decide, by decide⟩
theorem fq_FS_113 : fx_fg "FrameSwapper" 113 2 1 := fx_fg_of fp_FS_113
theorem fp_DE_61 : fx_fw "FrameSwapper$Desk" 61 2 1 false := ⟨Rq_PI, Tq_PI, 11, tq_PI, rfl, lq_PI, by decide, fx_m1 90 (by decide +kernel), tq_PI_ok, nq_PI, rfl, (by decide), by decide, by decide, by decide, by decide⟩
theorem fq_DE_61 : fx_fg "FrameSwapper$Desk" 61 2 1 := fx_fg_of fp_DE_61
theorem fp_PI_33 : fx_fw "FrameSwapper$Picture" 33 2 2 false := ⟨Rq_PI, Tq_PI, 11, tq_PI, rfl, lq_PI, by decide, fx_m1 91 (by decide +kernel), tq_PI_ok, nq_PI, rfl, fun _ => rfl, by decide, by decide, by decide, by decide⟩
theorem fq_PI_33 : fx_fg "FrameSwapper$Picture" 33 2 2 := fx_fg_of fp_PI_33
theorem fp_FS_116 : fx_fw "FrameSwapper" 116 2 2 false := ⟨Rq_PI, Tq_PI, 11, tq_PI, rfl, lq_PI, by decide, fx_m1 92 (by decide +kernel), tq_PI_ok, nq_PI, rfl, (by decide), by decide, by decide, by decide, by decide⟩
theorem fq_FS_116 : fx_fg "FrameSwapper" 116 2 2 := fx_fg_of fp_FS_116
theorem fp_DE_64 : fx_fw "FrameSwapper$Desk" 64 2 2 false := ⟨Rq_PI, Tq_PI, 11, tq_PI, rfl, lq_PI, by decide, fx_m1 93 (by decide +kernel), tq_PI_ok, nq_PI, rfl, (by decide), by decide, by decide, by decide, by decide⟩
theorem fq_DE_64 : fx_fg "FrameSwapper$Desk" 64 2 2 := fx_fg_of fp_DE_64
theorem fp_PI_36 : fx_fw "FrameSwapper$Picture" 36 2 3 false := ⟨Rq_PI, Tq_PI, 11, tq_PI, rfl, lq_PI, by decide, fx_m1 94 (by decide +kernel), tq_PI_ok, nq_PI, rfl, fun _ => rfl, by decide, by decide, by decide, by decide⟩
theorem fq_PI_36 : fx_fg "FrameSwapper$Picture" 36 2 3 := fx_fg_of fp_PI_36
theorem fp_FS_84 : fx_fw "FrameSwapper" 84 2 3 false := ⟨Rq_PI, Tq_PI, 11, tq_PI, rfl, lq_PI, by decide, fx_m1 95 (by decide +kernel), tq_PI_ok, nq_PI, rfl, (by decide), by decide, by decide, by decide, by decide⟩
theorem fq_FS_84 : fx_fg "FrameSwapper" 84 2 3 := fx_fg_of fp_FS_84
theorem fp_PI_39 : fx_fw "FrameSwapper$Picture" 39 2 4 false := ⟨Rq_PI, Tq_PI, 11, tq_PI, rfl, lq_PI, by decide, fx_m1 96 (by decide +kernel), tq_PI_ok, nq_PI, rfl, fun _ => rfl, by decide, by decide, by decide, by decide⟩
theorem fq_PI_39 : fx_fg "FrameSwapper$Picture" 39 2 4 := fx_fg_of fp_PI_39
theorem fp_FS_87 : fx_fw "FrameSwapper" 87 2 4 false := ⟨Rq_PI, Tq_PI, 11, tq_PI, rfl, lq_PI, by decide, fx_m1 97 (by decide +kernel), tq_PI_ok, nq_PI, rfl, (by decide), by decide, by decide, by decide, by decide⟩
theorem fq_FS_87 : fx_fg "FrameSwapper" 87 2 4 := fx_fg_of fp_FS_87
theorem fp_PI_42 : fx_fw "FrameSwapper$Picture" 42 2 5 false := ⟨Rq_PI, Tq_PI, 11, tq_PI, rfl, lq_PI, by decide, fx_m1 98 (by decide +kernel), tq_PI_ok, nq_PI, rfl, fun _ => rfl, by decide, by decide, by decide, by decide⟩
theorem fq_PI_42 : fx_fg "FrameSwapper$Picture" 42 2 5 := fx_fg_of fp_PI_42
theorem fp_PL_30 : fx_fw "FrameSwapper$Pile" 30 2 5 false := ⟨Rq_PI, Tq_PI, 11, tq_PI, rfl, lq_PI, by decide, fx_m1 99 (by decide +kernel), tq_PI_ok, nq_PI, rfl, (by decide), by decide, by decide, by decide, by decide⟩
theorem fq_PL_30 : fx_fg "FrameSwapper$Pile" 30 2 5 := fx_fg_of fp_PL_30
theorem fp_FS_90 : fx_fw "FrameSwapper" 90 2 5 false := ⟨Rq_PI, Tq_PI, 11, tq_PI, rfl, lq_PI, by decide, fx_m1 100 (by decide +kernel), tq_PI_ok, nq_PI, rfl, (by decide), by decide, by decide, by decide, by decide⟩
theorem fq_FS_90 : fx_fg "FrameSwapper" 90 2 5 := fx_fg_of fp_FS_90
theorem fp_PI_45 : fx_fw "FrameSwapper$Picture" 45 2 6 false := ⟨Rq_PI, Tq_PI, 11, tq_PI, rfl, lq_PI, by decide, fx_m1 101 (by decide +kernel), tq_PI_ok, nq_PI, rfl, fun _ => rfl, by decide, by decide, by decide, by decide⟩
theorem fq_PI_45 : fx_fg "FrameSwapper$Picture" 45 2 6 := fx_fg_of fp_PI_45
theorem fp_ME_51 : fx_fw "FrameSwapper$Memory" 51 2 6 false := ⟨Rq_PI, Tq_PI, 11, tq_PI, rfl, lq_PI, by decide, fx_m1 102 (by decide +kernel), tq_PI_ok, nq_PI, rfl, (by decide), by decide, by decide, by decide, by decide⟩
theorem fq_ME_51 : fx_fg "FrameSwapper$Memory" 51 2 6 := fx_fg_of fp_ME_51
theorem fp_PL_54 : fx_fw "FrameSwapper$Pile" 54 2 6 false := ⟨Rq_PI, Tq_PI, 11, tq_PI, rfl, lq_PI, by decide, fx_m1 103 (by decide +kernel), tq_PI_ok, nq_PI, rfl, (by decide), by decide, by decide, by decide, by decide⟩
theorem fq_PL_54 : fx_fg "FrameSwapper$Pile" 54 2 6 := fx_fg_of fp_PL_54
theorem fp_FS_93 : fx_fw "FrameSwapper" 93 2 6 false := ⟨Rq_PI, Tq_PI, 11, tq_PI, rfl, lq_PI, by decide, fx_m1 104 (by decide +kernel), tq_PI_ok, nq_PI, rfl, (by decide), by decide, by decide, by decide, by decide⟩
theorem fq_FS_93 : fx_fg "FrameSwapper" 93 2 6 := fx_fg_of fp_FS_93
theorem fp_PN_64 : fx_fw "FrameSwapper$Planes" 64 2 6 false := ⟨Rq_PI, Tq_PI, 11, tq_PI, rfl, lq_PI, by decide, fx_m1 105 (by decide +kernel), tq_PI_ok, nq_PI, rfl, (by decide), by decide, by decide, by decide, by decide⟩
theorem fq_PN_64 : fx_fg "FrameSwapper$Planes" 64 2 6 := fx_fg_of fp_PN_64
theorem fp_PI_48 : fx_fw "FrameSwapper$Picture" 48 2 7 false := ⟨Rq_PI, Tq_PI, 11, tq_PI, rfl, lq_PI, by decide, fx_m1 106 (by decide +kernel), tq_PI_ok, nq_PI, rfl, fun _ => rfl, by decide, by decide, by decide, by decide⟩
theorem fq_PI_48 : fx_fg "FrameSwapper$Picture" 48 2 7 := fx_fg_of fp_PI_48
theorem fp_FS_96 : fx_fw "FrameSwapper" 96 2 7 false := ⟨Rq_PI, Tq_PI, 11, tq_PI, rfl, lq_PI, by decide, fx_m1 107 (by decide +kernel), tq_PI_ok, nq_PI, rfl, (by decide), by decide, by decide, by decide, by decide⟩
theorem fq_FS_96 : fx_fg "FrameSwapper" 96 2 7 := fx_fg_of fp_FS_96
theorem fp_PI_9 : fx_fw "FrameSwapper$Picture" 9 2 8 true := ⟨Rq_PI, Tq_PI, 11, tq_PI, rfl, lq_PI, by decide, fx_m1 108 (by decide +kernel), tq_PI_ok, nq_PI, rfl, fun _ => rfl, by decide, by decide, by decide, by decide⟩
theorem fq_PI_9 : fx_fg "FrameSwapper$Picture" 9 2 8 := fx_fg_of fp_PI_9
theorem fq_FS_129 : fx_fg "FrameSwapper" 129 2 8 := ⟨Rq_PI, Tq_PI, 11, rfl, lq_PI, by decide, fx_m1 109 (by decide +kernel)⟩
theorem fp_PI_18 : fx_fw "FrameSwapper$Picture" 18 2 9 true := ⟨Rq_PI, Tq_PI, 11, tq_PI, rfl, lq_PI, by decide, fx_m1 110 (by decide +kernel), tq_PI_ok, nq_PI, rfl, fun _ => rfl, by decide, by decide, by decide, by decide⟩
theorem fq_PI_18 : fx_fg "FrameSwapper$Picture" 18 2 9 := fx_fg_of fp_PI_18
theorem fq_FS_107 : fx_fg "FrameSwapper" 107 2 9 := ⟨Rq_PI, Tq_PI, 11, rfl, lq_PI, by decide, fx_m1 111 (by decide +kernel)⟩
theorem fp_PI_22 : fx_fw "FrameSwapper$Picture" 22 2 10 true := ⟨Rq_PI, Tq_PI, 11, tq_PI, rfl, lq_PI, by decide, fx_m1 112 (by decide +kernel), tq_PI_ok, nq_PI, rfl, fun _ => rfl, by decide, by decide, by decide, by decide⟩
theorem fq_PI_22 : fx_fg "FrameSwapper$Picture" 22 2 10 := fx_fg_of fp_PI_22
theorem fq_CO_90 : fx_fg "FrameSwapper$Composer" 90 2 10 := ⟨Rq_PI, Tq_PI, 11, rfl, lq_PI, by decide, fx_m1 113 (by decide +kernel)⟩
theorem fq_ME_37 : fx_fg "FrameSwapper$Memory" 37 2 10 := ⟨Rq_PI, Tq_PI, 11, rfl, lq_PI, by decide, fx_m1 114 (by decide +kernel)⟩
theorem fq_PL_40 : fx_fg "FrameSwapper$Pile" 40 2 10 := ⟨Rq_PI, Tq_PI, 11, rfl, lq_PI, by decide, fx_m1 115 (by decide +kernel)⟩
theorem fq_PN_69 : fx_fg "FrameSwapper$Planes" 69 2 10 := ⟨Rq_PI, Tq_PI, 11, rfl, lq_PI, by decide, fx_m1 116 (by decide +kernel)⟩
theorem fp_PL_11 : fx_fw "FrameSwapper$Pile" 11 3 0 true := ⟨Rq_PL, Tq_PL, 3, tq_PL, rfl, lq_PL, by decide, fx_m1 140 (by decide +kernel), tq_PL_ok, nq_PL, rfl, fun _ => rfl, by decide, by decide, by decide, by decide⟩
theorem fq_PL_11 : fx_fg "FrameSwapper$Pile" 11 3 0 := fx_fg_of fp_PL_11
theorem fq_CO_86 : fx_fg "FrameSwapper$Composer" 86 3 0 := ⟨Rq_PL, Tq_PL, 3, rfl, lq_PL, by decide, fx_m1 141 (by decide +kernel)⟩
theorem fq_PN_56 : fx_fg "FrameSwapper$Planes" 56 3 0 := ⟨Rq_PL, Tq_PL, 3, rfl, lq_PL, by decide, fx_m1 142 (by decide +kernel)⟩
theorem fq_DE_48 : fx_fg "FrameSwapper$Desk" 48 3 0 := ⟨Rq_PL, Tq_PL, 3, rfl, lq_PL, by decide, fx_m1 143 (by decide +kernel)⟩
theorem fp_PL_17 : fx_fw "FrameSwapper$Pile" 17 3 1 true := ⟨Rq_PL, Tq_PL, 3, tq_PL, rfl, lq_PL, by decide, fx_m1 144 (by decide +kernel), tq_PL_ok, nq_PL, rfl, fun _ => rfl, by decide, by decide, by decide, by decide⟩
theorem fq_PL_17 : fx_fg "FrameSwapper$Pile" 17 3 1 := fx_fg_of fp_PL_17
theorem fq_PN_53 : fx_fg "FrameSwapper$Planes" 53 3 1 := ⟨Rq_PL, Tq_PL, 3, rfl, lq_PL, by decide, fx_m1 145 (by decide +kernel)⟩
theorem fq_CO_129 : fx_fg "FrameSwapper$Composer" 129 3 1 := ⟨Rq_PL, Tq_PL, 3, rfl, lq_PL, by decide, fx_m1 146 (by decide +kernel)⟩
theorem fp_PL_22 : fx_fw "FrameSwapper$Pile" 22 3 2 false := ⟨Rq_PL, Tq_PL, 3, tq_PL, rfl, lq_PL, by decide, fx_m1 147 (by decide +kernel), tq_PL_ok, nq_PL, rfl, fun _ => rfl, by decide, by decide, by decide, by decide⟩
theorem fq_PL_22 : fx_fg "FrameSwapper$Pile" 22 3 2 := fx_fg_of fp_PL_22
theorem fp_PN_43 : fx_fw "FrameSwapper$Planes" 43 3 2 false := ⟨Rq_PL, Tq_PL, 3, tq_PL, rfl, lq_PL, by decide, fx_m1 148 (by decide +kernel), tq_PL_ok, nq_PL, rfl, (by decide), by decide, by decide, by decide, by decide⟩
theorem fq_PN_43 : fx_fg "FrameSwapper$Planes" 43 3 2 := fx_fg_of fp_PN_43
theorem fp_CO_141 : fx_fw "FrameSwapper$Composer" 141 3 2 false := ⟨Rq_PL, Tq_PL, 3, tq_PL, rfl, lq_PL, by decide, fx_m1 149 (by decide +kernel), tq_PL_ok, nq_PL, rfl, (by decide), by decide, by decide, by decide, by decide⟩
theorem fq_CO_141 : fx_fg "FrameSwapper$Composer" 141 3 2 := fx_fg_of fp_CO_141
theorem fp_DE_11 : fx_fw "FrameSwapper$Desk" 11 4 0 true := ⟨Rq_DE, Tq_DE, 7, tq_DE, rfl, lq_DE, by decide, fx_m1 158 (by decide +kernel), tq_DE_ok, nq_DE, rfl, fun _ => rfl, by decide, by decide, by decide, by decide⟩
theorem fq_DE_11 : fx_fg "FrameSwapper$Desk" 11 4 0 := fx_fg_of fp_DE_11
theorem fq_FS_74 : fx_fg "FrameSwapper" 74 4 0 := ⟨Rq_DE, Tq_DE, 7, rfl, lq_DE, by decide, fx_m1 159 (by decide +kernel)⟩
theorem fp_DE_20 : fx_fw "FrameSwapper$Desk" 20 4 1 true := ⟨Rq_DE, Tq_DE, 7, tq_DE, rfl, lq_DE, by decide, fx_m1 160 (by decide +kernel), tq_DE_ok, nq_DE, rfl, fun _ => rfl, by decide, by decide, by decide, by decide⟩
theorem fq_DE_20 : fx_fg "FrameSwapper$Desk" 20 4 1 := fx_fg_of fp_DE_20
theorem fq_CO_53 : fx_fg "FrameSwapper$Composer" 53 4 1 := ⟨Rq_DE, Tq_DE, 7, rfl, lq_DE, by decide, fx_m1 161 (by decide +kernel)⟩
theorem fq_FS_213 : fx_fg "FrameSwapper" 213 4 1 := ⟨Rq_DE, Tq_DE, 7, rfl, lq_DE, by decide, fx_m1 162 (by decide +kernel)⟩
theorem fp_DE_24 : fx_fw "FrameSwapper$Desk" 24 4 2 true := ⟨Rq_DE, Tq_DE, 7, tq_DE, rfl, lq_DE, by decide, fx_m1 163 (by decide +kernel), tq_DE_ok, nq_DE, rfl, fun _ => rfl, by decide, by decide, by decide, by decide⟩
theorem fq_DE_24 : fx_fg "FrameSwapper$Desk" 24 4 2 := fx_fg_of fp_DE_24
theorem fq_FS_139 : fx_fg "FrameSwapper" 139 4 2 := ⟨Rq_DE, Tq_DE, 7, rfl, lq_DE, by decide, fx_m1 164 (by decide +kernel)⟩
theorem fp_DE_28 : fx_fw "FrameSwapper$Desk" 28 4 3 true := ⟨Rq_DE, Tq_DE, 7, tq_DE, rfl, lq_DE, by decide, fx_m1 165 (by decide +kernel), tq_DE_ok, nq_DE, rfl, fun _ => rfl, by decide, by decide, by decide, by decide⟩
theorem fq_DE_28 : fx_fg "FrameSwapper$Desk" 28 4 3 := fx_fg_of fp_DE_28
theorem fp_DE_32 : fx_fw "FrameSwapper$Desk" 32 4 4 true := ⟨Rq_DE, Tq_DE, 7, tq_DE, rfl, lq_DE, by decide, fx_m1 166 (by decide +kernel), tq_DE_ok, nq_DE, rfl, fun _ => rfl, by decide, by decide, by decide, by decide⟩
theorem fq_DE_32 : fx_fg "FrameSwapper$Desk" 32 4 4 := fx_fg_of fp_DE_32
theorem fp_CO_62 : fx_fw "FrameSwapper$Composer" 62 4 5 false := ⟨Rq_DE, Tq_DE, 7, tq_DE, rfl, lq_DE, by decide, fx_m1 167 (by decide +kernel), tq_DE_ok, nq_DE, rfl, (by decide), by decide, by decide, by decide, by decide⟩
theorem fq_CO_62 : fx_fg "FrameSwapper$Composer" 62 4 5 := fx_fg_of fp_CO_62
theorem fp_DE_58 : fx_fw "FrameSwapper$Desk" 58 4 5 false := ⟨Rq_DE, Tq_DE, 7, tq_DE, rfl, lq_DE, by decide, fx_m1 168 (by decide +kernel), tq_DE_ok, nq_DE, rfl, fun _ => rfl, by decide, by decide, by decide, by decide⟩
theorem fq_DE_58 : fx_fg "FrameSwapper$Desk" 58 4 5 := fx_fg_of fp_DE_58
theorem fp_FS_153 : fx_fw "FrameSwapper" 153 4 5 false := ⟨Rq_DE, Tq_DE, 7, tq_DE, rfl, lq_DE, by decide, fx_m1 169 (by decide +kernel), tq_DE_ok, nq_DE, rfl, (by decide), by decide, by decide, by decide, by decide⟩
theorem fq_FS_153 : fx_fg "FrameSwapper" 153 4 5 := fx_fg_of fp_FS_153
theorem fp_DE_35 : fx_fw "FrameSwapper$Desk" 35 4 6 false := ⟨Rq_DE, Tq_DE, 7, tq_DE, rfl, lq_DE, by decide, fx_m1 170 (by decide +kernel), tq_DE_ok, nq_DE, rfl, fun _ => rfl, by decide, by decide, by decide, by decide⟩
theorem fq_DE_35 : fx_fg "FrameSwapper$Desk" 35 4 6 := fx_fg_of fp_DE_35
theorem fp_FS_60 : fx_fw "FrameSwapper" 60 4 6 false := ⟨Rq_DE, Tq_DE, 7, tq_DE, rfl, lq_DE, by decide, fx_m1 171 (by decide +kernel), tq_DE_ok, nq_DE, rfl, (by decide), by decide, by decide, by decide, by decide⟩
theorem fq_FS_60 : fx_fg "FrameSwapper" 60 4 6 := fx_fg_of fp_FS_60
theorem fp_PN_9 : fx_fw "FrameSwapper$Planes" 9 7 0 true := ⟨Rq_PN, Tq_PN, 3, tq_PN, rfl, lq_PN, by decide, fx_m1 207 (by decide +kernel), tq_PN_ok, nq_PN, rfl, fun _ => rfl, by decide, by decide, by decide, by decide⟩
theorem fq_PN_9 : fx_fg "FrameSwapper$Planes" 9 7 0 := fx_fg_of fp_PN_9
theorem fq_FS_251 : fx_fg "FrameSwapper" 251 7 0 := ⟨Rq_PN, Tq_PN, 3, rfl, lq_PN, by decide, fx_m1 208 (by decide +kernel)⟩
theorem fp_PN_18 : fx_fw "FrameSwapper$Planes" 18 7 1 true := ⟨Rq_PN, Tq_PN, 3, tq_PN, rfl, lq_PN, by decide, fx_m1 209 (by decide +kernel), tq_PN_ok, nq_PN, rfl, fun _ => rfl, by decide, by decide, by decide, by decide⟩
theorem fq_PN_18 : fx_fg "FrameSwapper$Planes" 18 7 1 := fx_fg_of fp_PN_18
theorem fp_PN_24 : fx_fw "FrameSwapper$Planes" 24 7 2 true := ⟨Rq_PN, Tq_PN, 3, tq_PN, rfl, lq_PN, by decide, fx_m1 210 (by decide +kernel), tq_PN_ok, nq_PN, rfl, fun _ => rfl, by decide, by decide, by decide, by decide⟩
theorem fq_PN_24 : fx_fg "FrameSwapper$Planes" 24 7 2 := fx_fg_of fp_PN_24
theorem fp_MI_11 : fx_fw "FrameSwapper$Misses" 11 5 0 true := ⟨Rq_MI, Tq_MI, 2, tq_MI, rfl, lq_MI, by decide, fx_m1 233 (by decide +kernel), tq_MI_ok, nq_MI, rfl, fun _ => rfl, by decide, by decide, by decide, by decide⟩
theorem fq_MI_11 : fx_fg "FrameSwapper$Misses" 11 5 0 := fx_fg_of fp_MI_11
theorem fq_CO_123 : fx_fg "FrameSwapper$Composer" 123 5 0 := ⟨Rq_MI, Tq_MI, 2, rfl, lq_MI, by decide, fx_m1 234 (by decide +kernel)⟩
theorem fq_FS_243 : fx_fg "FrameSwapper" 243 5 0 := ⟨Rq_MI, Tq_MI, 2, rfl, lq_MI, by decide, fx_m1 235 (by decide +kernel)⟩
theorem fp_MI_26 : fx_fw "FrameSwapper$Misses" 26 5 1 false := ⟨Rq_MI, Tq_MI, 2, tq_MI, rfl, lq_MI, by decide, fx_m1 236 (by decide +kernel), tq_MI_ok, nq_MI, rfl, fun _ => rfl, by decide, by decide, by decide, by decide⟩
theorem fq_MI_26 : fx_fg "FrameSwapper$Misses" 26 5 1 := fx_fg_of fp_MI_26
theorem fp_CO_117 : fx_fw "FrameSwapper$Composer" 117 5 1 false := ⟨Rq_MI, Tq_MI, 2, tq_MI, rfl, lq_MI, by decide, fx_m1 237 (by decide +kernel), tq_MI_ok, nq_MI, rfl, (by decide), by decide, by decide, by decide, by decide⟩
theorem fq_CO_117 : fx_fg "FrameSwapper$Composer" 117 5 1 := fx_fg_of fp_CO_117
theorem fp_FS_238 : fx_fw "FrameSwapper" 238 5 1 false := ⟨Rq_MI, Tq_MI, 2, tq_MI, rfl, lq_MI, by decide, fx_m1 238 (by decide +kernel), tq_MI_ok, nq_MI, rfl, (by decide), by decide, by decide, by decide, by decide⟩
theorem fq_FS_238 : fx_fg "FrameSwapper" 238 5 1 := fx_fg_of fp_FS_238
theorem fp_ME_9 : fx_fw "FrameSwapper$Memory" 9 6 0 true := ⟨Rq_ME, Tq_ME, 2, tq_ME, rfl, lq_ME, by decide, fx_m1 244 (by decide +kernel), tq_ME_ok, nq_ME, rfl, fun _ => rfl, by decide, by decide, by decide, by decide⟩
theorem fq_ME_9 : fx_fg "FrameSwapper$Memory" 9 6 0 := fx_fg_of fp_ME_9
theorem fq_BE_29 : fx_fg "FrameSwapper$Beam" 29 6 0 := ⟨Rq_ME, Tq_ME, 2, rfl, lq_ME, by decide, fx_m1 245 (by decide +kernel)⟩
theorem fp_ME_18 : fx_fw "FrameSwapper$Memory" 18 6 1 true := ⟨Rq_ME, Tq_ME, 2, tq_ME, rfl, lq_ME, by decide, fx_m1 246 (by decide +kernel), tq_ME_ok, nq_ME, rfl, fun _ => rfl, by decide, by decide, by decide, by decide⟩
theorem fq_ME_18 : fx_fg "FrameSwapper$Memory" 18 6 1 := fx_fg_of fp_ME_18
theorem fq_CO_102 : fx_fg "FrameSwapper$Composer" 102 6 1 := ⟨Rq_ME, Tq_ME, 2, rfl, lq_ME, by decide, fx_m1 247 (by decide +kernel)⟩
theorem fq_FS_232 : fx_fg "FrameSwapper" 232 6 1 := ⟨Rq_ME, Tq_ME, 2, rfl, lq_ME, by decide, fx_m1 248 (by decide +kernel)⟩
theorem fp_CO_12 : fx_fw "FrameSwapper$Composer" 12 8 0 true := ⟨Rq_CO, Tq_CO, 11, tq_CO, rfl, lq_CO, by decide, fx_m1 255 (by decide +kernel), tq_CO_ok, nq_CO, rfl, fun _ => rfl, by decide, by decide, by decide, by decide⟩
theorem fq_CO_12 : fx_fg "FrameSwapper$Composer" 12 8 0 := fx_fg_of fp_CO_12
theorem fp_CO_21 : fx_fw "FrameSwapper$Composer" 21 8 1 true := ⟨Rq_CO, Tq_CO, 11, tq_CO, rfl, lq_CO, by decide, fx_m1 256 (by decide +kernel), tq_CO_ok, nq_CO, rfl, fun _ => rfl, by decide, by decide, by decide, by decide⟩
theorem fq_CO_21 : fx_fg "FrameSwapper$Composer" 21 8 1 := fx_fg_of fp_CO_21
theorem fq_FS_198 : fx_fg "FrameSwapper" 198 8 1 := ⟨Rq_CO, Tq_CO, 11, rfl, lq_CO, by decide, fx_m1 257 (by decide +kernel)⟩
theorem fp_CO_25 : fx_fw "FrameSwapper$Composer" 25 8 2 true := ⟨Rq_CO, Tq_CO, 11, tq_CO, rfl, lq_CO, by decide, fx_m1 258 (by decide +kernel), tq_CO_ok, nq_CO, rfl, fun _ => rfl, by decide, by decide, by decide, by decide⟩
theorem fq_CO_25 : fx_fg "FrameSwapper$Composer" 25 8 2 := fx_fg_of fp_CO_25
theorem fp_CO_31 : fx_fw "FrameSwapper$Composer" 31 8 3 true := ⟨Rq_CO, Tq_CO, 11, tq_CO, rfl, lq_CO, by decide, fx_m1 259 (by decide +kernel), tq_CO_ok, nq_CO, rfl, fun _ => rfl, by decide, by decide, by decide, by decide⟩
theorem fq_CO_31 : fx_fg "FrameSwapper$Composer" 31 8 3 := fx_fg_of fp_CO_31
theorem fp_CO_38 : fx_fw "FrameSwapper$Composer" 38 8 4 false := ⟨Rq_CO, Tq_CO, 11, tq_CO, rfl, lq_CO, by decide, fx_m1 260 (by decide +kernel), tq_CO_ok, nq_CO, rfl, fun _ => rfl, by decide, by decide, by decide, by decide⟩
theorem fq_CO_38 : fx_fg "FrameSwapper$Composer" 38 8 4 := fx_fg_of fp_CO_38
theorem fp_FS_177 : fx_fw "FrameSwapper" 177 8 4 false := ⟨Rq_CO, Tq_CO, 11, tq_CO, rfl, lq_CO, by decide, fx_m1 261 (by decide +kernel), tq_CO_ok, nq_CO, rfl, (by decide), by decide, by decide, by decide, by decide⟩
theorem fq_FS_177 : fx_fg "FrameSwapper" 177 8 4 := fx_fg_of fp_FS_177
theorem fp_CO_42 : fx_fw "FrameSwapper$Composer" 42 8 5 false := ⟨Rq_CO, Tq_CO, 11, tq_CO, rfl, lq_CO, by decide, fx_m1 262 (by decide +kernel), tq_CO_ok, nq_CO, rfl, fun _ => rfl, by decide, by decide, by decide, by decide⟩
theorem fq_CO_42 : fx_fg "FrameSwapper$Composer" 42 8 5 := fx_fg_of fp_CO_42
theorem fp_FS_229 : fx_fw "FrameSwapper" 229 8 5 false := ⟨Rq_CO, Tq_CO, 11, tq_CO, rfl, lq_CO, by decide, fx_m1 263 (by decide +kernel), tq_CO_ok, nq_CO, rfl, (by decide), by decide, by decide, by decide, by decide⟩
theorem fq_FS_229 : fx_fg "FrameSwapper" 229 8 5 := fx_fg_of fp_FS_229
theorem fp_CO_45 : fx_fw "FrameSwapper$Composer" 45 8 6 false := ⟨Rq_CO, Tq_CO, 11, tq_CO, rfl, lq_CO, by decide, fx_m1 264 (by decide +kernel), tq_CO_ok, nq_CO, rfl, fun _ => rfl, by decide, by decide, by decide, by decide⟩
theorem fq_CO_45 : fx_fg "FrameSwapper$Composer" 45 8 6 := fx_fg_of fp_CO_45
theorem fp_FS_163 : fx_fw "FrameSwapper" 163 8 6 false := ⟨Rq_CO, Tq_CO, 11, tq_CO, rfl, lq_CO, by decide, fx_m1 265 (by decide +kernel), tq_CO_ok, nq_CO, rfl, (by decide), by decide, by decide, by decide, by decide⟩
theorem fq_FS_163 : fx_fg "FrameSwapper" 163 8 6 := fx_fg_of fp_FS_163
theorem fp_CO_65 : fx_fw "FrameSwapper$Composer" 65 8 7 false := ⟨Rq_CO, Tq_CO, 11, tq_CO, rfl, lq_CO, by decide, fx_m1 266 (by decide +kernel), tq_CO_ok, nq_CO, rfl, fun _ => rfl, by decide, by decide, by decide, by decide⟩
theorem fq_CO_65 : fx_fg "FrameSwapper$Composer" 65 8 7 := fx_fg_of fp_CO_65
theorem fp_FS_156 : fx_fw "FrameSwapper" 156 8 7 false := ⟨Rq_CO, Tq_CO, 11, tq_CO, rfl, lq_CO, by decide, fx_m1 267 (by decide +kernel), tq_CO_ok, nq_CO, rfl, (by decide), by decide, by decide, by decide, by decide⟩
theorem fq_FS_156 : fx_fg "FrameSwapper" 156 8 7 := fx_fg_of fp_FS_156
theorem fp_CO_148 : fx_fw "FrameSwapper$Composer" 148 8 8 false := ⟨Rq_CO, Tq_CO, 11, tq_CO, rfl, lq_CO, by decide, fx_m1 268 (by decide +kernel), tq_CO_ok, nq_CO, rfl, fun _ => rfl, by decide, by decide, by decide, by decide⟩
theorem fq_CO_148 : fx_fg "FrameSwapper$Composer" 148 8 8 := fx_fg_of fp_CO_148
theorem fp_FS_185 : fx_fw "FrameSwapper" 185 8 8 false := ⟨Rq_CO, Tq_CO, 11, tq_CO, rfl, lq_CO, by decide, fx_m1 269 (by decide +kernel), tq_CO_ok, nq_CO, rfl, (by decide), by decide, by decide, by decide, by decide⟩
theorem fq_FS_185 : fx_fg "FrameSwapper" 185 8 8 := fx_fg_of fp_FS_185
theorem fp_CO_111 : fx_fw "FrameSwapper$Composer" 111 8 9 false := ⟨Rq_CO, Tq_CO, 11, tq_CO, rfl, lq_CO, by decide, fx_m1 270 (by decide +kernel), tq_CO_ok, nq_CO, rfl, fun _ => rfl, by decide, by decide, by decide, by decide⟩
theorem fq_CO_111 : fx_fg "FrameSwapper$Composer" 111 8 9 := fx_fg_of fp_CO_111
theorem fp_CO_114 : fx_fw "FrameSwapper$Composer" 114 8 10 false := ⟨Rq_CO, Tq_CO, 11, tq_CO, rfl, lq_CO, by decide, fx_m1 271 (by decide +kernel), tq_CO_ok, nq_CO, rfl, fun _ => rfl, by decide, by decide, by decide, by decide⟩
theorem fq_CO_114 : fx_fg "FrameSwapper$Composer" 114 8 10 := fx_fg_of fp_CO_114
theorem fp_BE_12 : fx_fw "FrameSwapper$Beam" 12 9 0 true := ⟨Rq_BE, Tq_BE, 6, tq_BE, rfl, lq_BE, by decide, fx_m1 303 (by decide +kernel), tq_BE_ok, nq_BE, rfl, fun _ => rfl, by decide, by decide, by decide, by decide⟩
theorem fq_BE_12 : fx_fg "FrameSwapper$Beam" 12 9 0 := fx_fg_of fp_BE_12
theorem fq_FS_194 : fx_fg "FrameSwapper" 194 9 0 := ⟨Rq_BE, Tq_BE, 6, rfl, lq_BE, by decide, fx_m1 304 (by decide +kernel)⟩
theorem fp_BE_18 : fx_fw "FrameSwapper$Beam" 18 9 1 true := ⟨Rq_BE, Tq_BE, 6, tq_BE, rfl, lq_BE, by decide, fx_m1 305 (by decide +kernel), tq_BE_ok, nq_BE, rfl, fun _ => rfl, by decide, by decide, by decide, by decide⟩
theorem fq_BE_18 : fx_fg "FrameSwapper$Beam" 18 9 1 := fx_fg_of fp_BE_18
theorem fp_BE_22 : fx_fw "FrameSwapper$Beam" 22 9 2 true := ⟨Rq_BE, Tq_BE, 6, tq_BE, rfl, lq_BE, by decide, fx_m1 306 (by decide +kernel), tq_BE_ok, nq_BE, rfl, fun _ => rfl, by decide, by decide, by decide, by decide⟩
theorem fq_BE_22 : fx_fg "FrameSwapper$Beam" 22 9 2 := fx_fg_of fp_BE_22
theorem fq_FS_210 : fx_fg "FrameSwapper" 210 9 2 := ⟨Rq_BE, Tq_BE, 6, rfl, lq_BE, by decide, fx_m1 307 (by decide +kernel)⟩
theorem fp_BE_25 : fx_fw "FrameSwapper$Beam" 25 9 3 false := ⟨Rq_BE, Tq_BE, 6, tq_BE, rfl, lq_BE, by decide, fx_m1 308 (by decide +kernel), tq_BE_ok, nq_BE, rfl, fun _ => rfl, by decide, by decide, by decide, by decide⟩
theorem fq_BE_25 : fx_fg "FrameSwapper$Beam" 25 9 3 := fx_fg_of fp_BE_25
theorem fp_FS_174 : fx_fw "FrameSwapper" 174 9 3 false := ⟨Rq_BE, Tq_BE, 6, tq_BE, rfl, lq_BE, by decide, fx_m1 309 (by decide +kernel), tq_BE_ok, nq_BE, rfl, (by decide), by decide, by decide, by decide, by decide⟩
theorem fq_FS_174 : fx_fg "FrameSwapper" 174 9 3 := fx_fg_of fp_FS_174
theorem fp_BE_47 : fx_fw "FrameSwapper$Beam" 47 9 4 false := ⟨Rq_BE, Tq_BE, 6, tq_BE, rfl, lq_BE, by decide, fx_m1 310 (by decide +kernel), tq_BE_ok, nq_BE, rfl, fun _ => rfl, by decide, by decide, by decide, by decide⟩
theorem fq_BE_47 : fx_fg "FrameSwapper$Beam" 47 9 4 := fx_fg_of fp_BE_47
theorem fp_FS_223 : fx_fw "FrameSwapper" 223 9 4 false := ⟨Rq_BE, Tq_BE, 6, tq_BE, rfl, lq_BE, by decide, fx_m1 311 (by decide +kernel), tq_BE_ok, nq_BE, rfl, (by decide), by decide, by decide, by decide, by decide⟩
theorem fq_FS_223 : fx_fg "FrameSwapper" 223 9 4 := fx_fg_of fp_FS_223
theorem fp_BE_44 : fx_fw "FrameSwapper$Beam" 44 9 5 false := ⟨Rq_BE, Tq_BE, 6, tq_BE, rfl, lq_BE, by decide, fx_m1 312 (by decide +kernel), tq_BE_ok, nq_BE, rfl, fun _ => rfl, by decide, by decide, by decide, by decide⟩
theorem fq_BE_44 : fx_fg "FrameSwapper$Beam" 44 9 5 := fx_fg_of fp_BE_44
theorem fp_FS_226 : fx_fw "FrameSwapper" 226 9 5 false := ⟨Rq_BE, Tq_BE, 6, tq_BE, rfl, lq_BE, by decide, fx_m1 313 (by decide +kernel), tq_BE_ok, nq_BE, rfl, (by decide), by decide, by decide, by decide, by decide⟩
theorem fq_FS_226 : fx_fg "FrameSwapper" 226 9 5 := fx_fg_of fp_FS_226
theorem fp_FS_10 : fx_fw "FrameSwapper" 10 0 0 true := ⟨Rq_FS, Tq_FS, 5, tq_FS, rfl, lq_FS, by decide, fx_m1 331 (by decide +kernel), tq_FS_ok, nq_FS, rfl, fun _ => rfl, by decide, by decide, by decide, by decide⟩
theorem fq_FS_10 : fx_fg "FrameSwapper" 10 0 0 := fx_fg_of fp_FS_10
theorem fp_FS_19 : fx_fw "FrameSwapper" 19 0 1 true := ⟨Rq_FS, Tq_FS, 5, tq_FS, rfl, lq_FS, by decide, fx_m1 332 (by decide +kernel), tq_FS_ok, nq_FS, rfl, fun _ => rfl, by decide, by decide, by decide, by decide⟩
theorem fq_FS_19 : fx_fg "FrameSwapper" 19 0 1 := fx_fg_of fp_FS_19
theorem fp_FS_26 : fx_fw "FrameSwapper" 26 0 2 true := ⟨Rq_FS, Tq_FS, 5, tq_FS, rfl, lq_FS, by decide, fx_m1 333 (by decide +kernel), tq_FS_ok, nq_FS, rfl, fun _ => rfl, by decide, by decide, by decide, by decide⟩
theorem fq_FS_26 : fx_fg "FrameSwapper" 26 0 2 := fx_fg_of fp_FS_26
theorem fp_FS_33 : fx_fw "FrameSwapper" 33 0 3 true := ⟨Rq_FS, Tq_FS, 5, tq_FS, rfl, lq_FS, by decide, fx_m1 334 (by decide +kernel), tq_FS_ok, nq_FS, rfl, fun _ => rfl, by decide, by decide, by decide, by decide⟩
theorem fq_FS_33 : fx_fg "FrameSwapper" 33 0 3 := fx_fg_of fp_FS_33
theorem fp_FS_40 : fx_fw "FrameSwapper" 40 0 4 true := ⟨Rq_FS, Tq_FS, 5, tq_FS, rfl, lq_FS, by decide, fx_m1 335 (by decide +kernel), tq_FS_ok, nq_FS, rfl, fun _ => rfl, by decide, by decide, by decide, by decide⟩
theorem fq_FS_40 : fx_fg "FrameSwapper" 40 0 4 := fx_fg_of fp_FS_40
theorem fp_MO_126 : fx_fw "FrameSwapperModel" 126 10 0 false := ⟨Rq_MO, Tq_MO, 52, tq_MO, rfl, lq_MO, by decide, fx_m1 802 (by decide +kernel), tq_MO_ok, nq_MO, rfl, fun _ => rfl, by decide, by decide, by decide, by decide⟩
theorem fq_MO_126 : fx_fg "FrameSwapperModel" 126 10 0 := fx_fg_of fp_MO_126
theorem fp_MO_7 : fx_fw "FrameSwapperModel" 7 10 1 true := ⟨Rq_MO, Tq_MO, 52, tq_MO, rfl, lq_MO, by decide, fx_m1 803 (by decide +kernel), tq_MO_ok, nq_MO, rfl, fun _ => rfl, by decide, by decide, by decide, by decide⟩
theorem fq_MO_7 : fx_fg "FrameSwapperModel" 7 10 1 := fx_fg_of fp_MO_7
theorem fp_MO_13 : fx_fw "FrameSwapperModel" 13 10 2 true := ⟨Rq_MO, Tq_MO, 52, tq_MO, rfl, lq_MO, by decide, fx_m1 804 (by decide +kernel), tq_MO_ok, nq_MO, rfl, fun _ => rfl, by decide, by decide, by decide, by decide⟩
theorem fq_MO_13 : fx_fg "FrameSwapperModel" 13 10 2 := fx_fg_of fp_MO_13
theorem fp_MO_17 : fx_fw "FrameSwapperModel" 17 10 3 true := ⟨Rq_MO, Tq_MO, 52, tq_MO, rfl, lq_MO, by decide, fx_m1 805 (by decide +kernel), tq_MO_ok, nq_MO, rfl, fun _ => rfl, by decide, by decide, by decide, by decide⟩
theorem fq_MO_17 : fx_fg "FrameSwapperModel" 17 10 3 := fx_fg_of fp_MO_17
theorem fp_MO_20 : fx_fw "FrameSwapperModel" 20 10 4 true := ⟨Rq_MO, Tq_MO, 52, tq_MO, rfl, lq_MO, by decide, fx_m1 806 (by decide +kernel), tq_MO_ok, nq_MO, rfl, fun _ => rfl, by decide, by decide, by decide, by decide⟩
theorem fq_MO_20 : fx_fg "FrameSwapperModel" 20 10 4 := fx_fg_of fp_MO_20
theorem fp_MO_23 : fx_fw "FrameSwapperModel" 23 10 5 true := ⟨Rq_MO, Tq_MO, 52, tq_MO, rfl, lq_MO, by decide, fx_m1 807 (by decide +kernel), tq_MO_ok, nq_MO, rfl, fun _ => rfl, by decide, by decide, by decide, by decide⟩
theorem fq_MO_23 : fx_fg "FrameSwapperModel" 23 10 5 := fx_fg_of fp_MO_23
theorem fp_MO_26 : fx_fw "FrameSwapperModel" 26 10 6 true := ⟨Rq_MO, Tq_MO, 52, tq_MO, rfl, lq_MO, by decide, fx_m1 808 (by decide +kernel), tq_MO_ok, nq_MO, rfl, fun _ => rfl, by decide, by decide, by decide, by decide⟩
theorem fq_MO_26 : fx_fg "FrameSwapperModel" 26 10 6 := fx_fg_of fp_MO_26
theorem fp_MO_29 : fx_fw "FrameSwapperModel" 29 10 7 true := ⟨Rq_MO, Tq_MO, 52, tq_MO, rfl, lq_MO, by decide, fx_m1 809 (by decide +kernel), tq_MO_ok, nq_MO, rfl, fun _ => rfl, by decide, by decide, by decide, by decide⟩
theorem fq_MO_29 : fx_fg "FrameSwapperModel" 29 10 7 := fx_fg_of fp_MO_29
theorem fp_MO_32 : fx_fw "FrameSwapperModel" 32 10 8 true := ⟨Rq_MO, Tq_MO, 52, tq_MO, rfl, lq_MO, by decide, fx_m1 810 (by decide +kernel), tq_MO_ok, nq_MO, rfl, fun _ => rfl, by decide, by decide, by decide, by decide⟩
theorem fq_MO_32 : fx_fg "FrameSwapperModel" 32 10 8 := fx_fg_of fp_MO_32
theorem fp_MO_35 : fx_fw "FrameSwapperModel" 35 10 9 true := ⟨Rq_MO, Tq_MO, 52, tq_MO, rfl, lq_MO, by decide, fx_m1 811 (by decide +kernel), tq_MO_ok, nq_MO, rfl, fun _ => rfl, by decide, by decide, by decide, by decide⟩
theorem fq_MO_35 : fx_fg "FrameSwapperModel" 35 10 9 := fx_fg_of fp_MO_35
theorem fp_MO_38 : fx_fw "FrameSwapperModel" 38 10 10 true := ⟨Rq_MO, Tq_MO, 52, tq_MO, rfl, lq_MO, by decide, fx_m1 812 (by decide +kernel), tq_MO_ok, nq_MO, rfl, fun _ => rfl, by decide, by decide, by decide, by decide⟩
theorem fq_MO_38 : fx_fg "FrameSwapperModel" 38 10 10 := fx_fg_of fp_MO_38
theorem fp_MO_41 : fx_fw "FrameSwapperModel" 41 10 11 true := ⟨Rq_MO, Tq_MO, 52, tq_MO, rfl, lq_MO, by decide, fx_m1 813 (by decide +kernel), tq_MO_ok, nq_MO, rfl, fun _ => rfl, by decide, by decide, by decide, by decide⟩
theorem fq_MO_41 : fx_fg "FrameSwapperModel" 41 10 11 := fx_fg_of fp_MO_41
theorem fp_MO_44 : fx_fw "FrameSwapperModel" 44 10 12 true := ⟨Rq_MO, Tq_MO, 52, tq_MO, rfl, lq_MO, by decide, fx_m1 814 (by decide +kernel), tq_MO_ok, nq_MO, rfl, fun _ => rfl, by decide, by decide, by decide, by decide⟩
theorem fq_MO_44 : fx_fg "FrameSwapperModel" 44 10 12 := fx_fg_of fp_MO_44
theorem fp_MO_47 : fx_fw "FrameSwapperModel" 47 10 13 true := ⟨Rq_MO, Tq_MO, 52, tq_MO, rfl, lq_MO, by decide, fx_m1 815 (by decide +kernel), tq_MO_ok, nq_MO, rfl, fun _ => rfl, by decide, by decide, by decide, by decide⟩
theorem fq_MO_47 : fx_fg "FrameSwapperModel" 47 10 13 := fx_fg_of fp_MO_47
theorem fp_MO_50 : fx_fw "FrameSwapperModel" 50 10 14 true := ⟨Rq_MO, Tq_MO, 52, tq_MO, rfl, lq_MO, by decide, fx_m1 816 (by decide +kernel), tq_MO_ok, nq_MO, rfl, fun _ => rfl, by decide, by decide, by decide, by decide⟩
theorem fq_MO_50 : fx_fg "FrameSwapperModel" 50 10 14 := fx_fg_of fp_MO_50
theorem fp_MO_53 : fx_fw "FrameSwapperModel" 53 10 15 true := ⟨Rq_MO, Tq_MO, 52, tq_MO, rfl, lq_MO, by decide, fx_m1 817 (by decide +kernel), tq_MO_ok, nq_MO, rfl, fun _ => rfl, by decide, by decide, by decide, by decide⟩
theorem fq_MO_53 : fx_fg "FrameSwapperModel" 53 10 15 := fx_fg_of fp_MO_53
theorem fp_MO_56 : fx_fw "FrameSwapperModel" 56 10 16 true := ⟨Rq_MO, Tq_MO, 52, tq_MO, rfl, lq_MO, by decide, fx_m1 818 (by decide +kernel), tq_MO_ok, nq_MO, rfl, fun _ => rfl, by decide, by decide, by decide, by decide⟩
theorem fq_MO_56 : fx_fg "FrameSwapperModel" 56 10 16 := fx_fg_of fp_MO_56
theorem fp_MO_59 : fx_fw "FrameSwapperModel" 59 10 17 true := ⟨Rq_MO, Tq_MO, 52, tq_MO, rfl, lq_MO, by decide, fx_m1 819 (by decide +kernel), tq_MO_ok, nq_MO, rfl, fun _ => rfl, by decide, by decide, by decide, by decide⟩
theorem fq_MO_59 : fx_fg "FrameSwapperModel" 59 10 17 := fx_fg_of fp_MO_59
theorem fp_MO_62 : fx_fw "FrameSwapperModel" 62 10 18 true := ⟨Rq_MO, Tq_MO, 52, tq_MO, rfl, lq_MO, by decide, fx_m1 820 (by decide +kernel), tq_MO_ok, nq_MO, rfl, fun _ => rfl, by decide, by decide, by decide, by decide⟩
theorem fq_MO_62 : fx_fg "FrameSwapperModel" 62 10 18 := fx_fg_of fp_MO_62
theorem fp_MO_164 : fx_fw "FrameSwapperModel" 164 10 19 false := ⟨Rq_MO, Tq_MO, 52, tq_MO, rfl, lq_MO, by decide, fx_m1 821 (by decide +kernel), tq_MO_ok, nq_MO, rfl, fun _ => rfl, by decide, by decide, by decide, by decide⟩
theorem fq_MO_164 : fx_fg "FrameSwapperModel" 164 10 19 := fx_fg_of fp_MO_164
theorem fp_MO_167 : fx_fw "FrameSwapperModel" 167 10 20 false := ⟨Rq_MO, Tq_MO, 52, tq_MO, rfl, lq_MO, by decide, fx_m1 822 (by decide +kernel), tq_MO_ok, nq_MO, rfl, fun _ => rfl, by decide, by decide, by decide, by decide⟩
theorem fq_MO_167 : fx_fg "FrameSwapperModel" 167 10 20 := fx_fg_of fp_MO_167
theorem fp_MO_65 : fx_fw "FrameSwapperModel" 65 10 21 true := ⟨Rq_MO, Tq_MO, 52, tq_MO, rfl, lq_MO, by decide, fx_m1 823 (by decide +kernel), tq_MO_ok, nq_MO, rfl, fun _ => rfl, by decide, by decide, by decide, by decide⟩
theorem fq_MO_65 : fx_fg "FrameSwapperModel" 65 10 21 := fx_fg_of fp_MO_65
theorem fp_MO_216 : fx_fw "FrameSwapperModel" 216 10 22 false := ⟨Rq_MO, Tq_MO, 52, tq_MO, rfl, lq_MO, by decide, fx_m1 824 (by decide +kernel), tq_MO_ok, nq_MO, rfl, fun _ => rfl, by decide, by decide, by decide, by decide⟩
theorem fq_MO_216 : fx_fg "FrameSwapperModel" 216 10 22 := fx_fg_of fp_MO_216
theorem fp_MO_68 : fx_fw "FrameSwapperModel" 68 10 23 false := ⟨Rq_MO, Tq_MO, 52, tq_MO, rfl, lq_MO, by decide, fx_m1 825 (by decide +kernel), tq_MO_ok, nq_MO, rfl, fun _ => rfl, by decide, by decide, by decide, by decide⟩
theorem fq_MO_68 : fx_fg "FrameSwapperModel" 68 10 23 := fx_fg_of fp_MO_68
theorem fp_MO_72 : fx_fw "FrameSwapperModel" 72 10 24 true := ⟨Rq_MO, Tq_MO, 52, tq_MO, rfl, lq_MO, by decide, fx_m1 826 (by decide +kernel), tq_MO_ok, nq_MO, rfl, fun _ => rfl, by decide, by decide, by decide, by decide⟩
theorem fq_MO_72 : fx_fg "FrameSwapperModel" 72 10 24 := fx_fg_of fp_MO_72
theorem fp_MO_75 : fx_fw "FrameSwapperModel" 75 10 25 true := ⟨Rq_MO, Tq_MO, 52, tq_MO, rfl, lq_MO, by decide, fx_m1 827 (by decide +kernel), tq_MO_ok, nq_MO, rfl, fun _ => rfl, by decide, by decide, by decide, by decide⟩
theorem fq_MO_75 : fx_fg "FrameSwapperModel" 75 10 25 := fx_fg_of fp_MO_75
theorem fp_MO_78 : fx_fw "FrameSwapperModel" 78 10 26 true := ⟨Rq_MO, Tq_MO, 52, tq_MO, rfl, lq_MO, by decide, fx_m1 828 (by decide +kernel), tq_MO_ok, nq_MO, rfl, fun _ => rfl, by decide, by decide, by decide, by decide⟩
theorem fq_MO_78 : fx_fg "FrameSwapperModel" 78 10 26 := fx_fg_of fp_MO_78
theorem fp_MO_81 : fx_fw "FrameSwapperModel" 81 10 27 true := ⟨Rq_MO, Tq_MO, 52, tq_MO, rfl, lq_MO, by decide, fx_m1 829 (by decide +kernel), tq_MO_ok, nq_MO, rfl, fun _ => rfl, by decide, by decide, by decide, by decide⟩
theorem fq_MO_81 : fx_fg "FrameSwapperModel" 81 10 27 := fx_fg_of fp_MO_81
theorem fp_MO_84 : fx_fw "FrameSwapperModel" 84 10 28 true := ⟨Rq_MO, Tq_MO, 52, tq_MO, rfl, lq_MO, by decide, fx_m1 830 (by decide +kernel), tq_MO_ok, nq_MO, rfl, fun _ => rfl, by decide, by decide, by decide, by decide⟩
theorem fq_MO_84 : fx_fg "FrameSwapperModel" 84 10 28 := fx_fg_of fp_MO_84
theorem fp_MO_87 : fx_fw "FrameSwapperModel" 87 10 29 true := ⟨Rq_MO, Tq_MO, 52, tq_MO, rfl, lq_MO, by decide, fx_m1 831 (by decide +kernel), tq_MO_ok, nq_MO, rfl, fun _ => rfl, by decide, by decide, by decide, by decide⟩
theorem fq_MO_87 : fx_fg "FrameSwapperModel" 87 10 29 := fx_fg_of fp_MO_87
theorem fp_MO_90 : fx_fw "FrameSwapperModel" 90 10 30 true := ⟨Rq_MO, Tq_MO, 52, tq_MO, rfl, lq_MO, by decide, fx_m1 832 (by decide +kernel), tq_MO_ok, nq_MO, rfl, fun _ => rfl, by decide, by decide, by decide, by decide⟩
theorem fq_MO_90 : fx_fg "FrameSwapperModel" 90 10 30 := fx_fg_of fp_MO_90
theorem fp_MO_219 : fx_fw "FrameSwapperModel" 219 10 31 false := ⟨Rq_MO, Tq_MO, 52, tq_MO, rfl, lq_MO, by decide, fx_m1 833 (by decide +kernel), tq_MO_ok, nq_MO, rfl, fun _ => rfl, by decide, by decide, by decide, by decide⟩
theorem fq_MO_219 : fx_fg "FrameSwapperModel" 219 10 31 := fx_fg_of fp_MO_219
theorem fp_MO_222 : fx_fw "FrameSwapperModel" 222 10 32 false := ⟨Rq_MO, Tq_MO, 52, tq_MO, rfl, lq_MO, by decide, fx_m1 834 (by decide +kernel), tq_MO_ok, nq_MO, rfl, fun _ => rfl, by decide, by decide, by decide, by decide⟩
theorem fq_MO_222 : fx_fg "FrameSwapperModel" 222 10 32 := fx_fg_of fp_MO_222
theorem fp_MO_93 : fx_fw "FrameSwapperModel" 93 10 33 true := ⟨Rq_MO, Tq_MO, 52, tq_MO, rfl, lq_MO, by decide, fx_m1 835 (by decide +kernel), tq_MO_ok, nq_MO, rfl, fun _ => rfl, by decide, by decide, by decide, by decide⟩
theorem fq_MO_93 : fx_fg "FrameSwapperModel" 93 10 33 := fx_fg_of fp_MO_93
theorem fp_MO_96 : fx_fw "FrameSwapperModel" 96 10 34 true := ⟨Rq_MO, Tq_MO, 52, tq_MO, rfl, lq_MO, by decide, fx_m1 836 (by decide +kernel), tq_MO_ok, nq_MO, rfl, fun _ => rfl, by decide, by decide, by decide, by decide⟩
theorem fq_MO_96 : fx_fg "FrameSwapperModel" 96 10 34 := fx_fg_of fp_MO_96
theorem fp_MO_99 : fx_fw "FrameSwapperModel" 99 10 35 true := ⟨Rq_MO, Tq_MO, 52, tq_MO, rfl, lq_MO, by decide, fx_m1 837 (by decide +kernel), tq_MO_ok, nq_MO, rfl, fun _ => rfl, by decide, by decide, by decide, by decide⟩
theorem fq_MO_99 : fx_fg "FrameSwapperModel" 99 10 35 := fx_fg_of fp_MO_99
theorem fp_MO_102 : fx_fw "FrameSwapperModel" 102 10 36 true := ⟨Rq_MO, Tq_MO, 52, tq_MO, rfl, lq_MO, by decide, fx_m1 838 (by decide +kernel), tq_MO_ok, nq_MO, rfl, fun _ => rfl, by decide, by decide, by decide, by decide⟩
theorem fq_MO_102 : fx_fg "FrameSwapperModel" 102 10 36 := fx_fg_of fp_MO_102
theorem fp_MO_105 : fx_fw "FrameSwapperModel" 105 10 37 true := ⟨Rq_MO, Tq_MO, 52, tq_MO, rfl, lq_MO, by decide, fx_m1 839 (by decide +kernel), tq_MO_ok, nq_MO, rfl, fun _ => rfl, by decide, by decide, by decide, by decide⟩
theorem fq_MO_105 : fx_fg "FrameSwapperModel" 105 10 37 := fx_fg_of fp_MO_105
theorem fp_MO_141 : fx_fw "FrameSwapperModel" 141 10 38 false := ⟨Rq_MO, Tq_MO, 52, tq_MO, rfl, lq_MO, by decide, fx_m1 840 (by decide +kernel), tq_MO_ok, nq_MO, rfl, fun _ => rfl, by decide, by decide, by decide, by decide⟩
theorem fq_MO_141 : fx_fg "FrameSwapperModel" 141 10 38 := fx_fg_of fp_MO_141
theorem fp_MO_147 : fx_fw "FrameSwapperModel" 147 10 39 false := ⟨Rq_MO, Tq_MO, 52, tq_MO, rfl, lq_MO, by decide, fx_m1 841 (by decide +kernel), tq_MO_ok, nq_MO, rfl, fun _ => rfl, by decide, by decide, by decide, by decide⟩
theorem fq_MO_147 : fx_fg "FrameSwapperModel" 147 10 39 := fx_fg_of fp_MO_147
theorem fp_MO_144 : fx_fw "FrameSwapperModel" 144 10 40 false := ⟨Rq_MO, Tq_MO, 52, tq_MO, rfl, lq_MO, by decide, fx_m1 842 (by decide +kernel), tq_MO_ok, nq_MO, rfl, fun _ => rfl, by decide, by decide, by decide, by decide⟩
theorem fq_MO_144 : fx_fg "FrameSwapperModel" 144 10 40 := fx_fg_of fp_MO_144
theorem fp_MO_150 : fx_fw "FrameSwapperModel" 150 10 41 false := ⟨Rq_MO, Tq_MO, 52, tq_MO, rfl, lq_MO, by decide, fx_m1 843 (by decide +kernel), tq_MO_ok, nq_MO, rfl, fun _ => rfl, by decide, by decide, by decide, by decide⟩
theorem fq_MO_150 : fx_fg "FrameSwapperModel" 150 10 41 := fx_fg_of fp_MO_150
theorem fp_MO_256 : fx_fw "FrameSwapperModel" 256 10 42 false := ⟨Rq_MO, Tq_MO, 52, tq_MO, rfl, lq_MO, by decide, fx_m1 844 (by decide +kernel), tq_MO_ok, nq_MO, rfl, fun _ => rfl, by decide, by decide, by decide, by decide⟩
theorem fq_MO_256 : fx_fg "FrameSwapperModel" 256 10 42 := fx_fg_of fp_MO_256
theorem fp_MO_253 : fx_fw "FrameSwapperModel" 253 10 43 false := ⟨Rq_MO, Tq_MO, 52, tq_MO, rfl, lq_MO, by decide, fx_m1 845 (by decide +kernel), tq_MO_ok, nq_MO, rfl, fun _ => rfl, by decide, by decide, by decide, by decide⟩
theorem fq_MO_253 : fx_fg "FrameSwapperModel" 253 10 43 := fx_fg_of fp_MO_253
theorem fp_MO_247 : fx_fw "FrameSwapperModel" 247 10 44 false := ⟨Rq_MO, Tq_MO, 52, tq_MO, rfl, lq_MO, by decide, fx_m1 846 (by decide +kernel), tq_MO_ok, nq_MO, rfl, fun _ => rfl, by decide, by decide, by decide, by decide⟩
theorem fq_MO_247 : fx_fg "FrameSwapperModel" 247 10 44 := fx_fg_of fp_MO_247
theorem fp_MO_250 : fx_fw "FrameSwapperModel" 250 10 45 false := ⟨Rq_MO, Tq_MO, 52, tq_MO, rfl, lq_MO, by decide, fx_m1 847 (by decide +kernel), tq_MO_ok, nq_MO, rfl, fun _ => rfl, by decide, by decide, by decide, by decide⟩
theorem fq_MO_250 : fx_fg "FrameSwapperModel" 250 10 45 := fx_fg_of fp_MO_250
theorem fp_MO_108 : fx_fw "FrameSwapperModel" 108 10 46 true := ⟨Rq_MO, Tq_MO, 52, tq_MO, rfl, lq_MO, by decide, fx_m1 848 (by decide +kernel), tq_MO_ok, nq_MO, rfl, fun _ => rfl, by decide, by decide, by decide, by decide⟩
theorem fq_MO_108 : fx_fg "FrameSwapperModel" 108 10 46 := fx_fg_of fp_MO_108
theorem fp_MO_111 : fx_fw "FrameSwapperModel" 111 10 47 true := ⟨Rq_MO, Tq_MO, 52, tq_MO, rfl, lq_MO, by decide, fx_m1 849 (by decide +kernel), tq_MO_ok, nq_MO, rfl, fun _ => rfl, by decide, by decide, by decide, by decide⟩
theorem fq_MO_111 : fx_fg "FrameSwapperModel" 111 10 47 := fx_fg_of fp_MO_111
theorem fp_MO_114 : fx_fw "FrameSwapperModel" 114 10 48 true := ⟨Rq_MO, Tq_MO, 52, tq_MO, rfl, lq_MO, by decide, fx_m1 850 (by decide +kernel), tq_MO_ok, nq_MO, rfl, fun _ => rfl, by decide, by decide, by decide, by decide⟩
theorem fq_MO_114 : fx_fg "FrameSwapperModel" 114 10 48 := fx_fg_of fp_MO_114
theorem fp_MO_117 : fx_fw "FrameSwapperModel" 117 10 49 true := ⟨Rq_MO, Tq_MO, 52, tq_MO, rfl, lq_MO, by decide, fx_m1 851 (by decide +kernel), tq_MO_ok, nq_MO, rfl, fun _ => rfl, by decide, by decide, by decide, by decide⟩
theorem fq_MO_117 : fx_fg "FrameSwapperModel" 117 10 49 := fx_fg_of fp_MO_117
theorem fp_MO_120 : fx_fw "FrameSwapperModel" 120 10 50 true := ⟨Rq_MO, Tq_MO, 52, tq_MO, rfl, lq_MO, by decide, fx_m1 852 (by decide +kernel), tq_MO_ok, nq_MO, rfl, fun _ => rfl, by decide, by decide, by decide, by decide⟩
theorem fq_MO_120 : fx_fg "FrameSwapperModel" 120 10 50 := fx_fg_of fp_MO_120
theorem fp_MO_123 : fx_fw "FrameSwapperModel" 123 10 51 true := ⟨Rq_MO, Tq_MO, 52, tq_MO, rfl, lq_MO, by decide, fx_m1 853 (by decide +kernel), tq_MO_ok, nq_MO, rfl, fun _ => rfl, by decide, by decide, by decide, by decide⟩
theorem fq_MO_123 : fx_fg "FrameSwapperModel" 123 10 51 := fx_fg_of fp_MO_123
end
