section
-- ===== PART A: goes FIRST, ahead of the names: the tables' words, and 'selects' of the private methods out of them =====
/-- a private method of a class that the tables say can be made, by its rows of tables_1 -/
def lw_okq (q : MethodName × Nat) : Prop := (q.1.cls ≠ "java/lang/invoke/MethodHandle" ∧ q.1.cls ≠ "java/lang/invoke/VarHandle") ∧ Cond.instantiable q.1.cls q.2 ∈ tables_1 ∧ Cond.privateMethod q.1 ∈ tables_1 ∧ Cond.instanceMethod q.1 ∈ tables_1
theorem lw_p0 : lw_okq (⟨"java/lang/Throwable", "fillInStackTrace", "(I)Ljava/lang/Throwable;"⟩, 6) := ⟨⟨by decide +kernel, by decide +kernel⟩, List.mem_of_getElem? (i := 489) (by decide +kernel), List.mem_of_getElem? (i := 487) (by decide +kernel), List.mem_of_getElem? (i := 488) (by decide +kernel)⟩
theorem lw_p1 : lw_okq (⟨"FrameSwapper$Composer", "rememberBefore", "()V"⟩, 11) := ⟨⟨by decide +kernel, by decide +kernel⟩, List.mem_of_getElem? (i := 189) (by decide +kernel), List.mem_of_getElem? (i := 689) (by decide +kernel), List.mem_of_getElem? (i := 690) (by decide +kernel)⟩
theorem lw_p2 : lw_okq (⟨"FrameSwapper$Planes", "isFit", "(LFrameSwapper$Pile;I)Z"⟩, 3) := ⟨⟨by decide +kernel, by decide +kernel⟩, List.mem_of_getElem? (i := 197) (by decide +kernel), List.mem_of_getElem? (i := 709) (by decide +kernel), List.mem_of_getElem? (i := 710) (by decide +kernel)⟩
theorem lw_p3 : lw_okq (⟨"FrameSwapper$Planes", "give", "(IILFrameSwapper$Picture;)V"⟩, 3) := ⟨⟨by decide +kernel, by decide +kernel⟩, List.mem_of_getElem? (i := 197) (by decide +kernel), List.mem_of_getElem? (i := 722) (by decide +kernel), List.mem_of_getElem? (i := 723) (by decide +kernel)⟩
theorem lw_p4 : lw_okq (⟨"FrameSwapper$Composer", "noteChanges", "(LFrameSwapper$Desk;)V"⟩, 11) := ⟨⟨by decide +kernel, by decide +kernel⟩, List.mem_of_getElem? (i := 189) (by decide +kernel), List.mem_of_getElem? (i := 727) (by decide +kernel), List.mem_of_getElem? (i := 728) (by decide +kernel)⟩
theorem lw_p5 : lw_okq (⟨"FrameSwapper$Misses", "isCovered", "(LFrameSwapper$Rectangle;)Z"⟩, 2) := ⟨⟨by decide +kernel, by decide +kernel⟩, List.mem_of_getElem? (i := 226) (by decide +kernel), List.mem_of_getElem? (i := 740) (by decide +kernel), List.mem_of_getElem? (i := 741) (by decide +kernel)⟩
theorem lw_p6 : lw_okq (⟨"FrameSwapper$Misses", "joinNearest", "()V"⟩, 2) := ⟨⟨by decide +kernel, by decide +kernel⟩, List.mem_of_getElem? (i := 226) (by decide +kernel), List.mem_of_getElem? (i := 749) (by decide +kernel), List.mem_of_getElem? (i := 750) (by decide +kernel)⟩
theorem lw_p7 : lw_okq (⟨"FrameSwapper$Misses", "dropAt", "(I)V"⟩, 2) := ⟨⟨by decide +kernel, by decide +kernel⟩, List.mem_of_getElem? (i := 226) (by decide +kernel), List.mem_of_getElem? (i := 761) (by decide +kernel), List.mem_of_getElem? (i := 762) (by decide +kernel)⟩
theorem lw_p8 : lw_okq (⟨"FrameSwapper$Composer", "startHole", "(I)V"⟩, 11) := ⟨⟨by decide +kernel, by decide +kernel⟩, List.mem_of_getElem? (i := 189) (by decide +kernel), List.mem_of_getElem? (i := 769) (by decide +kernel), List.mem_of_getElem? (i := 770) (by decide +kernel)⟩
theorem lw_p9 : lw_okq (⟨"FrameSwapper$Composer", "makeStep", "()V"⟩, 11) := ⟨⟨by decide +kernel, by decide +kernel⟩, List.mem_of_getElem? (i := 189) (by decide +kernel), List.mem_of_getElem? (i := 777) (by decide +kernel), List.mem_of_getElem? (i := 778) (by decide +kernel)⟩
theorem lw_p10 : lw_okq (⟨"FrameSwapper$Composer", "nextLevel", "(LFrameSwapper$Rectangle;)I"⟩, 11) := ⟨⟨by decide +kernel, by decide +kernel⟩, List.mem_of_getElem? (i := 189) (by decide +kernel), List.mem_of_getElem? (i := 792) (by decide +kernel), List.mem_of_getElem? (i := 793) (by decide +kernel)⟩
theorem lw_p11 : lw_okq (⟨"FrameSwapperModel", "freePixels", "()I"⟩, 52) := ⟨⟨by decide +kernel, by decide +kernel⟩, List.mem_of_getElem? (i := 797) (by decide +kernel), List.mem_of_getElem? (i := 971) (by decide +kernel), List.mem_of_getElem? (i := 972) (by decide +kernel)⟩
theorem lw_p12 : lw_okq (⟨"FrameSwapperModel", "hasDraft", "(I)Z"⟩, 52) := ⟨⟨by decide +kernel, by decide +kernel⟩, List.mem_of_getElem? (i := 797) (by decide +kernel), List.mem_of_getElem? (i := 979) (by decide +kernel), List.mem_of_getElem? (i := 980) (by decide +kernel)⟩
theorem lw_p13 : lw_okq (⟨"FrameSwapperModel", "has", "(III)Z"⟩, 52) := ⟨⟨by decide +kernel, by decide +kernel⟩, List.mem_of_getElem? (i := 797) (by decide +kernel), List.mem_of_getElem? (i := 999) (by decide +kernel), List.mem_of_getElem? (i := 1000) (by decide +kernel)⟩
theorem lw_p14 : lw_okq (⟨"FrameSwapperModel", "isCopy", "(IIII)Z"⟩, 52) := ⟨⟨by decide +kernel, by decide +kernel⟩, List.mem_of_getElem? (i := 797) (by decide +kernel), List.mem_of_getElem? (i := 1011) (by decide +kernel), List.mem_of_getElem? (i := 1012) (by decide +kernel)⟩
theorem lw_p15 : lw_okq (⟨"FrameSwapperModel", "copyPicture", "(II)V"⟩, 52) := ⟨⟨by decide +kernel, by decide +kernel⟩, List.mem_of_getElem? (i := 797) (by decide +kernel), List.mem_of_getElem? (i := 1019) (by decide +kernel), List.mem_of_getElem? (i := 1020) (by decide +kernel)⟩
def lw_privs_1 : List (MethodName × Nat) := [(⟨"java/lang/Throwable", "fillInStackTrace", "(I)Ljava/lang/Throwable;"⟩, 6), (⟨"FrameSwapper$Composer", "rememberBefore", "()V"⟩, 11), (⟨"FrameSwapper$Planes", "isFit", "(LFrameSwapper$Pile;I)Z"⟩, 3), (⟨"FrameSwapper$Planes", "give", "(IILFrameSwapper$Picture;)V"⟩, 3), (⟨"FrameSwapper$Composer", "noteChanges", "(LFrameSwapper$Desk;)V"⟩, 11), (⟨"FrameSwapper$Misses", "isCovered", "(LFrameSwapper$Rectangle;)Z"⟩, 2), (⟨"FrameSwapper$Misses", "joinNearest", "()V"⟩, 2), (⟨"FrameSwapper$Misses", "dropAt", "(I)V"⟩, 2), (⟨"FrameSwapper$Composer", "startHole", "(I)V"⟩, 11), (⟨"FrameSwapper$Composer", "makeStep", "()V"⟩, 11), (⟨"FrameSwapper$Composer", "nextLevel", "(LFrameSwapper$Rectangle;)I"⟩, 11), (⟨"FrameSwapperModel", "freePixels", "()I"⟩, 52), (⟨"FrameSwapperModel", "hasDraft", "(I)Z"⟩, 52), (⟨"FrameSwapperModel", "has", "(III)Z"⟩, 52), (⟨"FrameSwapperModel", "isCopy", "(IIII)Z"⟩, 52), (⟨"FrameSwapperModel", "copyPicture", "(II)V"⟩, 52)]
theorem lw_r1 : ∀ q ∈ lw_privs_1, lw_okq q := List.forall_mem_cons.mpr ⟨lw_p0, List.forall_mem_cons.mpr ⟨lw_p1, List.forall_mem_cons.mpr ⟨lw_p2, List.forall_mem_cons.mpr ⟨lw_p3, List.forall_mem_cons.mpr ⟨lw_p4, List.forall_mem_cons.mpr ⟨lw_p5, List.forall_mem_cons.mpr ⟨lw_p6, List.forall_mem_cons.mpr ⟨lw_p7, List.forall_mem_cons.mpr ⟨lw_p8, List.forall_mem_cons.mpr ⟨lw_p9, List.forall_mem_cons.mpr ⟨lw_p10, List.forall_mem_cons.mpr ⟨lw_p11, List.forall_mem_cons.mpr ⟨lw_p12, List.forall_mem_cons.mpr ⟨lw_p13, List.forall_mem_cons.mpr ⟨lw_p14, List.forall_mem_cons.mpr ⟨lw_p15, fun _ h => absurd h List.not_mem_nil⟩⟩⟩⟩⟩⟩⟩⟩⟩⟩⟩⟩⟩⟩⟩⟩
theorem lw_p16 : lw_okq (⟨"FrameSwapperModel", "begin", "()V"⟩, 52) := ⟨⟨by decide +kernel, by decide +kernel⟩, List.mem_of_getElem? (i := 797) (by decide +kernel), List.mem_of_getElem? (i := 1027) (by decide +kernel), List.mem_of_getElem? (i := 1028) (by decide +kernel)⟩
theorem lw_p17 : lw_okq (⟨"FrameSwapperModel", "show", "(I)V"⟩, 52) := ⟨⟨by decide +kernel, by decide +kernel⟩, List.mem_of_getElem? (i := 797) (by decide +kernel), List.mem_of_getElem? (i := 1031) (by decide +kernel), List.mem_of_getElem? (i := 1032) (by decide +kernel)⟩
theorem lw_p18 : lw_okq (⟨"FrameSwapperModel", "cut", "(IIII)V"⟩, 52) := ⟨⟨by decide +kernel, by decide +kernel⟩, List.mem_of_getElem? (i := 797) (by decide +kernel), List.mem_of_getElem? (i := 1035) (by decide +kernel), List.mem_of_getElem? (i := 1036) (by decide +kernel)⟩
theorem lw_p19 : lw_okq (⟨"FrameSwapperModel", "isPlane", "(I)Z"⟩, 52) := ⟨⟨by decide +kernel, by decide +kernel⟩, List.mem_of_getElem? (i := 797) (by decide +kernel), List.mem_of_getElem? (i := 1039) (by decide +kernel), List.mem_of_getElem? (i := 1040) (by decide +kernel)⟩
theorem lw_p20 : lw_okq (⟨"FrameSwapperModel", "choosePlanes", "()V"⟩, 52) := ⟨⟨by decide +kernel, by decide +kernel⟩, List.mem_of_getElem? (i := 797) (by decide +kernel), List.mem_of_getElem? (i := 1043) (by decide +kernel), List.mem_of_getElem? (i := 1044) (by decide +kernel)⟩
theorem lw_p21 : lw_okq (⟨"FrameSwapperModel", "nth", "(II)I"⟩, 52) := ⟨⟨by decide +kernel, by decide +kernel⟩, List.mem_of_getElem? (i := 797) (by decide +kernel), List.mem_of_getElem? (i := 1047) (by decide +kernel), List.mem_of_getElem? (i := 1048) (by decide +kernel)⟩
theorem lw_p22 : lw_okq (⟨"FrameSwapperModel", "isAbove", "(II)Z"⟩, 52) := ⟨⟨by decide +kernel, by decide +kernel⟩, List.mem_of_getElem? (i := 797) (by decide +kernel), List.mem_of_getElem? (i := 1051) (by decide +kernel), List.mem_of_getElem? (i := 1052) (by decide +kernel)⟩
theorem lw_p23 : lw_okq (⟨"FrameSwapperModel", "miss", "()V"⟩, 52) := ⟨⟨by decide +kernel, by decide +kernel⟩, List.mem_of_getElem? (i := 797) (by decide +kernel), List.mem_of_getElem? (i := 1055) (by decide +kernel), List.mem_of_getElem? (i := 1056) (by decide +kernel)⟩
theorem lw_p24 : lw_okq (⟨"FrameSwapperModel", "lies", "(II)Z"⟩, 52) := ⟨⟨by decide +kernel, by decide +kernel⟩, List.mem_of_getElem? (i := 797) (by decide +kernel), List.mem_of_getElem? (i := 1059) (by decide +kernel), List.mem_of_getElem? (i := 1060) (by decide +kernel)⟩
theorem lw_p25 : lw_okq (⟨"FrameSwapperModel", "join", "(I)V"⟩, 52) := ⟨⟨by decide +kernel, by decide +kernel⟩, List.mem_of_getElem? (i := 797) (by decide +kernel), List.mem_of_getElem? (i := 1063) (by decide +kernel), List.mem_of_getElem? (i := 1064) (by decide +kernel)⟩
theorem lw_p26 : lw_okq (⟨"FrameSwapperModel", "hullWide", "(II)I"⟩, 52) := ⟨⟨by decide +kernel, by decide +kernel⟩, List.mem_of_getElem? (i := 797) (by decide +kernel), List.mem_of_getElem? (i := 1068) (by decide +kernel), List.mem_of_getElem? (i := 1069) (by decide +kernel)⟩
theorem lw_p27 : lw_okq (⟨"FrameSwapperModel", "hullHigh", "(II)I"⟩, 52) := ⟨⟨by decide +kernel, by decide +kernel⟩, List.mem_of_getElem? (i := 797) (by decide +kernel), List.mem_of_getElem? (i := 1072) (by decide +kernel), List.mem_of_getElem? (i := 1073) (by decide +kernel)⟩
theorem lw_p28 : lw_okq (⟨"FrameSwapperModel", "findStep", "()V"⟩, 52) := ⟨⟨by decide +kernel, by decide +kernel⟩, List.mem_of_getElem? (i := 797) (by decide +kernel), List.mem_of_getElem? (i := 1076) (by decide +kernel), List.mem_of_getElem? (i := 1077) (by decide +kernel)⟩
theorem lw_p29 : lw_okq (⟨"FrameSwapperModel", "meet", "(I)V"⟩, 52) := ⟨⟨by decide +kernel, by decide +kernel⟩, List.mem_of_getElem? (i := 797) (by decide +kernel), List.mem_of_getElem? (i := 1080) (by decide +kernel), List.mem_of_getElem? (i := 1081) (by decide +kernel)⟩
theorem lw_p30 : lw_okq (⟨"FrameSwapperModel", "make", "()V"⟩, 52) := ⟨⟨by decide +kernel, by decide +kernel⟩, List.mem_of_getElem? (i := 797) (by decide +kernel), List.mem_of_getElem? (i := 1084) (by decide +kernel), List.mem_of_getElem? (i := 1085) (by decide +kernel)⟩
theorem lw_p31 : lw_okq (⟨"FrameSwapperModel", "paint", "(I)V"⟩, 52) := ⟨⟨by decide +kernel, by decide +kernel⟩, List.mem_of_getElem? (i := 797) (by decide +kernel), List.mem_of_getElem? (i := 1088) (by decide +kernel), List.mem_of_getElem? (i := 1089) (by decide +kernel)⟩
def lw_privs_2 : List (MethodName × Nat) := [(⟨"FrameSwapperModel", "begin", "()V"⟩, 52), (⟨"FrameSwapperModel", "show", "(I)V"⟩, 52), (⟨"FrameSwapperModel", "cut", "(IIII)V"⟩, 52), (⟨"FrameSwapperModel", "isPlane", "(I)Z"⟩, 52), (⟨"FrameSwapperModel", "choosePlanes", "()V"⟩, 52), (⟨"FrameSwapperModel", "nth", "(II)I"⟩, 52), (⟨"FrameSwapperModel", "isAbove", "(II)Z"⟩, 52), (⟨"FrameSwapperModel", "miss", "()V"⟩, 52), (⟨"FrameSwapperModel", "lies", "(II)Z"⟩, 52), (⟨"FrameSwapperModel", "join", "(I)V"⟩, 52), (⟨"FrameSwapperModel", "hullWide", "(II)I"⟩, 52), (⟨"FrameSwapperModel", "hullHigh", "(II)I"⟩, 52), (⟨"FrameSwapperModel", "findStep", "()V"⟩, 52), (⟨"FrameSwapperModel", "meet", "(I)V"⟩, 52), (⟨"FrameSwapperModel", "make", "()V"⟩, 52), (⟨"FrameSwapperModel", "paint", "(I)V"⟩, 52)]
theorem lw_r2 : ∀ q ∈ lw_privs_2, lw_okq q := List.forall_mem_cons.mpr ⟨lw_p16, List.forall_mem_cons.mpr ⟨lw_p17, List.forall_mem_cons.mpr ⟨lw_p18, List.forall_mem_cons.mpr ⟨lw_p19, List.forall_mem_cons.mpr ⟨lw_p20, List.forall_mem_cons.mpr ⟨lw_p21, List.forall_mem_cons.mpr ⟨lw_p22, List.forall_mem_cons.mpr ⟨lw_p23, List.forall_mem_cons.mpr ⟨lw_p24, List.forall_mem_cons.mpr ⟨lw_p25, List.forall_mem_cons.mpr ⟨lw_p26, List.forall_mem_cons.mpr ⟨lw_p27, List.forall_mem_cons.mpr ⟨lw_p28, List.forall_mem_cons.mpr ⟨lw_p29, List.forall_mem_cons.mpr ⟨lw_p30, List.forall_mem_cons.mpr ⟨lw_p31, fun _ h => absurd h List.not_mem_nil⟩⟩⟩⟩⟩⟩⟩⟩⟩⟩⟩⟩⟩⟩⟩⟩
theorem lw_p32 : lw_okq (⟨"FrameSwapperModel", "pixelOf", "(III)I"⟩, 52) := ⟨⟨by decide +kernel, by decide +kernel⟩, List.mem_of_getElem? (i := 797) (by decide +kernel), List.mem_of_getElem? (i := 1092) (by decide +kernel), List.mem_of_getElem? (i := 1093) (by decide +kernel)⟩
theorem lw_p33 : lw_okq (⟨"FrameSwapperModel", "look", "()V"⟩, 52) := ⟨⟨by decide +kernel, by decide +kernel⟩, List.mem_of_getElem? (i := 797) (by decide +kernel), List.mem_of_getElem? (i := 1106) (by decide +kernel), List.mem_of_getElem? (i := 1107) (by decide +kernel)⟩
theorem lw_p34 : lw_okq (⟨"FrameSwapperModel", "change", "()V"⟩, 52) := ⟨⟨by decide +kernel, by decide +kernel⟩, List.mem_of_getElem? (i := 797) (by decide +kernel), List.mem_of_getElem? (i := 1110) (by decide +kernel), List.mem_of_getElem? (i := 1111) (by decide +kernel)⟩
def lw_privs_3 : List (MethodName × Nat) := [(⟨"FrameSwapperModel", "pixelOf", "(III)I"⟩, 52), (⟨"FrameSwapperModel", "look", "()V"⟩, 52), (⟨"FrameSwapperModel", "change", "()V"⟩, 52)]
theorem lw_r3 : ∀ q ∈ lw_privs_3, lw_okq q := List.forall_mem_cons.mpr ⟨lw_p32, List.forall_mem_cons.mpr ⟨lw_p33, List.forall_mem_cons.mpr ⟨lw_p34, fun _ h => absurd h List.not_mem_nil⟩⟩⟩
def lw_privs : List (MethodName × Nat) := lw_privs_1 ++ (lw_privs_2 ++ (lw_privs_3))
def lw_tbl : List Cond := k2_sels lw_privs ++ tables_1
theorem lw_privs_ok : ∀ q ∈ lw_privs, lw_okq q := by
  show ∀ q ∈ lw_privs_1 ++ (lw_privs_2 ++ (lw_privs_3)), lw_okq q
  exact List.forall_mem_append.mpr ⟨lw_r1, List.forall_mem_append.mpr ⟨lw_r2, lw_r3⟩⟩
end
section
/-! ===== classes and their fields ===== -/
def Rq_FS : String := "FrameSwapper"
def Tq_FS : u_T := fun k => match k with
  | 0 => ("FrameSwapper", "desk", "LFrameSwapper$Desk;", true)
  | 1 => ("FrameSwapper", "composer", "LFrameSwapper$Composer;", true)
  | 2 => ("FrameSwapper", "beam", "LFrameSwapper$Beam;", true)
  | 3 => ("FrameSwapper", "area", "LFrameSwapper$Rectangle;", true)
  | _ => ("FrameSwapper", "carried", "LFrameSwapper$Picture;", true)
def tq_FS : Nat → FieldType := fun k => match k with
  | 0 => .object "FrameSwapper$Desk"
  | 1 => .object "FrameSwapper$Composer"
  | 2 => .object "FrameSwapper$Beam"
  | 3 => .object "FrameSwapper$Rectangle"
  | _ => .object "FrameSwapper$Picture"
theorem nq_FS : ∀ a, a < 5 → ∀ b, b < 5 → a ≠ b → (Tq_FS a).2.1 ≠ (Tq_FS b).2.1 := by decide +kernel
theorem tq_FS_ok : ∀ k, k < 5 → parseFieldDescriptor (Tq_FS k).2.2.1 = some (tq_FS k) := by decide +kernel
def Rq_RE : String := "FrameSwapper$Rectangle"
def Tq_RE : u_T := fun k => match k with
  | 0 => ("FrameSwapper$Rectangle", "x", "I", false)
  | 1 => ("FrameSwapper$Rectangle", "y", "I", false)
  | 2 => ("FrameSwapper$Rectangle", "columns", "I", false)
  | _ => ("FrameSwapper$Rectangle", "rows", "I", false)
def tq_RE : Nat → FieldType := fun k => match k with
  | 0 => .int
  | 1 => .int
  | 2 => .int
  | _ => .int
theorem nq_RE : ∀ a, a < 4 → ∀ b, b < 4 → a ≠ b → (Tq_RE a).2.1 ≠ (Tq_RE b).2.1 := by decide +kernel
theorem tq_RE_ok : ∀ k, k < 4 → parseFieldDescriptor (Tq_RE k).2.2.1 = some (tq_RE k) := by decide +kernel
def Rq_PI : String := "FrameSwapper$Picture"
def Tq_PI : u_T := fun k => match k with
  | 0 => ("FrameSwapper$Picture", "isThere", "Z", false)
  | 1 => ("FrameSwapper$Picture", "columns", "I", false)
  | 2 => ("FrameSwapper$Picture", "rows", "I", false)
  | 3 => ("FrameSwapper$Picture", "x", "I", false)
  | 4 => ("FrameSwapper$Picture", "y", "I", false)
  | 5 => ("FrameSwapper$Picture", "order", "I", false)
  | 6 => ("FrameSwapper$Picture", "alpha", "I", false)
  | 7 => ("FrameSwapper$Picture", "visible", "Z", false)
  | 8 => ("FrameSwapper$Picture", "pixels", "[I", true)
  | 9 => ("FrameSwapper$Picture", "clip", "LFrameSwapper$Rectangle;", true)
  | _ => ("FrameSwapper$Picture", "shown", "LFrameSwapper$Rectangle;", true)
def tq_PI : Nat → FieldType := fun k => match k with
  | 0 => .boolean
  | 1 => .int
  | 2 => .int
  | 3 => .int
  | 4 => .int
  | 5 => .int
  | 6 => .int
  | 7 => .boolean
  | 8 => .array .int
  | 9 => .object "FrameSwapper$Rectangle"
  | _ => .object "FrameSwapper$Rectangle"
theorem nq_PI : ∀ a, a < 11 → ∀ b, b < 11 → a ≠ b → (Tq_PI a).2.1 ≠ (Tq_PI b).2.1 := by decide +kernel
theorem tq_PI_ok : ∀ k, k < 11 → parseFieldDescriptor (Tq_PI k).2.2.1 = some (tq_PI k) := by decide +kernel
def Rq_PL : String := "FrameSwapper$Pile"
def Tq_PL : u_T := fun k => match k with
  | 0 => ("FrameSwapper$Pile", "pictures", "[LFrameSwapper$Picture;", true)
  | 1 => ("FrameSwapper$Pile", "upward", "[I", true)
  | _ => ("FrameSwapper$Pile", "height", "I", false)
def tq_PL : Nat → FieldType := fun k => match k with
  | 0 => .array (.object "FrameSwapper$Picture")
  | 1 => .array .int
  | _ => .int
theorem nq_PL : ∀ a, a < 3 → ∀ b, b < 3 → a ≠ b → (Tq_PL a).2.1 ≠ (Tq_PL b).2.1 := by decide +kernel
theorem tq_PL_ok : ∀ k, k < 3 → parseFieldDescriptor (Tq_PL k).2.2.1 = some (tq_PL k) := by decide +kernel
def Rq_DE : String := "FrameSwapper$Desk"
def Tq_DE : u_T := fun k => match k with
  | 0 => ("FrameSwapper$Desk", "drafts", "[LFrameSwapper$Picture;", true)
  | 1 => ("FrameSwapper$Desk", "committed", "LFrameSwapper$Pile;", true)
  | 2 => ("FrameSwapper$Desk", "clients", "[I", true)
  | 3 => ("FrameSwapper$Desk", "leaving", "[Z", true)
  | 4 => ("FrameSwapper$Desk", "waiting", "[Z", true)
  | 5 => ("FrameSwapper$Desk", "commits", "I", false)
  | _ => ("FrameSwapper$Desk", "freePixels", "I", false)
def tq_DE : Nat → FieldType := fun k => match k with
  | 0 => .array (.object "FrameSwapper$Picture")
  | 1 => .object "FrameSwapper$Pile"
  | 2 => .array .int
  | 3 => .array .boolean
  | 4 => .array .boolean
  | 5 => .int
  | _ => .int
theorem nq_DE : ∀ a, a < 7 → ∀ b, b < 7 → a ≠ b → (Tq_DE a).2.1 ≠ (Tq_DE b).2.1 := by decide +kernel
theorem tq_DE_ok : ∀ k, k < 7 → parseFieldDescriptor (Tq_DE k).2.2.1 = some (tq_DE k) := by decide +kernel
def Rq_MI : String := "FrameSwapper$Misses"
def Tq_MI : u_T := fun k => match k with
  | 0 => ("FrameSwapper$Misses", "list", "[LFrameSwapper$Rectangle;", true)
  | _ => ("FrameSwapper$Misses", "size", "I", false)
def tq_MI : Nat → FieldType := fun k => match k with
  | 0 => .array (.object "FrameSwapper$Rectangle")
  | _ => .int
theorem nq_MI : ∀ a, a < 2 → ∀ b, b < 2 → a ≠ b → (Tq_MI a).2.1 ≠ (Tq_MI b).2.1 := by decide +kernel
theorem tq_MI_ok : ∀ k, k < 2 → parseFieldDescriptor (Tq_MI k).2.2.1 = some (tq_MI k) := by decide +kernel
def Rq_ME : String := "FrameSwapper$Memory"
def Tq_ME : u_T := fun k => match k with
  | 0 => ("FrameSwapper$Memory", "pixels", "[I", true)
  | _ => ("FrameSwapper$Memory", "misses", "LFrameSwapper$Misses;", true)
def tq_ME : Nat → FieldType := fun k => match k with
  | 0 => .array .int
  | _ => .object "FrameSwapper$Misses"
theorem nq_ME : ∀ a, a < 2 → ∀ b, b < 2 → a ≠ b → (Tq_ME a).2.1 ≠ (Tq_ME b).2.1 := by decide +kernel
theorem tq_ME_ok : ∀ k, k < 2 → parseFieldDescriptor (Tq_ME k).2.2.1 = some (tq_ME k) := by decide +kernel
def Rq_PN : String := "FrameSwapper$Planes"
def Tq_PN : u_T := fun k => match k with
  | 0 => ("FrameSwapper$Planes", "numbers", "[I", true)
  | 1 => ("FrameSwapper$Planes", "shown", "[LFrameSwapper$Rectangle;", true)
  | _ => ("FrameSwapper$Planes", "colors", "[[I", true)
def tq_PN : Nat → FieldType := fun k => match k with
  | 0 => .array .int
  | 1 => .array (.object "FrameSwapper$Rectangle")
  | _ => .array (.array .int)
theorem nq_PN : ∀ a, a < 3 → ∀ b, b < 3 → a ≠ b → (Tq_PN a).2.1 ≠ (Tq_PN b).2.1 := by decide +kernel
theorem tq_PN_ok : ∀ k, k < 3 → parseFieldDescriptor (Tq_PN k).2.2.1 = some (tq_PN k) := by decide +kernel
def Rq_CO : String := "FrameSwapper$Composer"
def Tq_CO : u_T := fun k => match k with
  | 0 => ("FrameSwapper$Composer", "taken", "LFrameSwapper$Pile;", true)
  | 1 => ("FrameSwapper$Composer", "chosen", "LFrameSwapper$Planes;", true)
  | 2 => ("FrameSwapper$Composer", "wasInPlane", "[Z", true)
  | 3 => ("FrameSwapper$Composer", "shownBefore", "[LFrameSwapper$Rectangle;", true)
  | 4 => ("FrameSwapper$Composer", "front", "LFrameSwapper$Memory;", false)
  | 5 => ("FrameSwapper$Composer", "back", "LFrameSwapper$Memory;", false)
  | 6 => ("FrameSwapper$Composer", "state", "I", false)
  | 7 => ("FrameSwapper$Composer", "takenCommit", "I", false)
  | 8 => ("FrameSwapper$Composer", "frontCommit", "I", false)
  | 9 => ("FrameSwapper$Composer", "hole", "I", false)
  | _ => ("FrameSwapper$Composer", "level", "I", false)
def tq_CO : Nat → FieldType := fun k => match k with
  | 0 => .object "FrameSwapper$Pile"
  | 1 => .object "FrameSwapper$Planes"
  | 2 => .array .boolean
  | 3 => .array (.object "FrameSwapper$Rectangle")
  | 4 => .object "FrameSwapper$Memory"
  | 5 => .object "FrameSwapper$Memory"
  | 6 => .int
  | 7 => .int
  | 8 => .int
  | 9 => .int
  | _ => .int
theorem nq_CO : ∀ a, a < 11 → ∀ b, b < 11 → a ≠ b → (Tq_CO a).2.1 ≠ (Tq_CO b).2.1 := by decide +kernel
theorem tq_CO_ok : ∀ k, k < 11 → parseFieldDescriptor (Tq_CO k).2.2.1 = some (tq_CO k) := by decide +kernel
def Rq_BE : String := "FrameSwapper$Beam"
def Tq_BE : u_T := fun k => match k with
  | 0 => ("FrameSwapper$Beam", "planes", "LFrameSwapper$Planes;", true)
  | 1 => ("FrameSwapper$Beam", "scanned", "[I", true)
  | 2 => ("FrameSwapper$Beam", "seen", "[I", true)
  | 3 => ("FrameSwapper$Beam", "row", "I", false)
  | 4 => ("FrameSwapper$Beam", "frames", "I", false)
  | _ => ("FrameSwapper$Beam", "seenCommit", "I", false)
def tq_BE : Nat → FieldType := fun k => match k with
  | 0 => .object "FrameSwapper$Planes"
  | 1 => .array .int
  | 2 => .array .int
  | 3 => .int
  | 4 => .int
  | _ => .int
theorem nq_BE : ∀ a, a < 6 → ∀ b, b < 6 → a ≠ b → (Tq_BE a).2.1 ≠ (Tq_BE b).2.1 := by decide +kernel
theorem tq_BE_ok : ∀ k, k < 6 → parseFieldDescriptor (Tq_BE k).2.2.1 = some (tq_BE k) := by decide +kernel
def Rq_MO : String := "FrameSwapperModel"
def Tq_MO : u_T := fun k => match k with
  | 0 => ("FrameSwapperModel", "code", "I", false)
  | 1 => ("FrameSwapperModel", "used", "[Z", true)
  | 2 => ("FrameSwapperModel", "client", "[I", true)
  | 3 => ("FrameSwapperModel", "columns", "[I", true)
  | 4 => ("FrameSwapperModel", "rows", "[I", true)
  | 5 => ("FrameSwapperModel", "destroyed", "[Z", true)
  | 6 => ("FrameSwapperModel", "gone", "[Z", true)
  | 7 => ("FrameSwapperModel", "there", "[Z", true)
  | 8 => ("FrameSwapperModel", "px", "[I", true)
  | 9 => ("FrameSwapperModel", "py", "[I", true)
  | 10 => ("FrameSwapperModel", "order", "[I", true)
  | 11 => ("FrameSwapperModel", "alpha", "[I", true)
  | 12 => ("FrameSwapperModel", "visible", "[Z", true)
  | 13 => ("FrameSwapperModel", "cx", "[I", true)
  | 14 => ("FrameSwapperModel", "cy", "[I", true)
  | 15 => ("FrameSwapperModel", "cw", "[I", true)
  | 16 => ("FrameSwapperModel", "ch", "[I", true)
  | 17 => ("FrameSwapperModel", "pixels", "[I", true)
  | 18 => ("FrameSwapperModel", "copied", "[I", true)
  | 19 => ("FrameSwapperModel", "commits", "I", false)
  | 20 => ("FrameSwapperModel", "taken", "I", false)
  | 21 => ("FrameSwapperModel", "committed", "[Z", true)
  | 22 => ("FrameSwapperModel", "state", "I", false)
  | 23 => ("FrameSwapperModel", "back", "I", false)
  | 24 => ("FrameSwapperModel", "memory", "[I", true)
  | 25 => ("FrameSwapperModel", "misses", "[I", true)
  | 26 => ("FrameSwapperModel", "mx", "[I", true)
  | 27 => ("FrameSwapperModel", "my", "[I", true)
  | 28 => ("FrameSwapperModel", "mw", "[I", true)
  | 29 => ("FrameSwapperModel", "mh", "[I", true)
  | 30 => ("FrameSwapperModel", "planes", "[I", true)
  | 31 => ("FrameSwapperModel", "at", "I", false)
  | 32 => ("FrameSwapperModel", "step", "I", false)
  | 33 => ("FrameSwapperModel", "wasX", "[I", true)
  | 34 => ("FrameSwapperModel", "wasY", "[I", true)
  | 35 => ("FrameSwapperModel", "wasW", "[I", true)
  | 36 => ("FrameSwapperModel", "wasH", "[I", true)
  | 37 => ("FrameSwapperModel", "wasPlane", "[Z", true)
  | 38 => ("FrameSwapperModel", "x", "I", false)
  | 39 => ("FrameSwapperModel", "y", "I", false)
  | 40 => ("FrameSwapperModel", "w", "I", false)
  | 41 => ("FrameSwapperModel", "h", "I", false)
  | 42 => ("FrameSwapperModel", "row", "I", false)
  | 43 => ("FrameSwapperModel", "frames", "I", false)
  | 44 => ("FrameSwapperModel", "set", "I", false)
  | 45 => ("FrameSwapperModel", "shows", "I", false)
  | 46 => ("FrameSwapperModel", "setX", "[I", true)
  | 47 => ("FrameSwapperModel", "setY", "[I", true)
  | 48 => ("FrameSwapperModel", "setW", "[I", true)
  | 49 => ("FrameSwapperModel", "setH", "[I", true)
  | 50 => ("FrameSwapperModel", "setPixels", "[I", true)
  | _ => ("FrameSwapperModel", "seen", "[I", true)
def tq_MO : Nat → FieldType := fun k => match k with
  | 0 => .int
  | 1 => .array .boolean
  | 2 => .array .int
  | 3 => .array .int
  | 4 => .array .int
  | 5 => .array .boolean
  | 6 => .array .boolean
  | 7 => .array .boolean
  | 8 => .array .int
  | 9 => .array .int
  | 10 => .array .int
  | 11 => .array .int
  | 12 => .array .boolean
  | 13 => .array .int
  | 14 => .array .int
  | 15 => .array .int
  | 16 => .array .int
  | 17 => .array .int
  | 18 => .array .int
  | 19 => .int
  | 20 => .int
  | 21 => .array .boolean
  | 22 => .int
  | 23 => .int
  | 24 => .array .int
  | 25 => .array .int
  | 26 => .array .int
  | 27 => .array .int
  | 28 => .array .int
  | 29 => .array .int
  | 30 => .array .int
  | 31 => .int
  | 32 => .int
  | 33 => .array .int
  | 34 => .array .int
  | 35 => .array .int
  | 36 => .array .int
  | 37 => .array .boolean
  | 38 => .int
  | 39 => .int
  | 40 => .int
  | 41 => .int
  | 42 => .int
  | 43 => .int
  | 44 => .int
  | 45 => .int
  | 46 => .array .int
  | 47 => .array .int
  | 48 => .array .int
  | 49 => .array .int
  | 50 => .array .int
  | _ => .array .int
theorem nq_MO : ∀ a, a < 52 → ∀ b, b < 52 → a ≠ b → (Tq_MO a).2.1 ≠ (Tq_MO b).2.1 := by decide +kernel
theorem tq_MO_ok : ∀ k, k < 52 → parseFieldDescriptor (Tq_MO k).2.2.1 = some (tq_MO k) := by decide +kernel
def fx_cl : List vw_C := [(Rq_FS, Tq_FS, 5), (Rq_RE, Tq_RE, 4), (Rq_PI, Tq_PI, 11), (Rq_PL, Tq_PL, 3), (Rq_DE, Tq_DE, 7), (Rq_MI, Tq_MI, 2), (Rq_ME, Tq_ME, 2), (Rq_PN, Tq_PN, 3), (Rq_CO, Tq_CO, 11), (Rq_BE, Tq_BE, 6), (Rq_MO, Tq_MO, 52)]
def fx_fkl : List (List Nat) := [[2, 2, 2, 2, 2], [0, 0, 0, 0], [1, 0, 0, 0, 0, 0, 0, 1, 2, 2, 2], [2, 2, 0], [2, 2, 2, 2, 2, 0, 0], [2, 0], [2, 2], [2, 2, 2], [2, 2, 2, 2, 2, 2, 0, 0, 0, 0, 0], [2, 2, 2, 0, 0, 0], [0, 2, 2, 2, 2, 2, 2, 2, 2, 2, 2, 2, 2, 2, 2, 2, 2, 2, 2, 0, 0, 2, 0, 0, 2, 2, 2, 2, 2, 2, 2, 0, 0, 2, 2, 2, 2, 2, 0, 0, 0, 0, 0, 0, 0, 0, 2, 2, 2, 2, 2, 2]]
/-- what the field k of the class ci holds: an int, a boolean, a reference -/
def fx_fk (ci k : Nat) : Nat := ((fx_fkl[ci]?).getD [])[k]?.getD 0
/-- the kinds of arrays: what they hold -/
def fx_tys : List FieldType := [.int, .boolean, .long, .object "FrameSwapper$Picture", .object "FrameSwapper$Rectangle", .array .int]
/-- words that the narrowing premise holds: statics that throwing reads, classes that are not castable -/
def fx_ex : List Cond := [.isRef (.static "java/lang/Throwable" "UNASSIGNED_STACK" "[Ljava/lang/StackTraceElement;"), .isRef (.static "java/lang/Throwable" "SUPPRESSED_SENTINEL" "Ljava/util/List;"), .not (.castable "java/lang/IllegalStateException" "java/lang/IllegalArgumentException"), .not (.castable "java/lang/IndexOutOfBoundsException" "java/lang/IllegalArgumentException")]
def fx_tb : List Cond := lw_tbl ++ fx_ex
end
section
/-! ===== ints without overflow ===== -/
theorem iz_rg (a : Int32) : -2147483648 ≤ a.toInt ∧ a.toInt < 2147483648 := ⟨Int32.le_toInt a, Int32.toInt_lt a⟩
theorem iz_bm {z : Int} (h : -2147483648 ≤ z ∧ z < 2147483648) : z.bmod (2 ^ 32) = z := by
  exact Int.bmod_eq_of_le (by omega) (by omega)
theorem iz_add {a b : Int32} (h : -2147483648 ≤ a.toInt + b.toInt ∧ a.toInt + b.toInt < 2147483648) : (a + b).toInt = a.toInt + b.toInt := by
  rw [Int32.toInt_add, iz_bm h]
theorem iz_sub {a b : Int32} (h : -2147483648 ≤ a.toInt - b.toInt ∧ a.toInt - b.toInt < 2147483648) : (a - b).toInt = a.toInt - b.toInt := by
  rw [Int32.toInt_sub, iz_bm h]
theorem iz_mul {a b : Int32} (h : -2147483648 ≤ a.toInt * b.toInt ∧ a.toInt * b.toInt < 2147483648) : (a * b).toInt = a.toInt * b.toInt := by
  rw [Int32.toInt_mul, iz_bm h]
theorem iz_eq {a b : Int32} : a = b ↔ a.toInt = b.toInt := ⟨fun h => by rw [h], fun h => Int32.toInt_inj.mp h⟩
theorem iz_lt {a b : Int32} : a < b ↔ a.toInt < b.toInt := Int32.lt_iff_toInt_lt
theorem iz_le {a b : Int32} : a ≤ b ↔ a.toInt ≤ b.toInt := Int32.le_iff_toInt_le
theorem iz_nn {a : Int32} (h : 0 ≤ a.toInt) : (a.toNatClampNeg : Int) = a.toInt := by
  show ((a.toInt.toNat : Nat) : Int) = a.toInt
  omega
theorem iz_in {a : Int32} {n : Nat} (h : 0 ≤ a.toInt) (h2 : a.toInt < n) : vp_in a n := vp_in_iff.mpr ⟨h, h2⟩
/-- the int of a number -/
def iz (z : Int) : Int32 := Int32.ofInt z
theorem iz_ti {z : Int} (h : -2147483648 ≤ z ∧ z < 2147483648) : (iz z).toInt = z := by
  exact Int32.toInt_ofInt_of_le (by omega) (by omega)
end
section
/-! ===== the heap as functions: ints, references, shapes, the next address ===== -/
abbrev fx_H : Type := (Nat → Nat → Int32) × (Nat → Nat → Option Nat) × (Nat → Option (Nat ⊕ (Nat × Nat))) × Nat
def fx_i (h : fx_H) (a k : Nat) : Int32 := h.1 a k
def fx_r (h : fx_H) (a k : Nat) : Option Nat := h.2.1 a k
def fx_s (h : fx_H) (a : Nat) : Option (Nat ⊕ (Nat × Nat)) := h.2.2.1 a
def fx_n (h : fx_H) : Nat := h.2.2.2
def fx_wi (h : fx_H) (a k : Nat) (v : Int32) : fx_H := (fun b j => if b = a ∧ j = k then v else h.1 b j, h.2.1, h.2.2.1, h.2.2.2)
def fx_wr (h : fx_H) (a k : Nat) (v : Option Nat) : fx_H := (h.1, fun b j => if b = a ∧ j = k then v else h.2.1 b j, h.2.2.1, h.2.2.2)
def fx_nw (h : fx_H) (x : Nat ⊕ (Nat × Nat)) : fx_H := (fun b j => if b = h.2.2.2 then 0 else h.1 b j, fun b j => if b = h.2.2.2 then none else h.2.1 b j, fun b => if b = h.2.2.2 then some x else h.2.2.1 b, h.2.2.2 + 1)
def fx_sk (h : fx_H) (n : Nat) : fx_H := (h.1, h.2.1, h.2.2.1, h.2.2.2 + n)
/-- System.arraycopy of ints -/
def fx_cp (h : fx_H) (a b sp dp n : Nat) : fx_H := (fun q j => if q = b then va_cpy (h.1 a) (h.1 b) sp dp n j else h.1 q j, h.2.1, h.2.2.1, h.2.2.2)
theorem fx_i_wi (h : fx_H) (a k b j : Nat) (v : Int32) : fx_i (fx_wi h a k v) b j = if b = a ∧ j = k then v else fx_i h b j := rfl
theorem fx_r_wi (h : fx_H) (a k b j : Nat) (v : Int32) : fx_r (fx_wi h a k v) b j = fx_r h b j := rfl
theorem fx_s_wi (h : fx_H) (a k b : Nat) (v : Int32) : fx_s (fx_wi h a k v) b = fx_s h b := rfl
theorem fx_n_wi (h : fx_H) (a k : Nat) (v : Int32) : fx_n (fx_wi h a k v) = fx_n h := rfl
theorem fx_r_wr (h : fx_H) (a k b j : Nat) (v : Option Nat) : fx_r (fx_wr h a k v) b j = if b = a ∧ j = k then v else fx_r h b j := rfl
theorem fx_i_wr (h : fx_H) (a k b j : Nat) (v : Option Nat) : fx_i (fx_wr h a k v) b j = fx_i h b j := rfl
theorem fx_s_wr (h : fx_H) (a k b : Nat) (v : Option Nat) : fx_s (fx_wr h a k v) b = fx_s h b := rfl
theorem fx_n_wr (h : fx_H) (a k : Nat) (v : Option Nat) : fx_n (fx_wr h a k v) = fx_n h := rfl
theorem fx_i_nw (h : fx_H) (x : Nat ⊕ (Nat × Nat)) (b j : Nat) : fx_i (fx_nw h x) b j = if b = fx_n h then 0 else fx_i h b j := rfl
theorem fx_r_nw (h : fx_H) (x : Nat ⊕ (Nat × Nat)) (b j : Nat) : fx_r (fx_nw h x) b j = if b = fx_n h then none else fx_r h b j := rfl
theorem fx_s_nw (h : fx_H) (x : Nat ⊕ (Nat × Nat)) (b : Nat) : fx_s (fx_nw h x) b = if b = fx_n h then some x else fx_s h b := rfl
theorem fx_n_nw (h : fx_H) (x : Nat ⊕ (Nat × Nat)) : fx_n (fx_nw h x) = fx_n h + 1 := rfl
theorem fx_i_sk (h : fx_H) (n b j : Nat) : fx_i (fx_sk h n) b j = fx_i h b j := rfl
theorem fx_r_sk (h : fx_H) (n b j : Nat) : fx_r (fx_sk h n) b j = fx_r h b j := rfl
theorem fx_s_sk (h : fx_H) (n b : Nat) : fx_s (fx_sk h n) b = fx_s h b := rfl
theorem fx_n_sk (h : fx_H) (n : Nat) : fx_n (fx_sk h n) = fx_n h + n := rfl
theorem fx_i_cp (h : fx_H) (a b sp dp n q j : Nat) : fx_i (fx_cp h a b sp dp n) q j = if q = b then va_cpy (fx_i h a) (fx_i h b) sp dp n j else fx_i h q j := rfl
theorem fx_r_cp (h : fx_H) (a b sp dp n q j : Nat) : fx_r (fx_cp h a b sp dp n) q j = fx_r h q j := rfl
theorem fx_s_cp (h : fx_H) (a b sp dp n q : Nat) : fx_s (fx_cp h a b sp dp n) q = fx_s h q := rfl
theorem fx_n_cp (h : fx_H) (a b sp dp n : Nat) : fx_n (fx_cp h a b sp dp n) = fx_n h := rfl
/-! ===== the fixed point of view: launch, the law's first state and arguments, the classes' numbers and slots, the arrays' classes ===== -/
abbrev fx_G : Type := Launch × State × Array Value × va_G × (Nat → ClassId)
abbrev fx_l (g : fx_G) : Launch := g.1
abbrev fx_s0 (g : fx_G) : State := g.2.1
abbrev fx_a0 (g : fx_G) : Array Value := g.2.2.1
abbrev fx_D (g : fx_G) : va_G := g.2.2.2.1
abbrev fx_dA (g : fx_G) : Nat → ClassId := g.2.2.2.2
abbrev fx_b (g : fx_G) : Nat := g.2.1.heap.size
/-- what a slot of an object holds -/
def fx_v (h : fx_H) (ci a k : Nat) : Value := if fx_fk ci k = 2 then va_rf (fx_r h a k) else .int (fx_i h a k)
def fx_ar (h : fx_H) (a ak : Nat) : (Nat → Int32) ⊕ (Nat → Int64) ⊕ (Nat → UInt32) ⊕ (Nat → UInt64) ⊕ (Nat → Option Nat) := if ak < 2 then .inl (fx_i h a) else if ak = 2 then .inr (.inl (fun j => (fx_i h a j).toInt64)) else .inr (.inr (.inr (.inr (fx_r h a))))
def fx_c (g : fx_G) (h : fx_H) (H : Heap) (a : Nat) (x : Nat ⊕ (Nat × Nat)) : Prop := match x with
  | .inl ci => (∃ r : vw_C, fx_cl[ci]? = some r ∧ t_OB a ((fx_D g).1 ci) r.2.2 ((fx_D g).2 ci) H (fx_v h ci a)) ∧ ∀ k, fx_fk ci k = 1 → fx_i h a k = 0 ∨ fx_i h a k = 1
  | .inr (ak, n) => H[a]? = some (vp_cell (fx_dA g ak) (n, fx_ar h a ak)) ∧ (ak = 1 → ∀ k, fx_i h a k = 0 ∨ fx_i h a k = 1)
/-- the machine's heap H is what h says -/
def fx_R (g : fx_G) (h : fx_H) (H : Heap) : Prop := H.size = fx_n h ∧ fx_b g ≤ fx_n h ∧ (∀ q : Nat, q < fx_b g → H[q]? = (fx_s0 g).heap[q]?) ∧ ∀ (a : Nat) (x : Nat ⊕ (Nat × Nat)), fx_s h a = some x → fx_b g ≤ a ∧ a < fx_n h ∧ fx_c g h H a x
/-- what is given of the start -/
def fx_ok (g : fx_G) : Prop := (fx_l g).stackTraces = false ∧ (∀ w ∈ fx_tb, w.before (fx_a0 g) (fx_s0 g) = true) ∧ (∀ (c : Nat) (q : vw_C), fx_cl[c]? = some q → u_Kn (fx_s0 g) q.1 q.2.1 q.2.2 ((fx_D g).1 c) ((fx_D g).2 c)) ∧ ∀ (ak : Nat) (ty : FieldType), fx_tys[ak]? = some ty → ArrOfT (fx_s0 g) (fx_dA g ak) ty ∧ va_RA (fx_s0 g) (fx_dA g ak) ty
/-- a method: its name, its bytes, its locals, its answer's type, how many frames its calls nest and how many words they take, its table of handlers -/
abbrev fx_M : Type := MethodName × ByteArray × Nat × Option FieldType × (Nat × Nat) × List (Nat × Nat × Nat × Nat)
abbrev fx_y (M : fx_M) : MethodName := M.1
abbrev fx_cc (M : fx_M) : ByteArray := M.2.1
abbrev fx_ml (M : fx_M) : Nat := M.2.2.1
abbrev fx_rt (M : fx_M) : Option FieldType := M.2.2.2.1
abbrev fx_lv (M : fx_M) : Nat := M.2.2.2.2.1.1
abbrev fx_lw (M : fx_M) : Nat := M.2.2.2.2.1.2
abbrev fx_hd (M : fx_M) : List (Nat × Nat × Nat × Nat) := M.2.2.2.2.2
def fx_cw (M : fx_M) : Cond := match fx_hd M with
  | [] => .code (fx_y M) (fx_cc M) (fx_ml M) (fx_rt M)
  | _ :: _ => .codeWith (fx_y M) (fx_cc M) (fx_ml M) (fx_rt M) (fx_hd M)
def fx_rows (c : Code) : List (Nat × Nat × Nat × Nat) := c.exceptionTable.toList.map (fun h => (h.startPc, h.endPc, h.handlerPc, h.catchType))
/-- how a method ends: an int, nothing, or an exception of the class of that name -/
abbrev fx_O : Type := Option Int32 ⊕ String
def fx_oc (U t : State) (o : Outcome) (o' : fx_O) : Prop := match o' with
  | .inl v => o = .returned (v.map Value.int)
  | .inr E => ∃ (q : Addr) (ce : Cell), o = .threw q ∧ t.heap[q]? = some ce ∧ ce.vm = .none ∧ U.vm.findClass E = some ce.cls
def fx_P (g : fx_G) (Q : fx_O → fx_H → Prop) (mc ms : Nat) (U : State) (o : Outcome) (t : State) : Prop :=
  ∃ L : List Loc, U.WarmedH t.vm ∧ U.sameButNew ({ t with vm := U.vm } : State) L mc ms ∧ (∀ z ∈ L, fx_b g ≤ z.base) ∧ ∃ (o' : fx_O) (h' : fx_H), Q o' h' ∧ fx_R g h' t.heap ∧ fx_oc U t o o'
def fx_rm (M : fx_M) (mc ms : Nat) : Room := { frames := fx_lv M, cells := mc, slots := ms, locals := fx_lw M }
/-- a method's contract: from the heap h, with the arguments as, it ends so that Q; at most mc cells of ms slots are new -/
def fx_C (g : fx_G) (M : fx_M) (as : List Value) (h : fx_H) (Q : fx_O → fx_H → Prop) (mc ms : Nat) : Prop :=
  MetFree (fx_l g) (fx_y M) (headSpec [fx_cw M] (fx_rm M mc ms)) (fun a U => a = as.toArray ∧ (fx_s0 g).WarmedH U.vm ∧ fx_R g h U.heap) (fun _ _ _ _ _ => True) (fun _ U o t => fx_P g Q mc ms U o t)
/-- what holds of a frame of the method M -/
def fx_F (g : fx_G) (M : fx_M) (p : Program) (R : Room) (s : State) (m : MethodId) (meth : Method) (c : Code) : Prop :=
  p.tables.exec = Jvm.exec ∧ c.code = fx_cc M ∧ c.maxLocals = fx_ml M ∧ meth.sig.returnType = fx_rt M ∧ meth.locks = false ∧ (fx_s0 g).WarmedH s.vm ∧ s.vm.findClass (fx_y M).cls = some m.cls ∧ meth.name = (fx_y M).name ∧ fx_rows c = fx_hd M ∧ fx_lv M ≤ R.frames ∧ fx_lw M ≤ R.locals
def fx_E (g : fx_G) (Q : fx_O → fx_H → Prop) (R : Room) (s : State) (below : List Frame) : State → Prop := fun t => ∃ o, t.status = .running ∧ Ended t below o ∧ fx_P g Q R.cells R.slots s o t
/-- the method M stands at pc with locals lv, stack st, heap h, and may still make mc cells of ms slots: it comes to its end with Q -/
def fx_X (g : fx_G) (M : fx_M) (pc : Nat) (lv : List (Nat × Value)) (st : List Value) (h : fx_H) (Q : fx_O → fx_H → Prop) (mc ms : Nat) : Prop :=
  ∀ (p : Program) (e : Env) (R : Room) (s : State) (m : MethodId) (args : Array Value) (below : List Frame) (meth : Method) (c : Code), fx_F g M p R s m meth c →
  ∀ (H : Heap) (locs : List Loc) (cells slots : Nat) (ls : Array Slot), fx_R g h H → (∀ z ∈ locs, fx_b g ≤ z.base) → cells + mc ≤ R.cells → slots + ms ≤ R.slots → lv_has ls (fx_ml M) lv →
  W p (fx_l g) e R s m args below meth c H locs cells slots (fx_E g Q R s below) (F0 m pc ls st)
/-! ===== words ===== -/
theorem fx_word {g : fx_G} (ok : fx_ok g) {w : Cond} (hw : w ∈ fx_tb) (hg : goodWord w = true) {args : Array Value} {s : State} (hW : (fx_s0 g).WarmedH s.vm) : w.before args s = true := word_at hW (good_of_word hg) (ok.2.1 w hw)
theorem fx_Kn {g : fx_G} (ok : fx_ok g) {s : State} (hW : (fx_s0 g).WarmedH s.vm) {ci : Nat} {q : vw_C} (hq : fx_cl[ci]? = some q) : u_Kn s q.1 q.2.1 q.2.2 ((fx_D g).1 ci) ((fx_D g).2 ci) := u_Kn_moved hW.alike (ok.2.2.1 ci q hq)
theorem fx_Ty {g : fx_G} (ok : fx_ok g) {s : State} (hW : (fx_s0 g).WarmedH s.vm) {ak : Nat} {ty : FieldType} (hq : fx_tys[ak]? = some ty) : ArrOfT s (fx_dA g ak) ty ∧ va_RA s (fx_dA g ak) ty := ⟨arrOfT_moved hW.alike (ok.2.2.2 ak ty hq).1, (ok.2.2.2 ak ty hq).2.moved hW.alike⟩
theorem fx_lay {C : String} {T : u_T} {N : Nat} {w : Cond} (h : w ∈ u_ws C T N) : goodWord w = true := by
  obtain ⟨k, -, rfl⟩ := List.mem_map.mp h
  unfold u_lay
  split <;> rfl
theorem fx_cw_spec {M : fx_M} {s : State} {args : Array Value} {m : MethodId} (hn : s.methodNamed? (fx_y M) = some m) (h : (fx_cw M).before args s = true) :
    ∃ meth c, s.vm.method? m = some meth ∧ meth.code = some c ∧ c.code = fx_cc M ∧ c.maxLocals = fx_ml M ∧ meth.sig.returnType = fx_rt M ∧ meth.locks = false ∧ fx_rows c = fx_hd M ∧ parseMethodDescriptor (fx_y M).desc = some meth.sig := by
  obtain ⟨y, cc, ml, rt, lev, hd⟩ := M
  cases hd with
  | nil =>
    obtain ⟨meth, c, h1, h2, h3, h4, h5, h6, h7, h8⟩ := Cond.code_spec hn (show (Cond.code y cc ml rt).before args s = true from h)
    refine ⟨meth, c, h1, h2, h3, h4, h5, h6, ?_, h8⟩
    have h9 : c.exceptionTable = #[] := Array.isEmpty_iff.mp h7
    show fx_rows c = []
    rw [fx_rows, h9]
    rfl
  | cons a l =>
    have h' : (Cond.codeWith y cc ml rt (a :: l)).before args s = true := h
    have hn' : s.methodNamed? y = some m := hn
    simp only [Cond.before, Cond.holds, Cond.value, hn', Option.bind_some] at h'
    cases hm : s.vm.method? m with
    | none => simp [hm] at h'
    | some meth =>
      simp only [hm, Option.map_some, beq_iff_eq, Option.some.injEq, Bool.and_eq_true, decide_eq_true_eq, Bool.not_eq_true'] at h'
      obtain ⟨⟨⟨hc, hr⟩, hl⟩, hsig⟩ := h'
      cases hcode : meth.code with
      | none => simp [hcode] at hc
      | some c =>
        simp only [hcode, Option.any_some, Bool.and_eq_true, decide_eq_true_eq, beq_iff_eq] at hc
        exact ⟨meth, c, rfl, hcode, hc.1.1.1, hc.1.1.2, hr, hl, hc.1.2, hsig⟩
/-! ===== a contract out of a walk ===== -/
theorem fx_body {g : fx_G} {M : fx_M} {as : List Value} {h : fx_H} {Q : fx_O → fx_H → Prop} {mc ms : Nat} (hp : plainName (fx_y M).cls = true) (ha : (lg_sl as).length ≤ fx_ml M)
    (k : fx_X g M 0 (lv_args 0 as) [] h Q mc ms) : fx_C g M as h Q mc ms := by
  refine MetFree.of_bodyS (code := fx_cc M) (maxLocals := fx_ml M) (ret := fx_rt M) hp ?_ ?_
  · intro args s m hpre hn
    have hw : (fx_cw M).before args s = true := atoms_spec (ws := [fx_cw M]) hpre _ List.mem_cons_self
    obtain ⟨meth, c, h1, h2, h3, h4, h5, h6, -, -⟩ := fx_cw_spec hn hw
    exact ⟨meth, c, h1, h2, h3, h4, h5, h6⟩
  · intro p e s m args below meth c s₁ B hml hP _
    obtain ⟨rfl, hW, hR⟩ := hP
    have X := Stand.of_body B
    have hw : (fx_cw M).before as.toArray s = true := atoms_spec (ws := [fx_cw M]) B.pre _ List.mem_cons_self
    obtain ⟨meth', c', h1, h2, -, -, -, -, h7, -⟩ := fx_cw_spec B.named hw
    cases h1.symm.trans B.method
    cases h2.symm.trans X.code
    have hh0 : s₁.heap = s.heap := by rw [B.state]; rfl
    have hl := lv_entry as ha
    have F : fx_F g M p (headSpec [fx_cw M] (fx_rm M mc ms)).room s m meth c :=
      ⟨B.exec, B.bytes, hml, B.returns, B.notSynchronized, hW, findClass_of_methodNamed B.named, (name_of_methodNamed B.named B.method).1, h7, Nat.le_refl _, Nat.le_refl _⟩
    obtain ⟨t, st, o, hrun, hend, hpost⟩ := k p e _ s m as.toArray below meth c F s.heap [] 0 0 _ hR (fun z hz => nomatch hz) (by rw [Nat.zero_add]; exact Nat.le_refl _) (by rw [Nat.zero_add]; exact Nat.le_refl _) hl s₁ hh0 X
    rw [← lg_entry_eq] at st
    exact ⟨t, o, st, hrun, hend, hpost⟩
theorem fx_C_mono {g : fx_G} {M : fx_M} {as : List Value} {h : fx_H} {Q Q' : fx_O → fx_H → Prop} {mc ms : Nat} (hC : fx_C g M as h Q mc ms) (hq : ∀ o k, Q o k → Q' o k) : fx_C g M as h Q' mc ms := by
  intro p e a1 a2 a3 s m args below a4 a5 a6 a7
  obtain ⟨n, o, b1, b2, b3, L, c1, c2, c3, o', h', c4, c5⟩ := hC p e a1 a2 a3 s m args below a4 a5 a6 a7
  exact ⟨n, o, b1, b2, b3, L, c1, c2, c3, o', h', hq _ _ c4, c5⟩
theorem fx_X_mono {g : fx_G} {M : fx_M} {pc : Nat} {lv : List (Nat × Value)} {st : List Value} {h : fx_H} {Q Q' : fx_O → fx_H → Prop} {mc ms : Nat} (hC : fx_X g M pc lv st h Q mc ms) (hq : ∀ o k, Q o k → Q' o k) : fx_X g M pc lv st h Q' mc ms := by
  intro p e R s m args below meth c F H locs cells slots ls hR hL hc hs hl T hT X
  obtain ⟨t, st, o, b2, b3, L, c1, c2, c3, o', h', c4, c5⟩ := hC p e R s m args below meth c F H locs cells slots ls hR hL hc hs hl T hT X
  exact ⟨t, st, o, b2, b3, L, c1, c2, c3, o', h', hq _ _ c4, c5⟩
end
section
/-! ===== locals, stack, arithmetic, branches ===== -/
def fx_st (i : Nat) (v : Value) (lv : List (Nat × Value)) : List (Nat × Value) := (i, v) :: lv.filter (fun q => !(q.1 == i) && !(q.1 + 1 == i && q.2.category == 2))
theorem fx_iconst {g : fx_G} {M : fx_M} {pc : Nat} {lv : List (Nat × Value)} {st : List Value} {h : fx_H} {Q : fx_O → fx_H → Prop} {mc ms : Nat} {n : Int} {v : Int32} (d : decode (fx_cc M) pc = .ok (.iconst n, 1)) (hv : Int32.ofInt n = v)
    (K : fx_X g M (pc + 1) lv (.int v :: st) h Q mc ms) : fx_X g M pc lv (st) h Q mc ms := by
  intro p e R s m args below meth c F H locs cells slots ls hR hL hc hs hl
  exact lv_iconst F.1 F.2.1 d hv (K p e R s m args below meth c F H locs cells slots ls hR hL hc hs hl)
theorem fx_bipush {g : fx_G} {M : fx_M} {pc : Nat} {lv : List (Nat × Value)} {st : List Value} {h : fx_H} {Q : fx_O → fx_H → Prop} {mc ms : Nat} {n : Int} {v : Int32} (d : decode (fx_cc M) pc = .ok (.bipush n, 2)) (hv : (Int8.ofInt n).toInt32 = v)
    (K : fx_X g M (pc + 2) lv (.int v :: st) h Q mc ms) : fx_X g M pc lv (st) h Q mc ms := by
  intro p e R s m args below meth c F H locs cells slots ls hR hL hc hs hl
  exact lv_bipush F.1 F.2.1 d hv (K p e R s m args below meth c F H locs cells slots ls hR hL hc hs hl)
theorem fx_sipush {g : fx_G} {M : fx_M} {pc : Nat} {lv : List (Nat × Value)} {st : List Value} {h : fx_H} {Q : fx_O → fx_H → Prop} {mc ms : Nat} {n : Int} {v : Int32} (d : decode (fx_cc M) pc = .ok (.sipush n, 3)) (hv : (Int16.ofInt n).toInt32 = v)
    (K : fx_X g M (pc + 3) lv (.int v :: st) h Q mc ms) : fx_X g M pc lv (st) h Q mc ms := by
  intro p e R s m args below meth c F H locs cells slots ls hR hL hc hs hl
  exact lv_sipush F.1 F.2.1 d hv (K p e R s m args below meth c F H locs cells slots ls hR hL hc hs hl)
theorem fx_iload_n {g : fx_G} {M : fx_M} {pc : Nat} {lv : List (Nat × Value)} {st : List Value} {h : fx_H} {Q : fx_O → fx_H → Prop} {mc ms : Nat} {j : Fin 4} {i : Nat} {x : Int32} (k : Nat) (d : decode (fx_cc M) pc = .ok (.iload_n j, 1)) (hi : (j : Nat) = i) (hk : lv[k]? = some (i, .int x))
    (K : fx_X g M (pc + 1) lv (.int x :: st) h Q mc ms) : fx_X g M pc lv (st) h Q mc ms := by
  intro p e R s m args below meth c F H locs cells slots ls hR hL hc hs hl
  exact lv_iload_n F.1 F.2.1 d hi (lv_at hl k hk) (K p e R s m args below meth c F H locs cells slots ls hR hL hc hs hl)
theorem fx_iload {g : fx_G} {M : fx_M} {pc : Nat} {lv : List (Nat × Value)} {st : List Value} {h : fx_H} {Q : fx_O → fx_H → Prop} {mc ms : Nat} {i : Nat} {x : Int32} (k : Nat) (d : decode (fx_cc M) pc = .ok (.iload i, 2)) (hk : lv[k]? = some (i, .int x))
    (K : fx_X g M (pc + 2) lv (.int x :: st) h Q mc ms) : fx_X g M pc lv (st) h Q mc ms := by
  intro p e R s m args below meth c F H locs cells slots ls hR hL hc hs hl
  exact lv_iload F.1 F.2.1 d (lv_at hl k hk) (K p e R s m args below meth c F H locs cells slots ls hR hL hc hs hl)
theorem fx_istore_n {g : fx_G} {M : fx_M} {pc : Nat} {lv : List (Nat × Value)} {st : List Value} {h : fx_H} {Q : fx_O → fx_H → Prop} {mc ms : Nat} {j : Fin 4} {i : Nat} {x : Int32} {lv' : List (Nat × Value)} (d : decode (fx_cc M) pc = .ok (.istore_n j, 1)) (hi : (j : Nat) = i) (hn : i < fx_ml M) (hv : fx_st i (Value.int x) lv = lv')
    (K : fx_X g M (pc + 1) lv' st h Q mc ms) : fx_X g M pc lv (.int x :: st) h Q mc ms := by
  intro p e R s m args below meth c F H locs cells slots ls hR hL hc hs hl
  exact lv_istore_n F.1 F.2.1 d hi hl hn hv (fun ls' hl' => (K p e R s m args below meth c F H locs cells slots ls' hR hL hc hs hl'))
theorem fx_istore {g : fx_G} {M : fx_M} {pc : Nat} {lv : List (Nat × Value)} {st : List Value} {h : fx_H} {Q : fx_O → fx_H → Prop} {mc ms : Nat} {i : Nat} {x : Int32} {lv' : List (Nat × Value)} (d : decode (fx_cc M) pc = .ok (.istore i, 2)) (hn : i < fx_ml M) (hv : fx_st i (Value.int x) lv = lv')
    (K : fx_X g M (pc + 2) lv' st h Q mc ms) : fx_X g M pc lv (.int x :: st) h Q mc ms := by
  intro p e R s m args below meth c F H locs cells slots ls hR hL hc hs hl
  exact lv_istore F.1 F.2.1 d hl hn hv (fun ls' hl' => (K p e R s m args below meth c F H locs cells slots ls' hR hL hc hs hl'))
theorem fx_aload_n {g : fx_G} {M : fx_M} {pc : Nat} {lv : List (Nat × Value)} {st : List Value} {h : fx_H} {Q : fx_O → fx_H → Prop} {mc ms : Nat} {j : Fin 4} {i : Nat} {x : Nat} (k : Nat) (d : decode (fx_cc M) pc = .ok (.aload_n j, 1)) (hi : (j : Nat) = i) (hk : lv[k]? = some (i, .ref x))
    (K : fx_X g M (pc + 1) lv (.ref x :: st) h Q mc ms) : fx_X g M pc lv (st) h Q mc ms := by
  intro p e R s m args below meth c F H locs cells slots ls hR hL hc hs hl
  exact lv_aload_n F.1 F.2.1 d hi (lv_at hl k hk) (K p e R s m args below meth c F H locs cells slots ls hR hL hc hs hl)
theorem fx_aload {g : fx_G} {M : fx_M} {pc : Nat} {lv : List (Nat × Value)} {st : List Value} {h : fx_H} {Q : fx_O → fx_H → Prop} {mc ms : Nat} {i : Nat} {x : Nat} (k : Nat) (d : decode (fx_cc M) pc = .ok (.aload i, 2)) (hk : lv[k]? = some (i, .ref x))
    (K : fx_X g M (pc + 2) lv (.ref x :: st) h Q mc ms) : fx_X g M pc lv (st) h Q mc ms := by
  intro p e R s m args below meth c F H locs cells slots ls hR hL hc hs hl
  exact lv_aload F.1 F.2.1 d (lv_at hl k hk) (K p e R s m args below meth c F H locs cells slots ls hR hL hc hs hl)
theorem fx_astore_n {g : fx_G} {M : fx_M} {pc : Nat} {lv : List (Nat × Value)} {st : List Value} {h : fx_H} {Q : fx_O → fx_H → Prop} {mc ms : Nat} {j : Fin 4} {i : Nat} {x : Nat} {lv' : List (Nat × Value)} (d : decode (fx_cc M) pc = .ok (.astore_n j, 1)) (hi : (j : Nat) = i) (hn : i < fx_ml M) (hv : fx_st i (Value.ref x) lv = lv')
    (K : fx_X g M (pc + 1) lv' st h Q mc ms) : fx_X g M pc lv (.ref x :: st) h Q mc ms := by
  intro p e R s m args below meth c F H locs cells slots ls hR hL hc hs hl
  exact lv_astore_n F.1 F.2.1 d hi hl hn hv (fun ls' hl' => (K p e R s m args below meth c F H locs cells slots ls' hR hL hc hs hl'))
theorem fx_astore {g : fx_G} {M : fx_M} {pc : Nat} {lv : List (Nat × Value)} {st : List Value} {h : fx_H} {Q : fx_O → fx_H → Prop} {mc ms : Nat} {i : Nat} {x : Nat} {lv' : List (Nat × Value)} (d : decode (fx_cc M) pc = .ok (.astore i, 2)) (hn : i < fx_ml M) (hv : fx_st i (Value.ref x) lv = lv')
    (K : fx_X g M (pc + 2) lv' st h Q mc ms) : fx_X g M pc lv (.ref x :: st) h Q mc ms := by
  intro p e R s m args below meth c F H locs cells slots ls hR hL hc hs hl
  exact lv_astore F.1 F.2.1 d hl hn hv (fun ls' hl' => (K p e R s m args below meth c F H locs cells slots ls' hR hL hc hs hl'))
theorem fx_iinc {g : fx_G} {M : fx_M} {pc : Nat} {lv : List (Nat × Value)} {st : List Value} {h : fx_H} {Q : fx_O → fx_H → Prop} {mc ms : Nat} {i : Nat} {n : Int} {x v : Int32} {lv' : List (Nat × Value)} (k : Nat) (d : decode (fx_cc M) pc = .ok (.iinc i n, 3)) (hk : lv[k]? = some (i, .int x)) (hx : x + Int32.ofInt n = v) (hn : i < fx_ml M) (hv : fx_st i (Value.int v) lv = lv')
    (K : fx_X g M (pc + 3) lv' st h Q mc ms) : fx_X g M pc lv st h Q mc ms := by
  intro p e R s m args below meth c F H locs cells slots ls hR hL hc hs hl
  exact lv_iinc F.1 F.2.1 d hl hk hx hn hv (fun ls' hl' => (K p e R s m args below meth c F H locs cells slots ls' hR hL hc hs hl'))
theorem fx_iadd {g : fx_G} {M : fx_M} {pc : Nat} {lv : List (Nat × Value)} {st : List Value} {h : fx_H} {Q : fx_O → fx_H → Prop} {mc ms : Nat} {x y : Int32} (d : decode (fx_cc M) pc = .ok (.iadd, 1))
    (K : fx_X g M (pc + 1) lv (.int (x + y) :: st) h Q mc ms) : fx_X g M pc lv (.int y :: .int x :: st) h Q mc ms := by
  intro p e R s m args below meth c F H locs cells slots ls hR hL hc hs hl
  exact lv_iadd F.1 F.2.1 d (K p e R s m args below meth c F H locs cells slots ls hR hL hc hs hl)
theorem fx_isub {g : fx_G} {M : fx_M} {pc : Nat} {lv : List (Nat × Value)} {st : List Value} {h : fx_H} {Q : fx_O → fx_H → Prop} {mc ms : Nat} {x y : Int32} (d : decode (fx_cc M) pc = .ok (.isub, 1))
    (K : fx_X g M (pc + 1) lv (.int (x - y) :: st) h Q mc ms) : fx_X g M pc lv (.int y :: .int x :: st) h Q mc ms := by
  intro p e R s m args below meth c F H locs cells slots ls hR hL hc hs hl
  exact lv_isub F.1 F.2.1 d (K p e R s m args below meth c F H locs cells slots ls hR hL hc hs hl)
theorem fx_imul {g : fx_G} {M : fx_M} {pc : Nat} {lv : List (Nat × Value)} {st : List Value} {h : fx_H} {Q : fx_O → fx_H → Prop} {mc ms : Nat} {x y : Int32} (d : decode (fx_cc M) pc = .ok (.imul, 1))
    (K : fx_X g M (pc + 1) lv (.int (x * y) :: st) h Q mc ms) : fx_X g M pc lv (.int y :: .int x :: st) h Q mc ms := by
  intro p e R s m args below meth c F H locs cells slots ls hR hL hc hs hl
  exact lv_imul F.1 F.2.1 d (K p e R s m args below meth c F H locs cells slots ls hR hL hc hs hl)
theorem fx_iand {g : fx_G} {M : fx_M} {pc : Nat} {lv : List (Nat × Value)} {st : List Value} {h : fx_H} {Q : fx_O → fx_H → Prop} {mc ms : Nat} {x y : Int32} (d : decode (fx_cc M) pc = .ok (.iand, 1))
    (K : fx_X g M (pc + 1) lv (.int (x &&& y) :: st) h Q mc ms) : fx_X g M pc lv (.int y :: .int x :: st) h Q mc ms := by
  intro p e R s m args below meth c F H locs cells slots ls hR hL hc hs hl
  exact lv_iand F.1 F.2.1 d (K p e R s m args below meth c F H locs cells slots ls hR hL hc hs hl)
theorem fx_ior {g : fx_G} {M : fx_M} {pc : Nat} {lv : List (Nat × Value)} {st : List Value} {h : fx_H} {Q : fx_O → fx_H → Prop} {mc ms : Nat} {x y : Int32} (d : decode (fx_cc M) pc = .ok (.ior, 1))
    (K : fx_X g M (pc + 1) lv (.int (x ||| y) :: st) h Q mc ms) : fx_X g M pc lv (.int y :: .int x :: st) h Q mc ms := by
  intro p e R s m args below meth c F H locs cells slots ls hR hL hc hs hl
  exact lv_ior F.1 F.2.1 d (K p e R s m args below meth c F H locs cells slots ls hR hL hc hs hl)
theorem fx_ishl {g : fx_G} {M : fx_M} {pc : Nat} {lv : List (Nat × Value)} {st : List Value} {h : fx_H} {Q : fx_O → fx_H → Prop} {mc ms : Nat} {x y : Int32} (d : decode (fx_cc M) pc = .ok (.ishl, 1))
    (K : fx_X g M (pc + 1) lv (.int (x <<< (y &&& 31)) :: st) h Q mc ms) : fx_X g M pc lv (.int y :: .int x :: st) h Q mc ms := by
  intro p e R s m args below meth c F H locs cells slots ls hR hL hc hs hl
  exact lv_ishl F.1 F.2.1 d (K p e R s m args below meth c F H locs cells slots ls hR hL hc hs hl)
theorem fx_ishr {g : fx_G} {M : fx_M} {pc : Nat} {lv : List (Nat × Value)} {st : List Value} {h : fx_H} {Q : fx_O → fx_H → Prop} {mc ms : Nat} {x y : Int32} (d : decode (fx_cc M) pc = .ok (.ishr, 1))
    (K : fx_X g M (pc + 1) lv (.int (x >>> (y &&& 31)) :: st) h Q mc ms) : fx_X g M pc lv (.int y :: .int x :: st) h Q mc ms := by
  intro p e R s m args below meth c F H locs cells slots ls hR hL hc hs hl
  exact lv_ishr F.1 F.2.1 d (K p e R s m args below meth c F H locs cells slots ls hR hL hc hs hl)
theorem fx_idiv {g : fx_G} {M : fx_M} {pc : Nat} {lv : List (Nat × Value)} {st : List Value} {h : fx_H} {Q : fx_O → fx_H → Prop} {mc ms : Nat} {x y : Int32} (d : decode (fx_cc M) pc = .ok (.idiv, 1)) (hne : ¬ y = 0)
    (K : fx_X g M (pc + 1) lv (.int (x / y) :: st) h Q mc ms) : fx_X g M pc lv (.int y :: .int x :: st) h Q mc ms := by
  intro p e R s m args below meth c F H locs cells slots ls hR hL hc hs hl
  exact lv_idiv F.1 F.2.1 d hne (K p e R s m args below meth c F H locs cells slots ls hR hL hc hs hl)
theorem fx_irem {g : fx_G} {M : fx_M} {pc : Nat} {lv : List (Nat × Value)} {st : List Value} {h : fx_H} {Q : fx_O → fx_H → Prop} {mc ms : Nat} {x y : Int32} (d : decode (fx_cc M) pc = .ok (.irem, 1)) (hne : ¬ y = 0)
    (K : fx_X g M (pc + 1) lv (.int (x - x / y * y) :: st) h Q mc ms) : fx_X g M pc lv (.int y :: .int x :: st) h Q mc ms := by
  intro p e R s m args below meth c F H locs cells slots ls hR hL hc hs hl
  exact lv_irem F.1 F.2.1 d hne (K p e R s m args below meth c F H locs cells slots ls hR hL hc hs hl)
theorem fx_i2l {g : fx_G} {M : fx_M} {pc : Nat} {lv : List (Nat × Value)} {st : List Value} {h : fx_H} {Q : fx_O → fx_H → Prop} {mc ms : Nat} {x : Int32} (d : decode (fx_cc M) pc = .ok (.i2l, 1))
    (K : fx_X g M (pc + 1) lv (.long x.toInt64 :: st) h Q mc ms) : fx_X g M pc lv (.int x :: st) h Q mc ms := by
  intro p e R s m args below meth c F H locs cells slots ls hR hL hc hs hl
  exact lv_i2l F.1 F.2.1 d rfl (K p e R s m args below meth c F H locs cells slots ls hR hL hc hs hl)
theorem fx_dup {g : fx_G} {M : fx_M} {pc : Nat} {lv : List (Nat × Value)} {st : List Value} {h : fx_H} {Q : fx_O → fx_H → Prop} {mc ms : Nat} {a : Value} (d : decode (fx_cc M) pc = .ok (.dup, 1)) (ha : a.category = 1)
    (K : fx_X g M (pc + 1) lv (a :: a :: st) h Q mc ms) : fx_X g M pc lv (a :: st) h Q mc ms := by
  intro p e R s m args below meth c F H locs cells slots ls hR hL hc hs hl
  exact lv_dup F.1 F.2.1 d ha (K p e R s m args below meth c F H locs cells slots ls hR hL hc hs hl)
theorem fx_pop {g : fx_G} {M : fx_M} {pc : Nat} {lv : List (Nat × Value)} {st : List Value} {h : fx_H} {Q : fx_O → fx_H → Prop} {mc ms : Nat} {a : Value} (d : decode (fx_cc M) pc = .ok (.pop, 1)) (ha : a.category = 1)
    (K : fx_X g M (pc + 1) lv (st) h Q mc ms) : fx_X g M pc lv (a :: st) h Q mc ms := by
  intro p e R s m args below meth c F H locs cells slots ls hR hL hc hs hl
  exact lv_pop F.1 F.2.1 d ha (K p e R s m args below meth c F H locs cells slots ls hR hL hc hs hl)
theorem fx_dup_x1 {g : fx_G} {M : fx_M} {pc : Nat} {lv : List (Nat × Value)} {st : List Value} {h : fx_H} {Q : fx_O → fx_H → Prop} {mc ms : Nat} {a b : Value} (d : decode (fx_cc M) pc = .ok (.dup_x1, 1)) (ha : a.category = 1) (hb : b.category = 1)
    (K : fx_X g M (pc + 1) lv (a :: b :: a :: st) h Q mc ms) : fx_X g M pc lv (a :: b :: st) h Q mc ms := by
  intro p e R s m args below meth c F H locs cells slots ls hR hL hc hs hl
  exact lv_dup_x1 F.1 F.2.1 d ha hb (K p e R s m args below meth c F H locs cells slots ls hR hL hc hs hl)
theorem fx_dup_x2 {g : fx_G} {M : fx_M} {pc : Nat} {lv : List (Nat × Value)} {st : List Value} {h : fx_H} {Q : fx_O → fx_H → Prop} {mc ms : Nat} {a b e : Value} (d : decode (fx_cc M) pc = .ok (.dup_x2, 1)) (ha : a.category = 1) (hb : b.category = 1) (he : e.category = 1)
    (K : fx_X g M (pc + 1) lv (a :: b :: e :: a :: st) h Q mc ms) : fx_X g M pc lv (a :: b :: e :: st) h Q mc ms := by
  intro p e R s m args below meth c F H locs cells slots ls hR hL hc hs hl
  exact lv_dup_x2 F.1 F.2.1 d ha hb he (K p e R s m args below meth c F H locs cells slots ls hR hL hc hs hl)
theorem fx_dup2 {g : fx_G} {M : fx_M} {pc : Nat} {lv : List (Nat × Value)} {st : List Value} {h : fx_H} {Q : fx_O → fx_H → Prop} {mc ms : Nat} {a b : Value} (d : decode (fx_cc M) pc = .ok (.dup2, 1)) (ha : a.category = 1) (hb : b.category = 1)
    (K : fx_X g M (pc + 1) lv (a :: b :: a :: b :: st) h Q mc ms) : fx_X g M pc lv (a :: b :: st) h Q mc ms := by
  intro p e R s m args below meth c F H locs cells slots ls hR hL hc hs hl
  exact lv_dup2_11 F.1 F.2.1 d ha hb (K p e R s m args below meth c F H locs cells slots ls hR hL hc hs hl)
theorem fx_if_eq {g : fx_G} {M : fx_M} {pc : Nat} {lv : List (Nat × Value)} {st : List Value} {h : fx_H} {Q : fx_O → fx_H → Prop} {mc ms : Nat} {x : Int32} {off : Int} {tgt : Nat} (d : decode (fx_cc M) pc = .ok (.ifCond .eq off, 3)) (ht : (pc : Int) + off = (tgt : Int))
    (Kt : x = 0 → fx_X g M tgt lv st h Q mc ms) (Kf : ¬ x = 0 → fx_X g M (pc + 3) lv st h Q mc ms) : fx_X g M pc lv (.int x :: st) h Q mc ms := by
  intro p e R s m args below meth c F H locs cells slots ls hR hL hc hs hl
  exact lv_if_eq F.1 F.2.1 d ht (fun hcc => Kt hcc p e R s m args below meth c F H locs cells slots ls hR hL hc hs hl) (fun hcc => Kf hcc p e R s m args below meth c F H locs cells slots ls hR hL hc hs hl)
theorem fx_icmp_eq {g : fx_G} {M : fx_M} {pc : Nat} {lv : List (Nat × Value)} {st : List Value} {h : fx_H} {Q : fx_O → fx_H → Prop} {mc ms : Nat} {x y : Int32} {off : Int} {tgt : Nat} (d : decode (fx_cc M) pc = .ok (.if_icmp .eq off, 3)) (ht : (pc : Int) + off = (tgt : Int))
    (Kt : x = y → fx_X g M tgt lv st h Q mc ms) (Kf : ¬ x = y → fx_X g M (pc + 3) lv st h Q mc ms) : fx_X g M pc lv (.int y :: .int x :: st) h Q mc ms := by
  intro p e R s m args below meth c F H locs cells slots ls hR hL hc hs hl
  exact lv_icmp_eq F.1 F.2.1 d ht (fun hcc => Kt hcc p e R s m args below meth c F H locs cells slots ls hR hL hc hs hl) (fun hcc => Kf hcc p e R s m args below meth c F H locs cells slots ls hR hL hc hs hl)
theorem fx_if_ne {g : fx_G} {M : fx_M} {pc : Nat} {lv : List (Nat × Value)} {st : List Value} {h : fx_H} {Q : fx_O → fx_H → Prop} {mc ms : Nat} {x : Int32} {off : Int} {tgt : Nat} (d : decode (fx_cc M) pc = .ok (.ifCond .ne off, 3)) (ht : (pc : Int) + off = (tgt : Int))
    (Kt : ¬ x = 0 → fx_X g M tgt lv st h Q mc ms) (Kf : x = 0 → fx_X g M (pc + 3) lv st h Q mc ms) : fx_X g M pc lv (.int x :: st) h Q mc ms := by
  intro p e R s m args below meth c F H locs cells slots ls hR hL hc hs hl
  exact lv_if_ne F.1 F.2.1 d ht (fun hcc => Kt hcc p e R s m args below meth c F H locs cells slots ls hR hL hc hs hl) (fun hcc => Kf hcc p e R s m args below meth c F H locs cells slots ls hR hL hc hs hl)
theorem fx_icmp_ne {g : fx_G} {M : fx_M} {pc : Nat} {lv : List (Nat × Value)} {st : List Value} {h : fx_H} {Q : fx_O → fx_H → Prop} {mc ms : Nat} {x y : Int32} {off : Int} {tgt : Nat} (d : decode (fx_cc M) pc = .ok (.if_icmp .ne off, 3)) (ht : (pc : Int) + off = (tgt : Int))
    (Kt : ¬ x = y → fx_X g M tgt lv st h Q mc ms) (Kf : x = y → fx_X g M (pc + 3) lv st h Q mc ms) : fx_X g M pc lv (.int y :: .int x :: st) h Q mc ms := by
  intro p e R s m args below meth c F H locs cells slots ls hR hL hc hs hl
  exact lv_icmp_ne F.1 F.2.1 d ht (fun hcc => Kt hcc p e R s m args below meth c F H locs cells slots ls hR hL hc hs hl) (fun hcc => Kf hcc p e R s m args below meth c F H locs cells slots ls hR hL hc hs hl)
theorem fx_if_lt {g : fx_G} {M : fx_M} {pc : Nat} {lv : List (Nat × Value)} {st : List Value} {h : fx_H} {Q : fx_O → fx_H → Prop} {mc ms : Nat} {x : Int32} {off : Int} {tgt : Nat} (d : decode (fx_cc M) pc = .ok (.ifCond .lt off, 3)) (ht : (pc : Int) + off = (tgt : Int))
    (Kt : x < 0 → fx_X g M tgt lv st h Q mc ms) (Kf : ¬ x < 0 → fx_X g M (pc + 3) lv st h Q mc ms) : fx_X g M pc lv (.int x :: st) h Q mc ms := by
  intro p e R s m args below meth c F H locs cells slots ls hR hL hc hs hl
  exact lv_if_lt F.1 F.2.1 d ht (fun hcc => Kt hcc p e R s m args below meth c F H locs cells slots ls hR hL hc hs hl) (fun hcc => Kf hcc p e R s m args below meth c F H locs cells slots ls hR hL hc hs hl)
theorem fx_icmp_lt {g : fx_G} {M : fx_M} {pc : Nat} {lv : List (Nat × Value)} {st : List Value} {h : fx_H} {Q : fx_O → fx_H → Prop} {mc ms : Nat} {x y : Int32} {off : Int} {tgt : Nat} (d : decode (fx_cc M) pc = .ok (.if_icmp .lt off, 3)) (ht : (pc : Int) + off = (tgt : Int))
    (Kt : x < y → fx_X g M tgt lv st h Q mc ms) (Kf : ¬ x < y → fx_X g M (pc + 3) lv st h Q mc ms) : fx_X g M pc lv (.int y :: .int x :: st) h Q mc ms := by
  intro p e R s m args below meth c F H locs cells slots ls hR hL hc hs hl
  exact lv_icmp_lt F.1 F.2.1 d ht (fun hcc => Kt hcc p e R s m args below meth c F H locs cells slots ls hR hL hc hs hl) (fun hcc => Kf hcc p e R s m args below meth c F H locs cells slots ls hR hL hc hs hl)
theorem fx_if_ge {g : fx_G} {M : fx_M} {pc : Nat} {lv : List (Nat × Value)} {st : List Value} {h : fx_H} {Q : fx_O → fx_H → Prop} {mc ms : Nat} {x : Int32} {off : Int} {tgt : Nat} (d : decode (fx_cc M) pc = .ok (.ifCond .ge off, 3)) (ht : (pc : Int) + off = (tgt : Int))
    (Kt : 0 ≤ x → fx_X g M tgt lv st h Q mc ms) (Kf : ¬ 0 ≤ x → fx_X g M (pc + 3) lv st h Q mc ms) : fx_X g M pc lv (.int x :: st) h Q mc ms := by
  intro p e R s m args below meth c F H locs cells slots ls hR hL hc hs hl
  exact lv_if_ge F.1 F.2.1 d ht (fun hcc => Kt hcc p e R s m args below meth c F H locs cells slots ls hR hL hc hs hl) (fun hcc => Kf hcc p e R s m args below meth c F H locs cells slots ls hR hL hc hs hl)
theorem fx_icmp_ge {g : fx_G} {M : fx_M} {pc : Nat} {lv : List (Nat × Value)} {st : List Value} {h : fx_H} {Q : fx_O → fx_H → Prop} {mc ms : Nat} {x y : Int32} {off : Int} {tgt : Nat} (d : decode (fx_cc M) pc = .ok (.if_icmp .ge off, 3)) (ht : (pc : Int) + off = (tgt : Int))
    (Kt : y ≤ x → fx_X g M tgt lv st h Q mc ms) (Kf : ¬ y ≤ x → fx_X g M (pc + 3) lv st h Q mc ms) : fx_X g M pc lv (.int y :: .int x :: st) h Q mc ms := by
  intro p e R s m args below meth c F H locs cells slots ls hR hL hc hs hl
  exact lv_icmp_ge F.1 F.2.1 d ht (fun hcc => Kt hcc p e R s m args below meth c F H locs cells slots ls hR hL hc hs hl) (fun hcc => Kf hcc p e R s m args below meth c F H locs cells slots ls hR hL hc hs hl)
theorem fx_if_gt {g : fx_G} {M : fx_M} {pc : Nat} {lv : List (Nat × Value)} {st : List Value} {h : fx_H} {Q : fx_O → fx_H → Prop} {mc ms : Nat} {x : Int32} {off : Int} {tgt : Nat} (d : decode (fx_cc M) pc = .ok (.ifCond .gt off, 3)) (ht : (pc : Int) + off = (tgt : Int))
    (Kt : 0 < x → fx_X g M tgt lv st h Q mc ms) (Kf : ¬ 0 < x → fx_X g M (pc + 3) lv st h Q mc ms) : fx_X g M pc lv (.int x :: st) h Q mc ms := by
  intro p e R s m args below meth c F H locs cells slots ls hR hL hc hs hl
  exact lv_if_gt F.1 F.2.1 d ht (fun hcc => Kt hcc p e R s m args below meth c F H locs cells slots ls hR hL hc hs hl) (fun hcc => Kf hcc p e R s m args below meth c F H locs cells slots ls hR hL hc hs hl)
theorem fx_icmp_gt {g : fx_G} {M : fx_M} {pc : Nat} {lv : List (Nat × Value)} {st : List Value} {h : fx_H} {Q : fx_O → fx_H → Prop} {mc ms : Nat} {x y : Int32} {off : Int} {tgt : Nat} (d : decode (fx_cc M) pc = .ok (.if_icmp .gt off, 3)) (ht : (pc : Int) + off = (tgt : Int))
    (Kt : y < x → fx_X g M tgt lv st h Q mc ms) (Kf : ¬ y < x → fx_X g M (pc + 3) lv st h Q mc ms) : fx_X g M pc lv (.int y :: .int x :: st) h Q mc ms := by
  intro p e R s m args below meth c F H locs cells slots ls hR hL hc hs hl
  exact lv_icmp_gt F.1 F.2.1 d ht (fun hcc => Kt hcc p e R s m args below meth c F H locs cells slots ls hR hL hc hs hl) (fun hcc => Kf hcc p e R s m args below meth c F H locs cells slots ls hR hL hc hs hl)
theorem fx_if_le {g : fx_G} {M : fx_M} {pc : Nat} {lv : List (Nat × Value)} {st : List Value} {h : fx_H} {Q : fx_O → fx_H → Prop} {mc ms : Nat} {x : Int32} {off : Int} {tgt : Nat} (d : decode (fx_cc M) pc = .ok (.ifCond .le off, 3)) (ht : (pc : Int) + off = (tgt : Int))
    (Kt : x ≤ 0 → fx_X g M tgt lv st h Q mc ms) (Kf : ¬ x ≤ 0 → fx_X g M (pc + 3) lv st h Q mc ms) : fx_X g M pc lv (.int x :: st) h Q mc ms := by
  intro p e R s m args below meth c F H locs cells slots ls hR hL hc hs hl
  exact lv_if_le F.1 F.2.1 d ht (fun hcc => Kt hcc p e R s m args below meth c F H locs cells slots ls hR hL hc hs hl) (fun hcc => Kf hcc p e R s m args below meth c F H locs cells slots ls hR hL hc hs hl)
theorem fx_icmp_le {g : fx_G} {M : fx_M} {pc : Nat} {lv : List (Nat × Value)} {st : List Value} {h : fx_H} {Q : fx_O → fx_H → Prop} {mc ms : Nat} {x y : Int32} {off : Int} {tgt : Nat} (d : decode (fx_cc M) pc = .ok (.if_icmp .le off, 3)) (ht : (pc : Int) + off = (tgt : Int))
    (Kt : x ≤ y → fx_X g M tgt lv st h Q mc ms) (Kf : ¬ x ≤ y → fx_X g M (pc + 3) lv st h Q mc ms) : fx_X g M pc lv (.int y :: .int x :: st) h Q mc ms := by
  intro p e R s m args below meth c F H locs cells slots ls hR hL hc hs hl
  exact lv_icmp_le F.1 F.2.1 d ht (fun hcc => Kt hcc p e R s m args below meth c F H locs cells slots ls hR hL hc hs hl) (fun hcc => Kf hcc p e R s m args below meth c F H locs cells slots ls hR hL hc hs hl)
theorem fx_goto {g : fx_G} {M : fx_M} {pc : Nat} {lv : List (Nat × Value)} {st : List Value} {h : fx_H} {Q : fx_O → fx_H → Prop} {mc ms : Nat} {off : Int} {tgt : Nat} (d : decode (fx_cc M) pc = .ok (.goto off, 3)) (ht : (pc : Int) + off = (tgt : Int)) (K : fx_X g M tgt lv st h Q mc ms) : fx_X g M pc lv st h Q mc ms := by
  intro p e R s m args below meth c F H locs cells slots ls hR hL hc hs hl
  exact lv_goto F.1 F.2.1 d ht (K p e R s m args below meth c F H locs cells slots ls hR hL hc hs hl)
theorem fx_sub {g : fx_G} {M : fx_M} {pc : Nat} {lv : List (Nat × Value)} {st : List Value} {h : fx_H} {Q : fx_O → fx_H → Prop} {mc ms : Nat} (ks : List Nat) {lv' : List (Nat × Value)} (hv : lv_pick lv ks = lv') (K : fx_X g M pc lv' st h Q mc ms) : fx_X g M pc lv st h Q mc ms := by
  intro p e R s m args below meth c F H locs cells slots ls hR hL hc hs hl
  exact K p e R s m args below meth c F H locs cells slots ls hR hL hc hs (lv_sub hl ks hv)
end
section
/-! ===== fields and arrays ===== -/
/-- the own'th class's pool entry idx is the field k of the class ci; final or not -/
def fx_fw (own : String) (idx ci k : Nat) (fin : Bool) : Prop := ∃ (C : String) (T : u_T) (N : Nat) (ty : Nat → FieldType), fx_cl[ci]? = some (C, T, N) ∧ (∀ w ∈ u_ws C T N, w ∈ fx_tb) ∧ k < N ∧ Cond.fieldLink own idx (T k).1 (T k).2.1 (T k).2.2.1 ∈ fx_tb ∧
  (∀ j, j < N → parseFieldDescriptor (T j).2.2.1 = some (ty j)) ∧ (∀ a, a < N → ∀ b, b < N → a ≠ b → (T a).2.1 ≠ (T b).2.1) ∧ (T k).2.2.2 = fin ∧ (fin = true → (T k).1 = own) ∧ (fx_fk ci k = 0 → ty k = .int) ∧ (fx_fk ci k = 1 → ty k = .boolean) ∧ (fx_fk ci k = 2 → (ty k).isReference = true) ∧ fx_fk ci k < 3
theorem fx_c_kept {g : fx_G} {h h' : fx_H} {H H' : Heap} {b : Nat} {x : Nat ⊕ (Nat × Nat)} (hc : fx_c g h H b x) (hi : ∀ k, fx_i h' b k = fx_i h b k) (hr : ∀ k, fx_r h' b k = fx_r h b k) (hH : H'[b]? = H[b]?) : fx_c g h' H' b x := by
  have e1 : fx_i h' b = fx_i h b := funext hi
  have e2 : fx_r h' b = fx_r h b := funext hr
  cases x with
  | inl ci =>
    obtain ⟨⟨r, h1, h2⟩, h3⟩ := hc
    have ev : fx_v h' ci b = fx_v h ci b := by
      funext k
      simp only [fx_v, hi, hr]
    refine ⟨⟨r, h1, ?_⟩, fun k hk => by rw [hi]; exact h3 k hk⟩
    rw [ev]
    exact h2.kept hH
  | inr q =>
    obtain ⟨ak, n⟩ := q
    obtain ⟨h1, h2⟩ := hc
    have ea : fx_ar h' b ak = fx_ar h b ak := by
      unfold fx_ar
      rw [e1, e2]
    exact ⟨by rw [hH, ea]; exact h1, fun hk k => by rw [hi]; exact h2 hk k⟩
theorem fx_R_upd {g : fx_G} {h h' : fx_H} {H H' : Heap} {a : Nat} (hR : fx_R g h H) (hn : fx_n h' = fx_n h) (hs : ∀ b, fx_s h' b = fx_s h b) (hi : ∀ b, b ≠ a → ∀ k, fx_i h' b k = fx_i h b k) (hr : ∀ b, b ≠ a → ∀ k, fx_r h' b k = fx_r h b k)
    (hb : fx_b g ≤ a) (e2 : H'.size = H.size) (e3 : ∀ q, q ≠ a → H'[q]? = H[q]?) (hx : ∀ x, fx_s h a = some x → fx_c g h' H' a x) : fx_R g h' H' := by
  obtain ⟨r1, r2, r3, r4⟩ := hR
  refine ⟨by rw [e2, hn]; exact r1, by rw [hn]; exact r2, fun q hq => ?_, fun b x hbx => ?_⟩
  · rw [e3 q (Nat.ne_of_lt (Nat.lt_of_lt_of_le hq hb))]
    exact r3 q hq
  · rw [hs] at hbx
    obtain ⟨k1, k2, k3⟩ := r4 b x hbx
    refine ⟨k1, by rw [hn]; exact k2, ?_⟩
    by_cases hba : b = a
    · subst hba
      exact hx x hbx
    · exact fx_c_kept k3 (hi b hba) (hr b hba) (e3 b hba)
theorem fx_R_new {g : fx_G} {h : fx_H} {H H' : Heap} {x : Nat ⊕ (Nat × Nat)} (hR : fx_R g h H) (e2 : H'.size = H.size + 1) (e3 : ∀ q, q < H.size → H'[q]? = H[q]?) (hx : fx_c g (fx_nw h x) H' (fx_n h) x) : fx_R g (fx_nw h x) H' := by
  obtain ⟨r1, r2, r3, r4⟩ := hR
  refine ⟨by rw [e2, r1]; rfl, Nat.le_trans r2 (Nat.le_succ _), fun q hq => ?_, fun b y hby => ?_⟩
  · rw [e3 q (by rw [r1]; exact Nat.lt_of_lt_of_le hq r2)]
    exact r3 q hq
  · rw [fx_s_nw] at hby
    by_cases hb : b = fx_n h
    · rw [if_pos hb] at hby
      cases hby
      subst hb
      exact ⟨r2, Nat.lt_succ_self _, hx⟩
    · rw [if_neg hb] at hby
      obtain ⟨k1, k2, k3⟩ := r4 b y hby
      refine ⟨k1, Nat.lt_succ_of_lt k2, fx_c_kept k3 (fun k => ?_) (fun k => ?_) (e3 b (by rw [r1]; exact k2))⟩
      · rw [fx_i_nw, if_neg hb]
      · rw [fx_r_nw, if_neg hb]
theorem fx_R_skip {g : fx_G} {h : fx_H} {H H' : Heap} {n : Nat} (hR : fx_R g h H) (e2 : H'.size = H.size + n) (e3 : ∀ q, q < H.size → H'[q]? = H[q]?) : fx_R g (fx_sk h n) H' := by
  obtain ⟨r1, r2, r3, r4⟩ := hR
  refine ⟨by rw [e2, r1]; rfl, Nat.le_trans r2 (Nat.le_add_right _ _), fun q hq => ?_, fun b y hby => ?_⟩
  · rw [e3 q (by rw [r1]; exact Nat.lt_of_lt_of_le hq r2)]
    exact r3 q hq
  · obtain ⟨k1, k2, k3⟩ := r4 b y hby
    exact ⟨k1, Nat.lt_of_lt_of_le k2 (Nat.le_add_right _ _), fx_c_kept k3 (fun _ => rfl) (fun _ => rfl) (e3 b (by rw [r1]; exact k2))⟩
section FXH
variable {g : fx_G} {M : fx_M} {pc : Nat} {lv : List (Nat × Value)} {st : List Value} {h : fx_H} {Q : fx_O → fx_H → Prop} {mc ms : Nat}
theorem fx_getv (ok : fx_ok g) {idx ci a k : Nat} {fin : Bool} (hf : fx_fw (fx_y M).cls idx ci k fin) (hs : fx_s h a = some (.inl ci)) (d : decode (fx_cc M) pc = .ok (.getfield idx, 3)) (K : fx_X g M (pc + 3) lv (fx_v h ci a k :: st) h Q mc ms) : fx_X g M pc lv (.ref a :: st) h Q mc ms := by
  intro p e R s m args below meth c F H locs cells slots ls hR hL hc hs' hl
  obtain ⟨C, T, N, ty, hcl, hin, hk, hlk, -⟩ := hf
  have hW := F.2.2.2.2.2.1
  obtain ⟨⟨r, h1, cell, q1, q2, q3, q4⟩, -⟩ := (hR.2.2.2 a _ hs).2.2
  have hr : r = (C, T, N) := Option.some.inj (h1.symm.trans hcl)
  subst hr
  have hts : ∀ w ∈ u_ws C T N, w.before args s = true := fun w hw => fx_word ok (hin w hw) (fx_lay hw) hW
  obtain ⟨hS, hfc, kC, hkC, hkind⟩ := fx_Kn ok hW hcl
  obtain ⟨cf, kf, fi, f, hi, hsl⟩ := hS k hk
  refine W.getf F.1 F.2.1 F.2.2.2.2.2.2.1 (fx_word ok hlk rfl hW) hi (u_facts hfc hkC (u_lays hts (fun w hw => hw) hk) hi).1 q1 (by rw [q3]; exact fun h => by cases h) (v := fx_v h ci a k) ?_ rfl rfl d (K p e R s m args below meth c F H locs cells slots ls hR hL hc hs' hl)
  rw [hsl, q4 k hk]
theorem fx_geti (ok : fx_ok g) {idx ci a k : Nat} {fin : Bool} (hf : fx_fw (fx_y M).cls idx ci k fin) (hs : fx_s h a = some (.inl ci)) (d : decode (fx_cc M) pc = .ok (.getfield idx, 3)) (hk : fx_fk ci k ≠ 2) (K : fx_X g M (pc + 3) lv (.int (fx_i h a k) :: st) h Q mc ms) : fx_X g M pc lv (.ref a :: st) h Q mc ms := by
  refine fx_getv ok hf hs d ?_
  rw [fx_v, if_neg hk]
  exact K
theorem fx_getr (ok : fx_ok g) {idx ci a k b : Nat} {fin : Bool} (hf : fx_fw (fx_y M).cls idx ci k fin) (hs : fx_s h a = some (.inl ci)) (d : decode (fx_cc M) pc = .ok (.getfield idx, 3)) (hk : fx_fk ci k = 2) (hb : fx_r h a k = some b) (K : fx_X g M (pc + 3) lv (.ref b :: st) h Q mc ms) : fx_X g M pc lv (.ref a :: st) h Q mc ms := by
  refine fx_getv ok hf hs d ?_
  rw [fx_v, if_pos hk, hb]
  exact K
/-- a store into a field, in general: h' says what is there then -/
theorem fx_putv (ok : fx_ok g) {idx ci a k : Nat} {fin : Bool} {v : Value} {h' : fx_H} (hf : fx_fw (fx_y M).cls idx ci k fin) (hs : fx_s h a = some (.inl ci)) (hfin : fin = true → (fx_y M).name = "<init>") (d : decode (fx_cc M) pc = .ok (.putfield idx, 3))
    (hty : ∀ ty : FieldType, (fx_fk ci k = 0 → ty = .int) → (fx_fk ci k = 1 → ty = .boolean) → (fx_fk ci k = 2 → ty.isReference = true) → narrow ty v = v ∧ fits ty v = true)
    (hn' : fx_n h' = fx_n h) (hs' : ∀ b, fx_s h' b = fx_s h b) (hi' : ∀ b, b ≠ a → ∀ j, fx_i h' b j = fx_i h b j) (hr' : ∀ b, b ≠ a → ∀ j, fx_r h' b j = fx_r h b j) (hv : fx_v h' ci a k = v) (hv' : ∀ j, j ≠ k → fx_v h' ci a j = fx_v h ci a j) (hb' : (∀ j, fx_fk ci j = 1 → fx_i h a j = 0 ∨ fx_i h a j = 1) → ∀ j, fx_fk ci j = 1 → fx_i h' a j = 0 ∨ fx_i h' a j = 1)
    (K : fx_X g M (pc + 3) lv st h' Q mc ms) : fx_X g M pc lv (v :: .ref a :: st) h Q mc ms := by
  intro p e R s m args below meth c F H locs cells slots ls hR hL hc hs9 hl
  obtain ⟨C, T, N, ty, hcl, hin, hk, hlk, hty0, hnm, hfl, hdecl, ht0, ht1, ht2, -⟩ := hf
  have hW := F.2.2.2.2.2.1
  obtain ⟨hba, -, hcell⟩ := hR.2.2.2 a _ hs
  obtain ⟨⟨r, h1, cell, q1, q2, q3, q4⟩, hbool⟩ := hcell
  have hr : r = (C, T, N) := Option.some.inj (h1.symm.trans hcl)
  subst hr
  have hts : ∀ w ∈ u_ws C T N, w.before args s = true := fun w hw => fx_word ok (hin w hw) (fx_lay hw) hW
  have hKn := fx_Kn ok hW hcl
  have hap : ∀ x y, x < N → y < N → x ≠ y → ((fx_D g).2 ci) x ≠ ((fx_D g).2 ci) y := by
    intro x y hx hy hne
    obtain ⟨_, _, _, fa, hia, ea⟩ := hKn.1 x hx
    obtain ⟨_, _, _, fb, hib, eb⟩ := hKn.1 y hy
    rw [← ea, ← eb]
    refine u_apart (u_lays hts (fun w hw => hw) hx) (u_lays hts (fun w hw => hw) hy) hia hib ?_
    rw [(State.fieldFound?_type hia (hty0 x hx)).1, (State.fieldFound?_type hib (hty0 y hy)).1]
    exact hnm x hx y hy hne
  obtain ⟨hS, hfc, kC, hkC, hkind⟩ := hKn
  obtain ⟨cf, kf, fi, f, hi, hsl⟩ := hS k hk
  obtain ⟨hnar, hfit⟩ := hty (ty k) ht0 ht1 ht2
  have hlay := hts _ (u_in_lay hk)
  unfold u_lay at hlay
  have hst := (u_facts hfc hkC (u_lays hts (fun w hw => hw) hk) hi).1
  have fin9 : ∀ H' : Heap, H'[a]? = some (cell.setSlot f.slot v) → H'.size = H.size → (∀ q, q ≠ a → H'[q]? = H[q]?) → W p (fx_l g) e R s m args below meth c H' (locs ++ [⟨a, f.slot⟩]) cells slots (fx_E g Q R s below) (F0 m (pc + 3) ls st) := by
    intro H' e1 e2 e3
    refine K p e R s m args below meth c F H' _ cells slots ls ?_ (t_lc hL hba) hc hs9 hl
    refine fx_R_upd hR hn' hs' hi' hr' hba e2 e3 (fun x hx => ?_)
    cases hs.symm.trans hx
    rw [hsl] at e1
    refine ⟨⟨(C, T, N), hcl, t_OB.to (V := updV (fx_v h ci a) k v) ⟨_, e1, q2, q3, t_set q4 hap hk v⟩ (fun j _ => ?_)⟩, hb' hbool⟩
    by_cases hj : j = k
    · subst hj
      simp only [updV, if_pos]
      exact hv.symm
    · simp only [updV, if_neg hj]
      exact (hv' j hj).symm
  cases fin with
  | false =>
    rw [if_neg (by rw [hfl]; decide)] at hlay
    have h6 := u_store hfc hkC hkind hlay hi (hty0 k hk) hnar hfit
    exact W.putK F.1 F.2.1 (f := f) ⟨F.2.2.2.2.2.2.1, fx_word ok hlk rfl hW, ⟨_, _, _, hi⟩, hst⟩ (by rw [q2]; exact h6) q1 q3 (by rw [hsl]; exact k2_hasslot (q4 k hk)) rfl rfl d fin9
  | true =>
    rw [if_pos hfl] at hlay
    have hcf : m.cls = cf := by
      obtain ⟨_, _, c', _, _, _, -, -, hf', -, -, -, hown2, -⟩ := Cond.laysFinal_spec hlay
      have e1 : c' = cf := by have := hi.symm.trans hf'; simp at this; exact this.1.symm
      rw [hdecl rfl] at hown2
      rw [← e1]; exact Option.some.inj (F.2.2.2.2.2.2.1.symm.trans hown2)
    have h6 := u_fits hfc hkC hkind (Or.inr hlay) hi (hty0 k hk) hnar hfit
    exact W.putFinK F.1 F.2.1 F.2.2.2.2.2.2.1 (fx_word ok hlk rfl hW) hi hst hcf (F.2.2.2.2.2.2.2.1.trans (hfin rfl)) (by rw [q2]; exact h6) q1 q3 (by rw [hsl]; exact k2_hasslot (q4 k hk)) rfl rfl d fin9
theorem fx_nb {x : Int32} (h : x = 0 ∨ x = 1) : narrow .boolean (.int x) = .int x ∧ fits .boolean (.int x) = true := by
  rcases h with rfl | rfl <;> decide
theorem fx_puti (ok : fx_ok g) {idx ci a k : Nat} {fin : Bool} {x : Int32} (hf : fx_fw (fx_y M).cls idx ci k fin) (hs : fx_s h a = some (.inl ci)) (hfin : fin = true → (fx_y M).name = "<init>") (d : decode (fx_cc M) pc = .ok (.putfield idx, 3)) (hk : fx_fk ci k = 0 ∨ (fx_fk ci k = 1 ∧ (x = 0 ∨ x = 1)))
    (K : fx_X g M (pc + 3) lv st (fx_wi h a k x) Q mc ms) : fx_X g M pc lv (.int x :: .ref a :: st) h Q mc ms := by
  have hk2 : fx_fk ci k ≠ 2 := by omega
  refine fx_putv ok (h' := fx_wi h a k x) hf hs hfin d (fun ty t0 t1 _ => ?_) rfl (fun _ => rfl) (fun b hb j => ?_) (fun _ _ _ => rfl) ?_ (fun j hj => ?_) (fun hb j hj => ?_) K
  · rcases hk with hk | ⟨hk, hx⟩
    · rw [t0 hk]
      exact ⟨rfl, rfl⟩
    · rw [t1 hk]
      exact fx_nb hx
  · rw [fx_i_wi, if_neg (fun z => hb z.1)]
  · rw [fx_v, if_neg hk2, fx_i_wi, if_pos ⟨rfl, rfl⟩]
  · have e9 : fx_i (fx_wi h a k x) a j = fx_i h a j := by rw [fx_i_wi, if_neg (fun z => hj z.2)]
    simp only [fx_v, e9, fx_r_wi]
  · rw [fx_i_wi]
    by_cases hjk : j = k
    · rw [if_pos ⟨rfl, hjk⟩]
      subst hjk
      rcases hk with hk | ⟨_, hx⟩
      · omega
      · exact hx
    · rw [if_neg (fun z => hjk z.2)]
      exact hb j hj
theorem fx_putr (ok : fx_ok g) {idx ci a k b : Nat} {fin : Bool} (hf : fx_fw (fx_y M).cls idx ci k fin) (hs : fx_s h a = some (.inl ci)) (hfin : fin = true → (fx_y M).name = "<init>") (d : decode (fx_cc M) pc = .ok (.putfield idx, 3)) (hk : fx_fk ci k = 2)
    (K : fx_X g M (pc + 3) lv st (fx_wr h a k (some b)) Q mc ms) : fx_X g M pc lv (.ref b :: .ref a :: st) h Q mc ms := by
  refine fx_putv ok (h' := fx_wr h a k (some b)) hf hs hfin d (fun ty _ _ t2 => ?_) rfl (fun _ => rfl) (fun _ _ _ => rfl) (fun b hb j => ?_) ?_ (fun j hj => ?_) (fun hb j hj => hb j hj) K
  · have := t2 hk
    cases ty <;> first | exact ⟨rfl, rfl⟩ | cases this
  · rw [fx_r_wr, if_neg (fun z => hb z.1)]
  · rw [fx_v, if_pos hk, fx_r_wr, if_pos ⟨rfl, rfl⟩]
    rfl
  · have e9 : fx_r (fx_wr h a k (some b)) a j = fx_r h a j := by rw [fx_r_wr, if_neg (fun z => hj z.2)]
    simp only [fx_v, e9, fx_i_wr]
theorem fx_in {i : Int32} {n : Nat} (hin : vp_in i n) : i.toNatClampNeg < n := Nat.not_le.mp fun q => hin (Or.inr q)
theorem fx_iaload (ok : fx_ok g) {a n : Nat} {i : Int32} (hs : fx_s h a = some (.inr (0, n))) (hin : vp_in i n) (d : decode (fx_cc M) pc = .ok (.iaload, 1)) (K : fx_X g M (pc + 1) lv (.int (fx_i h a i.toNatClampNeg) :: st) h Q mc ms) : fx_X g M pc lv (.int i :: .ref a :: st) h Q mc ms := by
  intro p e R s m args below meth c F H locs cells slots ls hR hL hc hs' hl
  obtain ⟨hcell, -⟩ := (hR.2.2.2 a _ hs).2.2
  exact W.iald (v := .int (fx_i h a i.toNatClampNeg)) F.1 F.2.1 hcell ((fx_Ty ok F.2.2.2.2.2.1 (ak := 0) rfl).1 n (fun j => .int (fx_i h a j))) (fun q => by cases q) (by show ¬ (i < 0 ∨ (arrV _ _ _).slots.size ≤ _); rw [arrV_size]; exact hin) (by show (arrV _ _ _).slots[_]? = _; rw [arrV_read _ _ (fx_in hin)]) rfl rfl d (K p e R s m args below meth c F H locs cells slots ls hR hL hc hs' hl)
theorem fx_baload (ok : fx_ok g) {a n : Nat} {i : Int32} (hs : fx_s h a = some (.inr (1, n))) (hin : vp_in i n) (d : decode (fx_cc M) pc = .ok (.baload, 1)) (K : fx_X g M (pc + 1) lv (.int (fx_i h a i.toNatClampNeg) :: st) h Q mc ms) : fx_X g M pc lv (.int i :: .ref a :: st) h Q mc ms := by
  intro p e R s m args below meth c F H locs cells slots ls hR hL hc hs' hl
  obtain ⟨hcell, -⟩ := (hR.2.2.2 a _ hs).2.2
  exact W.zald (v := .int (fx_i h a i.toNatClampNeg)) F.1 F.2.1 hcell ((fx_Ty ok F.2.2.2.2.2.1 (ak := 1) rfl).1 n (fun j => .int (fx_i h a j))) (fun q => by cases q) (by show ¬ (i < 0 ∨ (arrV _ _ _).slots.size ≤ _); rw [arrV_size]; exact hin) (by show (arrV _ _ _).slots[_]? = _; rw [arrV_read _ _ (fx_in hin)]) rfl rfl d (K p e R s m args below meth c F H locs cells slots ls hR hL hc hs' hl)
theorem fx_laload (ok : fx_ok g) {a n : Nat} {i : Int32} (hs : fx_s h a = some (.inr (2, n))) (hin : vp_in i n) (d : decode (fx_cc M) pc = .ok (.laload, 1)) (K : fx_X g M (pc + 1) lv (.long (fx_i h a i.toNatClampNeg).toInt64 :: st) h Q mc ms) : fx_X g M pc lv (.int i :: .ref a :: st) h Q mc ms := by
  intro p e R s m args below meth c F H locs cells slots ls hR hL hc hs' hl
  obtain ⟨hcell, -⟩ := (hR.2.2.2 a _ hs).2.2
  exact W.lald (v := .long (fx_i h a i.toNatClampNeg).toInt64) F.1 F.2.1 hcell ((fx_Ty ok F.2.2.2.2.2.1 (ak := 2) rfl).1 n (fun j => .long (fx_i h a j).toInt64)) (fun q => by cases q) (by show ¬ (i < 0 ∨ (arrV _ _ _).slots.size ≤ _); rw [arrV_size]; exact hin) (by show (arrV _ _ _).slots[_]? = _; rw [arrV_read _ _ (fx_in hin)]) rfl rfl d (K p e R s m args below meth c F H locs cells slots ls hR hL hc hs' hl)
theorem fx_aaload (ok : fx_ok g) {a n ak b : Nat} {ty : FieldType} {i : Int32} (hs : fx_s h a = some (.inr (ak, n))) (hak : 3 ≤ ak) (hty : fx_tys[ak]? = some ty) (hrf : ty.isReference = true) (hin : vp_in i n) (hb : fx_r h a i.toNatClampNeg = some b) (d : decode (fx_cc M) pc = .ok (.aaload, 1)) (K : fx_X g M (pc + 1) lv (.ref b :: st) h Q mc ms) : fx_X g M pc lv (.int i :: .ref a :: st) h Q mc ms := by
  intro p e R s m args below meth c F H locs cells slots ls hR hL hc hs' hl
  obtain ⟨hcell, -⟩ := (hR.2.2.2 a _ hs).2.2
  have ea : fx_ar h a ak = .inr (.inr (.inr (.inr (fx_r h a)))) := by
    rw [fx_ar, if_neg (by omega), if_neg (by omega)]
  rw [ea] at hcell
  exact W.aald (v := .ref b) F.1 F.2.1 hcell ((fx_Ty ok F.2.2.2.2.2.1 hty).1 n (fun j => va_rf (fx_r h a j))) hrf (fun q => by cases q) (by show ¬ (i < 0 ∨ (arrV _ _ _).slots.size ≤ _); rw [arrV_size]; exact hin) (by show (arrV _ _ _).slots[_]? = _; rw [arrV_read _ _ (fx_in hin), hb]; rfl) rfl rfl d (K p e R s m args below meth c F H locs cells slots ls hR hL hc hs' hl)
theorem fx_alen (ok : fx_ok g) {a n ak : Nat} {ty : FieldType} {v : Int32} (hs : fx_s h a = some (.inr (ak, n))) (hty : fx_tys[ak]? = some ty) (hv : Int32.ofNat n = v) (d : decode (fx_cc M) pc = .ok (.arraylength, 1)) (K : fx_X g M (pc + 1) lv (.int v :: st) h Q mc ms) : fx_X g M pc lv (.ref a :: st) h Q mc ms := by
  intro p e R s m args below meth c F H locs cells slots ls hR hL hc hs' hl
  subst hv
  obtain ⟨hcell, -⟩ := (hR.2.2.2 a _ hs).2.2
  have h1 := (fx_Ty ok F.2.2.2.2.2.1 hty).1 n
  have hk := K p e R s m args below meth c F H locs cells slots ls hR hL hc hs' hl
  rcases hx : fx_ar h a ak with f | f | f | f | f
  · rw [hx, vp_cell_i] at hcell
    exact W.alen (n := Int32.ofNat n) F.1 F.2.1 hcell (h1 _) (by rw [arrV_size] <;> rfl) rfl rfl d hk
  · rw [hx, vp_cell_l] at hcell
    exact W.alen (n := Int32.ofNat n) F.1 F.2.1 hcell (h1 _) (by rw [arrV_size] <;> rfl) rfl rfl d hk
  · rw [hx, vp_cell_f] at hcell
    exact W.alen (n := Int32.ofNat n) F.1 F.2.1 hcell (h1 _) (by rw [arrV_size] <;> rfl) rfl rfl d hk
  · rw [hx, vp_cell_d] at hcell
    exact W.alen (n := Int32.ofNat n) F.1 F.2.1 hcell (h1 _) (by rw [arrV_size] <;> rfl) rfl rfl d hk
  · rw [hx, vp_cell_q] at hcell
    exact W.alen (n := Int32.ofNat n) F.1 F.2.1 hcell (h1 _) (by rw [arrV_size] <;> rfl) rfl rfl d hk
/-- an array's cell behind a store of an int -/
theorem fx_R_ast {H H' : Heap} {a n j : Nat} {x : Int32} {ak : Nat} (hR : fx_R g h H) (hs : fx_s h a = some (.inr (ak, n))) (hak : ak < 2) (hx : ak = 1 → x = 0 ∨ x = 1) (e1 : H'[a]? = some ((arrV (fx_dA g ak) n (fun i => .int (fx_i h a i))).setSlot j (.int x))) (e2 : H'.size = H.size) (e3 : ∀ q, q ≠ a → H'[q]? = H[q]?) : fx_R g (fx_wi h a j x) H' := by
  obtain ⟨hba, -, -, hbool⟩ := hR.2.2.2 a _ hs
  refine fx_R_upd hR rfl (fun _ => rfl) (fun b hb k => ?_) (fun _ _ _ => rfl) hba e2 e3 (fun y hy => ?_)
  · rw [fx_i_wi, if_neg (fun z => hb z.1)]
  · cases hs.symm.trans hy
    have ei : ∀ k, fx_i (fx_wi h a j x) a k = if k = j then x else fx_i h a k := by
      intro k
      rw [fx_i_wi]
      by_cases hk : k = j
      · rw [if_pos ⟨rfl, hk⟩, if_pos hk]
      · rw [if_neg (fun z => hk z.2), if_neg hk]
    refine ⟨?_, fun h1 k => ?_⟩
    · rw [e1, fx_ar, if_pos hak, vp_cell_i, arrV_store]
      congr 2
      funext k
      rw [ei]
      by_cases hk : k = j
      · simp [updV, hk]
      · simp [updV, hk]
    · rw [ei]
      by_cases hk : k = j
      · rw [if_pos hk]; exact hx h1
      · rw [if_neg hk]; exact hbool h1 k
theorem fx_iastore (ok : fx_ok g) {a n : Nat} {i x : Int32} (hs : fx_s h a = some (.inr (0, n))) (hin : vp_in i n) (d : decode (fx_cc M) pc = .ok (.iastore, 1)) (K : fx_X g M (pc + 1) lv st (fx_wi h a i.toNatClampNeg x) Q mc ms) : fx_X g M pc lv (.int x :: .int i :: .ref a :: st) h Q mc ms := by
  intro p e R s m args below meth c F H locs cells slots ls hR hL hc hs' hl
  obtain ⟨hba, -, hcell, -⟩ := hR.2.2.2 a _ hs
  refine W.iast F.1 F.2.1 hcell ((fx_Ty ok F.2.2.2.2.2.1 (ak := 0) rfl).1 n (fun j => .int (fx_i h a j))) (fun q => by cases q) (by show ¬ (i < 0 ∨ (arrV _ _ _).slots.size ≤ _); rw [arrV_size]; exact hin) rfl rfl d fun H1 e1 z oq => ?_
  exact K p e R s m args below meth c F H1 _ cells slots ls (fx_R_ast hR hs (by decide) (fun q => by cases q) e1 z oq) (t_lc hL hba) hc hs' hl
theorem fx_bastore (ok : fx_ok g) {a n : Nat} {i x : Int32} (hs : fx_s h a = some (.inr (1, n))) (hx : x = 0 ∨ x = 1) (hin : vp_in i n) (d : decode (fx_cc M) pc = .ok (.bastore, 1)) (K : fx_X g M (pc + 1) lv st (fx_wi h a i.toNatClampNeg x) Q mc ms) : fx_X g M pc lv (.int x :: .int i :: .ref a :: st) h Q mc ms := by
  intro p e R s m args below meth c F H locs cells slots ls hR hL hc hs' hl
  obtain ⟨hba, -, hcell, -⟩ := hR.2.2.2 a _ hs
  refine W.zast F.1 F.2.1 hcell ((fx_Ty ok F.2.2.2.2.2.1 (ak := 1) rfl).1 n (fun j => .int (fx_i h a j))) (fun q => by cases q) (by show ¬ (i < 0 ∨ (arrV _ _ _).slots.size ≤ _); rw [arrV_size]; exact hin) rfl rfl d fun H1 e1 z oq => ?_
  rw [(fx_nb hx).1] at e1
  exact K p e R s m args below meth c F H1 _ cells slots ls (fx_R_ast hR hs (by decide) (fun _ => hx) e1 z oq) (t_lc hL hba) hc hs' hl
theorem fx_lastore (ok : fx_ok g) {a n : Nat} {i x : Int32} (hs : fx_s h a = some (.inr (2, n))) (hin : vp_in i n) (d : decode (fx_cc M) pc = .ok (.lastore, 1)) (K : fx_X g M (pc + 1) lv st (fx_wi h a i.toNatClampNeg x) Q mc ms) : fx_X g M pc lv (.long x.toInt64 :: .int i :: .ref a :: st) h Q mc ms := by
  intro p e R s m args below meth c F H locs cells slots ls hR hL hc hs' hl
  obtain ⟨hba, -, hcell, -⟩ := hR.2.2.2 a _ hs
  refine W.last F.1 F.2.1 hcell ((fx_Ty ok F.2.2.2.2.2.1 (ak := 2) rfl).1 n (fun j => .long (fx_i h a j).toInt64)) (fun q => by cases q) (by show ¬ (i < 0 ∨ (arrV _ _ _).slots.size ≤ _); rw [arrV_size]; exact hin) rfl rfl d fun H1 e1 z oq => ?_
  refine K p e R s m args below meth c F H1 _ cells slots ls (fx_R_upd hR rfl (fun _ => rfl) (fun b hb k => ?_) (fun _ _ _ => rfl) hba z oq (fun y hy => ?_)) (t_lc hL hba) hc hs' hl
  · rw [fx_i_wi, if_neg (fun z => hb z.1)]
  · cases hs.symm.trans hy
    refine ⟨?_, fun q => by cases q⟩
    rw [e1]
    show some ((arrV (fx_dA g 2) n (fun j => .long (fx_i h a j).toInt64)).setSlot _ _) = some (arrV (fx_dA g 2) n (fun j => .long (fx_i (fx_wi h a i.toNatClampNeg x) a j).toInt64))
    rw [arrV_store]
    congr 2
    funext k
    rw [fx_i_wi]
    by_cases hk : k = i.toNatClampNeg
    · simp [updV, hk]
    · simp [updV, hk]
end FXH
end
section
/-! ===== how a method ends; calls ===== -/
section FXC
variable {g : fx_G} {M M' : fx_M} {pc : Nat} {lv : List (Nat × Value)} {st : List Value} {h : fx_H} {Q : fx_O → fx_H → Prop} {mc ms : Nat}
theorem fx_of_MQ {p : Program} {e : Env} {R : Room} {s : State} {m : MethodId} {args : Array Value} {below : List Frame} {meth : Method} {c : Code} {H : Heap} {locs : List Loc} {cells slots : Nat} {gf : JFrame}
    (hw : W p (fx_l g) e R s m args below meth c H locs R.cells R.slots (MQ below (fun _ U o t => ∃ (o' : fx_O) (h' : fx_H), Q o' h' ∧ fx_R g h' t.heap ∧ fx_oc U t o o') args s R.cells R.slots (fun q => fx_b g ≤ q)) gf) (hc : cells ≤ R.cells) (hs : slots ≤ R.slots) :
    W p (fx_l g) e R s m args below meth c H locs cells slots (fx_E g Q R s below) gf := by
  intro T hT X
  obtain ⟨t, st, o, h1, h2, h3, L, ⟨h4, h5, h6⟩, h7⟩ := W.widen hc hs hw T hT X
  exact ⟨t, st, o, h1, h2, L, h5, h6, h7, h3⟩
theorem fx_ireturn {x : Int32} (hr : fx_rt M = some .int) (d : decode (fx_cc M) pc = .ok (.ireturn, 1)) (hq : Q (.inl (some x)) h) : fx_X g M pc lv [.int x] h Q mc ms := by
  intro p e R s m args below meth c F H locs cells slots ls hR hL hc hs hl
  exact fx_of_MQ (W.iret F.1 F.2.1 (F.2.2.2.1.trans hr) (fun t ht _ => ⟨.inl (some x), h, hq, by rw [ht]; exact hR, rfl⟩) hL d F.2.2.2.2.1) (Nat.le_trans (Nat.le_add_right _ _) hc) (Nat.le_trans (Nat.le_add_right _ _) hs)
theorem fx_zreturn {x : Int32} (hr : fx_rt M = some .boolean) (hx : x = 0 ∨ x = 1) (d : decode (fx_cc M) pc = .ok (.ireturn, 1)) (hq : Q (.inl (some x)) h) : fx_X g M pc lv [.int x] h Q mc ms := by
  intro p e R s m args below meth c F H locs cells slots ls hR hL hc hs hl
  exact fx_of_MQ (W.zret F.1 F.2.1 (F.2.2.2.1.trans hr) (fx_nb hx).1 (fun t ht _ => ⟨.inl (some x), h, hq, by rw [ht]; exact hR, rfl⟩) hL d F.2.2.2.2.1) (Nat.le_trans (Nat.le_add_right _ _) hc) (Nat.le_trans (Nat.le_add_right _ _) hs)
theorem fx_vreturn (hr : fx_rt M = none) (d : decode (fx_cc M) pc = .ok (.return_, 1)) (hq : Q (.inl none) h) : fx_X g M pc lv [] h Q mc ms := by
  intro p e R s m args below meth c F H locs cells slots ls hR hL hc hs hl
  exact fx_of_MQ (W.vret F.1 F.2.1 (F.2.2.2.1.trans hr) (fun t ht _ => ⟨.inl none, h, hq, by rw [ht]; exact hR, rfl⟩) hL d F.2.2.2.2.1) (Nat.le_trans (Nat.le_add_right _ _) hc) (Nat.le_trans (Nat.le_add_right _ _) hs)
theorem fx_ldc (ok : fx_ok g) {idx : Nat} {v : Int32} (hk : Cond.constant (fx_y M).cls idx v ∈ fx_tb) (d : decode (fx_cc M) pc = .ok (.ldc idx, 2)) (K : fx_X g M (pc + 2) lv (.int v :: st) h Q mc ms) : fx_X g M pc lv st h Q mc ms := by
  intro p e R s m args below meth c F H locs cells slots ls hR hL hc hs hl
  exact W.ldc F.1 F.2.1 F.2.2.2.2.2.2.1 (fx_word ok hk (by first | rfl | simp [goodWord, Cond.onTables, Cond.keeps, Cond.steady]) F.2.2.2.2.2.1) rfl d (K p e R s m args below meth c F H locs cells slots ls hR hL hc hs hl)
theorem fx_lcmp {x y : Int64} (d : decode (fx_cc M) pc = .ok (.lcmp, 1)) (K : fx_X g M (pc + 1) lv (.int (lg_cmp x y) :: st) h Q mc ms) : fx_X g M pc lv (.long y :: .long x :: st) h Q mc ms := by
  intro p e R s m args below meth c F H locs cells slots ls hR hL hc hs hl
  exact W.lcmp F.1 F.2.1 d (K p e R s m args below meth c F H locs cells slots ls hR hL hc hs hl)
/-- an exception of the class E has come over the frame of M at pc -/
def fx_T (g : fx_G) (M : fx_M) (pc : Nat) (lv : List (Nat × Value)) (E : String) (h : fx_H) (Q : fx_O → fx_H → Prop) (mc ms : Nat) : Prop :=
  ∀ (p : Program) (e : Env) (R : Room) (s : State) (m : MethodId) (args : Array Value) (below : List Frame) (meth : Method) (c : Code), fx_F g M p R s m meth c →
  ∀ (H : Heap) (locs : List Loc) (cells slots : Nat) (ls : Array Slot) (rest : List Value) (q : Addr) (ce : Cell), fx_R g h H → (∀ z ∈ locs, fx_b g ≤ z.base) → cells + mc ≤ R.cells → slots + ms ≤ R.slots → lv_has ls (fx_ml M) lv →
  H[q]? = some ce → ce.vm = .none → s.vm.findClass E = some ce.cls → ∀ T : State, T.heap = H → Stand p (fx_l g) e R s m args below meth c T locs cells slots →
  ∃ t, Steps p.tables e below ((T.setTop (F0 m pc ls rest)).pushFrame (.throwing q)) t ∧ fx_E g Q R s below t
theorem fx_T_out {E : String} (hh : fx_hd M = []) (hq : Q (.inr E) h) : fx_T g M pc lv E h Q mc ms := by
  intro p e R s m args below meth c F H locs cells slots ls rest q ce hR hL hc hs hl hce hv hcl T hT X
  have hrows : fx_rows c = [] := F.2.2.2.2.2.2.2.2.1.trans hh
  have hout : ∀ x ∈ c.exceptionTable.toList, covers x pc = false := by
    intro x hx
    have h9 : (x.startPc, x.endPc, x.handlerPc, x.catchType) ∈ fx_rows c := List.mem_map.mpr ⟨x, hx, rfl⟩
    rw [hrows] at h9
    exact nomatch h9
  obtain ⟨st1, hrun, hend, hW, hsm⟩ := X.leaveThrown q (g := F0 m pc ls rest) rfl rfl rfl hout F.2.2.2.2.1
  refine ⟨_, st1, .threw q, hrun, hend, locs, hW, hsm.mono (Nat.le_trans (Nat.le_add_right _ _) hc) (Nat.le_trans (Nat.le_add_right _ _) hs), hL, .inr E, h, hq, ?_, q, ce, rfl, ?_, hv, hcl⟩
  · show fx_R g h T.heap
    rw [hT]; exact hR
  · show T.heap[q]? = some ce
    rw [hT]; exact hce
/-- the instruction at pc calls M' with as, and leaves rest of the stack st -/
def fx_Site (g : fx_G) (M M' : fx_M) (pc : Nat) (h : fx_H) (as rest st : List Value) : Prop :=
  ∀ (p : Program) (e : Env) (R : Room) (s : State) (m : MethodId) (args : Array Value) (below : List Frame) (meth : Method) (c : Code), fx_F g M p R s m meth c →
  ∀ (H : Heap) (locs : List Loc) (cells slots : Nat) (ls : Array Slot), fx_R g h H → ls.size = c.maxLocals → ∀ T : State, T.heap = H → Stand p (fx_l g) e R s m args below meth c T locs cells slots →
  ∃ (vm₁ : Vm) (mk : MethodId) (ig : Instr), Stand p (fx_l g) e R s m args below meth c (T.setVm vm₁) locs cells slots ∧ (T.setVm vm₁).methodNamed? (fx_y M') = some mk ∧ decode c.code pc = .ok (ig, 3) ∧
    ∀ target, Steps p.tables e below (doInvoke e ((T.setVm vm₁).setTop (F0 m pc ls rest)) [] mk as.toArray).1 target → Steps p.tables e below (T.setTop (F0 m pc ls st)) target
theorem fx_named {s : State} {args : Array Value} (hw : (fx_cw M).before args s = true) : ∃ m, s.methodNamed? (fx_y M) = some m := by
  obtain ⟨y, cc, ml, rt, lev, hd⟩ := M
  cases hd with
  | nil => exact Cond.code_named (show (Cond.code y cc ml rt).before args s = true from hw)
  | cons a l =>
    have hw' : (Cond.codeWith y cc ml rt (a :: l)).before args s = true := hw
    show ∃ m, s.methodNamed? y = some m
    cases hn : s.methodNamed? y with
    | some m => exact ⟨m, rfl⟩
    | none => simp [Cond.before, Cond.holds, Cond.value, hn] at hw'
theorem fx_gcw : goodWord (fx_cw M) = true := by
  obtain ⟨y, cc, ml, rt, lev, hd⟩ := M
  cases hd <;> first | rfl | simp [fx_cw, goodWord, Cond.onTables, Cond.keeps, Cond.steady]
/-- the call itself: it comes back, or throws -/
theorem fx_back (ok : fx_ok g) {as : List Value} {Q' : fx_O → fx_H → Prop} {mc' ms' : Nat} (hC : fx_C g M' as h Q' mc' ms') (hcw : fx_cw M' ∈ fx_tb) (hini : Cond.initialized (fx_y M').cls ∈ fx_tb)
    {p : Program} {e : Env} {R : Room} {s : State} {m : MethodId} {sargs : Array Value} {below : List Frame} {meth : Method} {c : Code} {T : State} {locs : List Loc} {cells slots : Nat} (X : Stand p (fx_l g) e R s m sargs below meth c T locs cells slots) (hWs : (fx_s0 g).WarmedH s.vm) (hR : fx_R g h T.heap)
    {gf : JFrame} (hg : gf.method = m) (hsz : gf.locals.size = c.maxLocals) {ig : Instr} {len : Nat} (hd : decode c.code gf.pc = .ok (ig, len)) {mk : MethodId} (hn : T.methodNamed? (fx_y M') = some mk)
    (hfr : fx_lv M' + 1 ≤ R.frames) (hlo : 2 * gf.monitorRoom + (gf.stack.map fun v => v.category).sum + (fx_ml M' + 11) + fx_lw M' ≤ R.locals) (hc : cells + mc' ≤ R.cells) (hs : slots + ms' ≤ R.slots) :
    ∃ (B : State) (L : List Loc), Stand p (fx_l g) e R s m sargs below meth c B (locs ++ L) (cells + mc') (slots + ms') ∧ (∀ z ∈ L, fx_b g ≤ z.base) ∧ ∃ (o' : fx_O) (h' : fx_H), Q' o' h' ∧ fx_R g h' B.heap ∧
      ((∃ v : Option Int32, o' = .inl v ∧ Steps p.tables e below (doInvoke e (T.setTop gf) [] mk as.toArray).1 (B.setTop { gf with pc := gf.pc + len, stack := (v.map Value.int).toList ++ gf.stack })) ∨
       (∃ (E : String) (q : Addr) (ce : Cell), o' = .inr E ∧ B.heap[q]? = some ce ∧ ce.vm = .none ∧ s.vm.findClass E = some ce.cls ∧ Steps p.tables e below (doInvoke e (T.setTop gf) [] mk as.toArray).1 ((B.setTop gf).pushFrame (.throwing q)))) := by
  have hWT : (fx_s0 g).WarmedH T.vm := State.WarmedH.trans hWs X.warmed
  have hcode : (fx_cw M').before as.toArray T = true := fx_word ok hcw fx_gcw hWT
  have hpre : (headSpec [fx_cw M'] (fx_rm M' mc' ms')).pre.before as.toArray T = true := atoms_intro fun w hw => by
    rw [List.mem_singleton.mp hw]
    exact hcode
  obtain ⟨methY, cY, hmY, hcY, -, hlY, -, -, -, -⟩ := fx_cw_spec hn hcode
  obtain ⟨kY, hkY, -⟩ := className_of_methodNamed hn
  have hinitY : kY.init = .initialized := Cond.initialized_spec (args := as.toArray) (findClass_of_methodNamed hn) hkY (fx_word ok hini (by first | rfl | simp [goodWord, Cond.onTables, Cond.keeps, Cond.steady]) hWT)
  have hh : At T gf.method c below := by rw [hg]; exact X.here
  have happ : (headSpec [fx_cw M'] (fx_rm M' mc' ms')).appliesLoose (fx_y M') e.platform (T.calling gf mk as.toArray) = true :=
    Spec.appliesLoose_calling (g := gf) hh hd hn hkY hinitY
      (X.room_calling (g := gf) (R' := (headSpec [fx_cw M'] (fx_rm M' mc' ms')).room) hsz hmY hcY hfr (by rw [hlY]; exact hlo) hc hs) hpre
  obtain ⟨mid, hmid⟩ := hh.above
  have hfr9 : (T.setTop gf).frames = (.java gf :: mid) ++ below := by rw [State.frames_setTop' gf hh.top, hmid]; rfl
  obtain ⟨o, s₂, hsteps, -, hend, hq⟩ := Steps.callFree hC p X.admits X.cas X.clock (acts := []) hfr9 happ ⟨rfl, hWT, hR⟩ trivial
  have hq' : fx_P g Q' mc' ms' (T.calling gf mk as.toArray) o s₂ := hq
  obtain ⟨L, hW₂, hsm, hL, o', h', hQ, hR', hoc⟩ := hq'
  rw [State.frames_setTop' gf hh.top] at hend
  obtain ⟨g₀, hg0⟩ := Option.isSome_iff_exists.mp hh.top
  obtain ⟨r, hr⟩ := State.topJava?_eq_some.mp hg0
  have hr' : (({ T with heap := s₂.heap, slotsUsed := s₂.slotsUsed } : State).setVm s₂.vm).frames = .java g₀ :: r := hr
  obtain ⟨e2, q2, q3, q4, q5, q6⟩ := id hsm
  have e3 : s₂ = ({ (T.calling gf mk as.toArray).setFrames s₂.frames with heap := s₂.heap, slotsUsed := s₂.slotsUsed } : State).setVm s₂.vm := by
    have : s₂ = ({ s₂ with vm := (T.calling gf mk as.toArray).vm } : State).setVm s₂.vm := rfl
    rw [e2] at this
    exact this
  have hW' : T.WarmedH s₂.vm := hW₂
  have hsame : T.sameButNew ({ T with heap := s₂.heap, slotsUsed := s₂.slotsUsed } : State) L mc' ms' := by
    refine ⟨?_, q2, q3, q4, q5, q6⟩
    obtain ⟨t, ht, -⟩ := State.frames_cons hr
    show ({ T with heap := s₂.heap, slotsUsed := s₂.slotsUsed } : State) = { T.setFrames T.frames with heap := s₂.heap, slotsUsed := s₂.slotsUsed }
    rw [State.setFrames_self ht]
  have XB : Stand p (fx_l g) e R s m sargs below meth c (({ T with heap := s₂.heap, slotsUsed := s₂.slotsUsed } : State).setVm s₂.vm) (locs ++ L) (cells + mc') (slots + ms') :=
    ⟨X.admits, X.cas, X.clock, X.frames, X.room, X.hears, X.method, X.code, (X.here.setHeapUsed s₂.heap s₂.slotsUsed).setVm hW'.alike, X.tail, State.WarmedH.trans X.warmed hW', X.limits, X.bytes, X.same.trans (hsame.setVm s.vm)⟩
  refine ⟨_, L, XB, hL, o', h', hQ, hR', ?_⟩
  cases o' with
  | inl v =>
    refine Or.inl ⟨v, rfl, ?_⟩
    have hoc' : o = .returned (v.map Value.int) := hoc
    subst hoc'
    obtain ⟨c₂, i₂, len₂, hc₂, hd₂, hf₂⟩ := hend
    have hcc : c₂ = c := by
      have h1 : s₂.code? gf.method = T.code? gf.method := by
        rw [State.code?_eq, State.code?_eq, hW'.alike.method?]
      exact Option.some.inj (hc₂.symm.trans (h1.trans hh.code))
    subst hcc
    have hlen : len₂ = len := by rw [hd] at hd₂; cases hd₂; rfl
    subst hlen
    have hs₂ : s₂ = (({ T with heap := s₂.heap, slotsUsed := s₂.slotsUsed } : State).setVm s₂.vm).setTop { gf with pc := gf.pc + len₂, stack := (v.map Value.int).toList ++ gf.stack } := by
      refine e3.trans ?_
      rw [hf₂, State.calling_eq hh.top, State.setFrames_setFrames, State.setTop_of_frames _ hr', hr]
      rfl
    rw [← hs₂]
    exact hsteps
  | inr E =>
    obtain ⟨q, ce, rfl, hce, hcv, hcl⟩ := hoc
    have hcl' : s.vm.findClass E = some ce.cls := by
      have h1 : T.vm.findClass E = some ce.cls := hcl
      rw [X.warmed.alike.findClass] at h1
      exact h1
    refine Or.inr ⟨E, q, ce, rfl, hce, hcv, hcl', ?_⟩
    have hf₂ : s₂.frames = .throwing q :: .java gf :: T.frames.tail := hend
    have hs₂ : s₂ = ((({ T with heap := s₂.heap, slotsUsed := s₂.slotsUsed } : State).setVm s₂.vm).setTop gf).pushFrame (.throwing q) := by
      refine e3.trans ?_
      rw [hf₂, State.calling_eq hh.top, State.setFrames_setFrames, State.pushFrame, State.frames_setTop _ hr', State.setTop_of_frames _ hr', State.setFrames_setFrames, hr]
      rfl
    rw [← hs₂]
    exact hsteps
theorem fx_call (ok : fx_ok g) {as st' : List Value} {Q' : fx_O → fx_H → Prop} {mc' ms' : Nat} (hC : fx_C g M' as h Q' mc' ms') (S : fx_Site g M M' pc h as st st') (hcw : fx_cw M' ∈ fx_tb) (hini : Cond.initialized (fx_y M').cls ∈ fx_tb)
    (hlev : fx_lv M' + 1 ≤ fx_lv M) (hlo : (st.map fun v => v.category).sum + (fx_ml M' + 11) + fx_lw M' ≤ fx_lw M)
    (kr : ∀ (v : Option Int32) (h' : fx_H), Q' (.inl v) h' → fx_X g M (pc + 3) lv ((v.map Value.int).toList ++ st) h' Q mc ms) (kx : ∀ (E : String) (h' : fx_H), Q' (.inr E) h' → fx_T g M pc lv E h' Q mc ms) : fx_X g M pc lv st' h Q (mc' + mc) (ms' + ms) := by
  intro p e R s m args below meth c F H locs cells slots ls hR hL hc hs hl T hT X
  have hsz : ls.size = c.maxLocals := hl.1.trans F.2.2.1.symm
  have hF1 := F.2.2.2.2.2.2.2.2.2.1
  have hF2 := F.2.2.2.2.2.2.2.2.2.2
  obtain ⟨vm₁, mk, ig, X₁, hn, hd, hgo⟩ := S p e R s m args below meth c F H locs cells slots ls hR hsz T hT X
  obtain ⟨B, L, XB, hLB, o', h', hQ, hRB, hend⟩ := fx_back ok hC hcw hini X₁ F.2.2.2.2.2.1 (show fx_R g h T.heap by rw [hT]; exact hR) (gf := F0 m pc ls st) rfl hsz hd hn (by omega) (by show 2 * 0 + (st.map fun v => v.category).sum + _ + _ ≤ _; omega) (by omega) (by omega)
  have hL' : ∀ z ∈ locs ++ L, fx_b g ≤ z.base := fun z hz => (List.mem_append.mp hz).elim (hL z) (hLB z)
  rcases hend with ⟨v, rfl, st9⟩ | ⟨E, q, ce, rfl, hce, hcv, hcl, st9⟩
  · obtain ⟨t, a1, b1⟩ := kr v h' hQ p e R s m args below meth c F B.heap (locs ++ L) (cells + mc') (slots + ms') ls hRB hL' (by omega) (by omega) hl B rfl XB
    exact ⟨t, hgo _ (st9.trans a1), b1⟩
  · obtain ⟨t, a1, b1⟩ := kx E h' hQ p e R s m args below meth c F B.heap (locs ++ L) (cells + mc') (slots + ms') ls st q ce hRB hL' (by omega) (by omega) hl hce hcv hcl B rfl XB
    exact ⟨t, hgo _ (st9.trans a1), b1⟩
/-- the words of a call -/
def fx_mw (own : String) (idx n : Nat) (M' : fx_M) : Prop := fx_cw M' ∈ fx_tb ∧ Cond.initialized (fx_y M').cls ∈ fx_tb ∧ ((fx_y M').cls ≠ "java/lang/invoke/MethodHandle" ∧ (fx_y M').cls ≠ "java/lang/invoke/VarHandle") ∧ (parseMethodDescriptor (fx_y M').desc).map (fun d => d.parameters.length) = some n ∧ Cond.methodLink own idx (fx_y M') ∈ fx_tb
theorem fx_siteS (ok : fx_ok g) {idx : Nat} {as : List Value} (hm : fx_mw (fx_y M).cls idx as.length M') (hst : Cond.static (fx_y M') ∈ fx_tb) (d : decode (fx_cc M) pc = .ok (.invokestatic idx, 3)) : fx_Site g M M' pc h as st (as.reverse ++ st) := by
  intro p e R s m args below meth c F H locs cells slots ls hR hsz T hT X
  obtain ⟨hcw, hini, hy, hlen, hlk⟩ := hm
  have hW := F.2.2.2.2.2.1
  have hcode : (fx_cw M').before args s = true := fx_word ok hcw fx_gcw hW
  obtain ⟨mk, hnamed⟩ := fx_named hcode
  obtain ⟨methM, cM, hmethM, -, -, -, -, -, -, hsigM⟩ := fx_cw_spec hnamed hcode
  have hstatic : methM.isStatic = true := Cond.static_spec (args := args) hnamed hmethM (fx_word ok hst (by first | rfl | simp [goodWord, Cond.onTables, Cond.keeps, Cond.steady]) hW)
  obtain ⟨kP, hkP, -⟩ := className_of_methodNamed hnamed
  have hinitP : kP.init = .initialized := Cond.initialized_spec (args := args) (findClass_of_methodNamed hnamed) hkP (fx_word ok hini (by first | rfl | simp [goodWord, Cond.onTables, Cond.keeps, Cond.steady]) hW)
  have hlen' : as.length = methM.sig.parameters.length := by
    rw [hsigM] at hlen
    exact (Option.some.inj hlen).symm
  have d' : decode c.code pc = .ok (.invokestatic idx, 3) := by rw [F.2.1]; exact d
  obtain ⟨vm₁, X₁, hstep₁⟩ := X.invokestatic F.1 F.2.2.2.2.2.2.1 (fx_word ok hlk (by first | rfl | simp [goodWord, Cond.onTables, Cond.keeps, Cond.steady]) hW) hnamed hmethM hstatic hkP hinitP hy (g := F0 m pc ls (as.reverse ++ st)) rfl (argsL := as) (rest := st) hlen' rfl d'
  exact ⟨vm₁, mk, _, X₁, X₁.named hnamed, d', fun target h => hstep₁ _ fun acts => by rw [doInvoke_state]; exact h⟩
theorem fx_siteV (ok : fx_ok g) {idx b ci : Nat} {as : List Value} {q : vw_C} (hm : fx_mw (fx_y M).cls idx as.length M') (hin : Cond.instanceMethod (fx_y M') ∈ fx_tb) (hse : Cond.selects (fx_y M').cls (fx_y M') (fx_y M') ∈ fx_tb) (hs : fx_s h b = some (.inl ci)) (hq : fx_cl[ci]? = some q) (hqc : q.1 = (fx_y M').cls)
    (d : decode (fx_cc M) pc = .ok (.invokevirtual idx, 3)) : fx_Site g M M' pc h (.ref b :: as) st (as.reverse ++ .ref b :: st) := by
  intro p e R s m args below meth c F H locs cells slots ls hR hsz T hT X
  obtain ⟨hcw, hini, hy, hlen, hlk⟩ := hm
  have hW := F.2.2.2.2.2.1
  have hcode : (fx_cw M').before args s = true := fx_word ok hcw fx_gcw hW
  obtain ⟨mk, methM, hnamed, hmethM, hstM, habM⟩ := Cond.instanceMethod_spec (args := args) (fx_word ok hin (by first | rfl | simp [goodWord, Cond.onTables, Cond.keeps, Cond.steady]) hW)
  obtain ⟨methM', cM, hmethM', -, -, -, -, -, -, hsigM⟩ := fx_cw_spec hnamed hcode
  cases hmethM.symm.trans hmethM'
  obtain ⟨⟨r, h1, cellB, q1, q2, q3, -⟩, -⟩ := (hR.2.2.2 b _ hs).2.2
  cases Option.some.inj (h1.symm.trans hq)
  have hKn := fx_Kn ok hW hq
  have hcls : s.vm.findClass (fx_y M').cls = some cellB.cls := by
    rw [q2, ← hqc]
    exact hKn.2.1
  obtain ⟨c2, r2, m2, p1, p2, p3, p4, kP, hkP, hkPi⟩ := Cond.selects_spec (args := args) (fx_word ok hse (by first | rfl | simp [goodWord, Cond.onTables, Cond.keeps, Cond.steady]) hW)
  cases hcls.symm.trans p1
  cases (State.methodFound?_of_named hnamed hy).symm.trans p2
  cases hnamed.symm.trans p3
  have hselP : selectMethod e.platform s.vm cellB.cls mk = .method mk := by rw [Launch.admits_selectMethod X.admits]; exact p4
  have hlen' : as.length = methM.sig.parameters.length := by
    rw [hsigM] at hlen
    exact (Option.some.inj hlen).symm
  have d' : decode c.code pc = .ok (.invokevirtual idx, 3) := by rw [F.2.1]; exact d
  obtain ⟨vm₁, X₁, hstep₁⟩ := X.invokevirtual F.1 F.2.2.2.2.2.2.1 (fx_word ok hlk (by first | rfl | simp [goodWord, Cond.onTables, Cond.keeps, Cond.steady]) hW) hnamed hmethM hstM hkP hkPi hy (a := b) (cell := cellB) (by rw [hT]; exact q1)
    (fun z hz => by rw [q3] at hz; cases hz) hselP hmethM habM hkP hkPi (g := F0 m pc ls (as.reverse ++ .ref b :: st)) rfl (argsL := as) (rest := st) hlen' rfl d'
  exact ⟨vm₁, mk, _, X₁, X₁.named hnamed, d', fun target h => hstep₁ _ fun acts => by rw [doInvoke_state]; exact h⟩
theorem fx_siteI (ok : fx_ok g) {idx b : Nat} {as : List Value} (hm : fx_mw (fx_y M).cls idx as.length M') (hin : Cond.instanceMethod (fx_y M') ∈ fx_tb) (hnm : (fx_y M').name = "<init>") (hh : fx_hd M' = []) (hrt : fx_rt M' = none)
    (d : decode (fx_cc M) pc = .ok (.invokespecial idx, 3)) : fx_Site g M M' pc h (.ref b :: as) st (as.reverse ++ .ref b :: st) := by
  intro p e R s m args below meth c F H locs cells slots ls hR hsz T hT X
  obtain ⟨hcw, hini, hy, hlen, hlk⟩ := hm
  have hW := F.2.2.2.2.2.1
  have hcode : (Cond.code (fx_y M') (fx_cc M') (fx_ml M') none).before args s = true := by
    have h9 : (fx_cw M').before args s = true := fx_word ok hcw fx_gcw hW
    rw [fx_cw, hh] at h9
    rw [← hrt]
    exact h9
  have hpl : e.platform.magicAccessors = ({} : Platform).magicAccessors := by rw [X.admits.platform]
  have d' : decode c.code pc = .ok (.invokespecial idx, 3) := by rw [F.2.1]; exact d
  obtain ⟨mk, methM, cM, kP, vm₁, hnamed, hmethM, hcodeM, -, hlocalsM, -, hkP, -, hW₁, hstep₁⟩ := Steps.initColdArgs (e := e) X.here F.1 X.warmed hpl F.2.2.2.2.2.2.1 hnm hy (fx_word ok hlk (by first | rfl | simp [goodWord, Cond.onTables, Cond.keeps, Cond.steady]) hW) (fx_word ok hin (by first | rfl | simp [goodWord, Cond.onTables, Cond.keeps, Cond.steady]) hW) hcode (f := F0 m pc ls (as.reverse ++ .ref b :: st)) rfl
    (argsL := as) (rest := st) (fun sig hsig => by rw [hsig] at hlen; exact (Option.some.inj hlen).symm) rfl d'
  have X₁ := X.noted hW₁
  exact ⟨vm₁, mk, _, X₁, X₁.named hnamed, d', fun target h => hstep₁ _ fun acts => by rw [doInvoke_state]; exact h⟩
end FXC
end
section
/-! ===== what is made: objects, arrays, exceptions ===== -/
section FXN
variable {g : fx_G} {M M' : fx_M} {pc : Nat} {lv : List (Nat × Value)} {st : List Value} {h : fx_H} {Q : fx_O → fx_H → Prop} {mc ms : Nat}
theorem fx_new (ok : fx_ok g) {idx ci N : Nat} {C : String} {T : u_T} {ty : Nat → FieldType} (hcl : fx_cl[ci]? = some (C, T, N)) (hin : ∀ w ∈ u_ws C T N, w ∈ fx_tb) (hty : ∀ j, j < N → parseFieldDescriptor (T j).2.2.1 = some (ty j))
    (hfk : ∀ j, j < N → (fx_fk ci j ≠ 2 → defaultValue (ty j) = .int 0) ∧ (fx_fk ci j = 2 → defaultValue (ty j) = .null)) (hlk : Cond.classLink (fx_y M).cls idx C ∈ fx_tb) (hinst : Cond.instantiable C N ∈ fx_tb) (hini : Cond.initialized C ∈ fx_tb)
    (d : decode (fx_cc M) pc = .ok (.new idx, 3)) (K : fx_X g M (pc + 3) lv (.ref (fx_n h) :: st) (fx_nw h (.inl ci)) Q mc ms) : fx_X g M pc lv st h Q (mc + 1) (ms + N) := by
  intro p e R s m args below meth c F H locs cells slots ls hR hL hc hs hl
  have hW := F.2.2.2.2.2.1
  have hKn := fx_Kn ok hW hcl
  have hts : ∀ w ∈ u_ws C T N, w.before args s = true := fun w hw => fx_word ok (hin w hw) (fx_lay hw) hW
  refine W.newcK F.1 F.2.1 F.2.2.2.2.2.2.1 (fx_word ok hlk (by first | rfl | simp [goodWord, Cond.onTables, Cond.keeps, Cond.steady]) hW) (fx_word ok hinst (by first | rfl | simp [goodWord, Cond.onTables, Cond.keeps, Cond.steady]) hW) (fx_word ok hini (by first | rfl | simp [goodWord, Cond.onTables, Cond.keeps, Cond.steady]) hW) rfl d (by omega) (by omega) hKn.2.1 hR.1 fun H1 kC hkC e1 z1 o1 => ?_
  refine K p e R s m args below meth c F H1 locs (cells + 1) (slots + N) ls ?_ hL (by omega) (by omega) hl
  refine fx_R_new hR (by rw [z1, hR.1]) (fun q hq => o1 q (by rw [← hR.1]; exact hq)) ⟨⟨(C, T, N), hcl, (u_born ty hts (fun w hw => hw) hKn hkC e1 hty).to (fun j hj => ?_)⟩, fun k _ => Or.inl ?_⟩
  · rw [fx_v, fx_i_nw, fx_r_nw, if_pos rfl, if_pos rfl]
    by_cases h2 : fx_fk ci j = 2
    · rw [if_pos h2]
      exact (hfk j hj).2 h2
    · rw [if_neg h2]
      exact (hfk j hj).1 h2
  · rw [fx_i_nw, if_pos rfl]
theorem fx_newa (ok : fx_ok g) {atype : ArrayType} {ak N : Nat} {n : Int32} (hak : fx_tys[ak]? = some (newarray.typeOf atype)) (hak3 : ak < 3) (hdf : ak < 2 → defaultValue (newarray.typeOf atype) = .int 0) (hdl : ak = 2 → defaultValue (newarray.typeOf atype) = .long 0) (hprim : ∀ C, newarray.typeOf atype ≠ .object C) (harr : Cond.arrayClass (newarray.typeOf atype) ∈ fx_tb)
    (hn : ¬ n < 0) (hN : n.toNatClampNeg = N) (hby : N * componentBytes (newarray.typeOf atype) ≤ 536870912) (d : decode (fx_cc M) pc = .ok (.newarray atype, 2)) (K : fx_X g M (pc + 2) lv (.ref (fx_n h) :: st) (fx_nw h (.inr (ak, N))) Q mc ms) : fx_X g M pc lv (.int n :: st) h Q (mc + 1) (ms + N) := by
  intro p e R s m args below meth c F H locs cells slots ls hR hL hc hs hl
  have hW := F.2.2.2.2.2.1
  refine va_newaK F.1 F.2.1 (fx_word ok harr rfl hW) rfl d rfl hn hN hby (by omega) (by omega) hR.1 fun H1 cA e1 z1 o1 _ hNm => ?_
  have hcA : cA = fx_dA g ak := by
    have h2 := (fx_Ty ok hW hak).2
    cases hx : newarray.typeOf atype with
    | object C => exact absurd hx (hprim C)
    | _ => rw [hx] at h2 hNm; exact Option.some.inj (hNm.symm.trans h2)
  subst hcA
  refine K p e R s m args below meth c F H1 locs (cells + 1) (slots + N) ls ?_ hL (by omega) (by omega) hl
  refine fx_R_new hR (by rw [z1, hR.1]) (fun q hq => o1 q (by rw [← hR.1]; exact hq)) ⟨?_, fun _ k => Or.inl (by rw [fx_i_nw, if_pos rfl])⟩
  rw [e1]
  by_cases h2 : ak < 2
  · rw [fx_ar, if_pos h2, vp_cell_i, hdf h2]
    congr 2
    funext k
    rw [fx_i_nw, if_pos rfl]
  · have h3 : ak = 2 := by omega
    rw [fx_ar, if_neg h2, if_pos h3, vp_cell_l, hdl h3]
    congr 2
    funext k
    rw [fx_i_nw, if_pos rfl]
    rfl
theorem fx_anew (ok : fx_ok g) {idx ak N : Nat} {C : String} {n : Int32} (hak : fx_tys[ak]? = some (.object C)) (hak3 : 3 ≤ ak) (hlk : Cond.classLink (fx_y M).cls idx C ∈ fx_tb) (hov : ∀ (args : Array Value) (s : State), (fx_s0 g).WarmedH s.vm → (Cond.arrayOver (.object C)).before args s = true)
    (hn : ¬ n < 0) (hN : n.toNatClampNeg = N) (hby : N * 4 ≤ 536870912) (d : decode (fx_cc M) pc = .ok (.anewarray idx, 3)) (K : fx_X g M (pc + 3) lv (.ref (fx_n h) :: st) (fx_nw h (.inr (ak, N))) Q mc ms) : fx_X g M pc lv (.int n :: st) h Q (mc + 1) (ms + N) := by
  intro p e R s m args below meth c F H locs cells slots ls hR hL hc hs hl
  have hW := F.2.2.2.2.2.1
  subst hN
  refine W.anew F.1 F.2.1 F.2.2.2.2.2.2.1 (fx_word ok hlk (by first | rfl | simp [goodWord, Cond.onTables, Cond.keeps, Cond.steady]) hW) (hov _ _ hW) rfl d rfl hn hby (by omega) (by omega) fun cA kA comp h1 h2 h3 h4 => ?_
  have hcA : cA = fx_dA g ak := by
    obtain ⟨kA', comp', -, -, -, h9⟩ := (fx_Ty ok hW hak).2
    exact Option.some.inj (h1.symm.trans h9)
  subst hcA
  rw [hR.1]
  refine K p e R s m args below meth c F _ locs (cells + 1) (slots + n.toNatClampNeg) ls ?_ hL (by omega) (by omega) hl
  refine fx_R_new hR (by simp) (fun q hq => by rw [Array.getElem?_push, if_neg (Nat.ne_of_lt hq)]) ⟨?_, fun z => by omega⟩
  rw [fx_ar, if_neg (by omega), if_neg (by omega), vp_cell_q, ← hR.1, Array.getElem?_push, if_pos rfl, arrV_new]
  congr 2
  funext k
  rw [fx_r_nw, if_pos hR.1]
  rfl
theorem fx_aastore (ok : fx_ok g) {a b n ak ci : Nat} {q : vw_C} {i : Int32} (hs : fx_s h a = some (.inr (ak, n))) (hak3 : 3 ≤ ak) (hty : fx_tys[ak]? = some (.object q.1)) (hb : fx_s h b = some (.inl ci)) (hq : fx_cl[ci]? = some q) (hin : vp_in i n) (d : decode (fx_cc M) pc = .ok (.aastore, 1))
    (K : fx_X g M (pc + 1) lv st (fx_wr h a i.toNatClampNeg (some b)) Q mc ms) : fx_X g M pc lv (.ref b :: .int i :: .ref a :: st) h Q mc ms := by
  intro p e R s m args below meth c F H locs cells slots ls hR hL hc hs' hl
  have hW := F.2.2.2.2.2.1
  obtain ⟨hba, -, hcell, -⟩ := hR.2.2.2 a _ hs
  have ea : fx_ar h a ak = .inr (.inr (.inr (.inr (fx_r h a)))) := by
    rw [fx_ar, if_neg (by omega), if_neg (by omega)]
  rw [ea] at hcell
  obtain ⟨⟨r, r1, cellV, g1, g2, g3, -⟩, -⟩ := (hR.2.2.2 b _ hb).2.2
  have hcls := (fx_Kn ok hW hq).2
  obtain ⟨kA, comp, k1, k2, k3, -⟩ := (fx_Ty ok hW hty).2
  have hcomp : comp = (fx_D g).1 ci := Option.some.inj (k3.symm.trans hcls.1)
  subst hcomp
  obtain ⟨kC, hkC, -⟩ := hcls.2
  have h0 : ¬ i < 0 := fun q => hin (Or.inl q)
  refine W.aast F.1 F.2.1 hcell (fun q h => by cases h) (fun h => by cases h) k1 k2 rfl hkC ⟨h0, by show _ < (arrV _ _ _).slots.size; rw [arrV_size]; exact fx_in hin⟩ g1 (fun q h => by rw [g3] at h; cases h) (by rw [g2]; exact hkC) (by rw [g2]; exact va_assign hcls) rfl rfl d fun H1 e1 z oq => ?_
  refine K p e R s m args below meth c F H1 _ cells slots ls (fx_R_upd hR rfl (fun _ => rfl) (fun _ _ _ => rfl) (fun b' hb' k => ?_) hba z oq (fun y hy => ?_)) (t_lc hL hba) hc hs' hl
  · rw [fx_r_wr, if_neg (fun z => hb' z.1)]
  · cases hs.symm.trans hy
    refine ⟨?_, fun z => by omega⟩
    rw [e1, fx_ar, if_neg (by omega), if_neg (by omega), vp_cell_q, vp_cell_q, arrV_store]
    congr 2
    funext k
    rw [fx_r_wr]
    by_cases hk : k = i.toNatClampNeg
    · simp [updV, hk, va_rf]
    · simp [updV, hk]
/-! words that speak of statics -/
theorem fx_laysS (ok : fx_ok g) {C n d : String} (hw : Cond.laysStatic C n d ∈ fx_tb) {s : State} (hW : (fx_s0 g).WarmedH s.vm) (hH : ∀ q : Nat, q < fx_b g → s.heap[q]? = (fx_s0 g).heap[q]?) {args : Array Value} : (Cond.laysStatic C n d).before args s = true := by
  obtain ⟨c, k, i, f, a, cell, hc, hi, hst, ha, hcell, hs, hcls, hlt, hty⟩ := Cond.laysStatic_spec (ok.2.1 _ hw)
  obtain ⟨k', hi', hek⟩ := State.fieldFound?_setVm hW.alike hi
  have hlt9 : a < fx_b g := (Array.getElem?_eq_some_iff.mp hcell).1
  exact Cond.laysStatic_of (s := s) (by rw [hW.alike.findClass]; exact hc) hi' hst (by rw [hek]; exact ha) (by rw [hH a hlt9]; exact hcell) hs hcls hlt (by rw [hek]; exact hty)
theorem fx_isRef {C n d : String} {v : Value} {A : Nat → Prop} {s : State} {args : Array Value} (hz : va_Z C n d v A s s.heap) (hv : v.isRef = true) : (Cond.isRef (.static C n d)).before args s = true := by
  obtain ⟨cf, kf, fi, f, a, cell, h1, h2, h3, h4, h5, h6, h7, -⟩ := hz
  have he : (Term.static C n d).eval args s none [] s = some v := by
    simp [Term.eval, State.fieldNamed?, h1, h2, h4, h5, h6, h7]
  simp only [Cond.before, Cond.holds, Cond.value, he]
  cases v <;> simp_all [Value.isRef]
theorem fx_isRefS (ok : fx_ok g) {C n d : String} (hl : Cond.laysStatic C n d ∈ fx_tb) (hi : Cond.initialized C ∈ fx_tb) (hw : Cond.isRef (.static C n d) ∈ fx_tb) {s : State} (hW : (fx_s0 g).WarmedH s.vm) (hH : ∀ q : Nat, q < fx_b g → s.heap[q]? = (fx_s0 g).heap[q]?) {args : Array Value} : (Cond.isRef (.static C n d)).before args s = true := by
  have h0 : va_Zq C n d (fun q => fx_b g ≤ q) (fx_s0 g) (fx_s0 g).heap := va_Zqof (ok.2.1 _ hl) (ok.2.1 _ hi) (ok.2.1 _ hw) (fun a ha => Nat.not_le.mpr ha)
  have h1 : va_Zq C n d (fun q => fx_b g ≤ q) s s.heap := (h0.moved hW.alike).kept (fun a ha _ => hH a ha)
  rcases h1 with h1 | ⟨t, h1⟩
  · exact fx_isRef h1 rfl
  · exact fx_isRef h1 rfl
theorem fx_cast (ok : fx_ok g) {A B : String} (hw : Cond.castable A B ∈ fx_tb) {s : State} (hW : (fx_s0 g).WarmedH s.vm) {args : Array Value} : (Cond.castable A B).before args s = true := by
  obtain ⟨c3, c4, hc3, hc4, hasg⟩ := Cond.castable_spec (ok.2.1 _ hw)
  have h1 : s.vm.findClass A = some c3 := by rw [hW.alike.findClass]; exact hc3
  have h2 : s.vm.findClass B = some c4 := by rw [hW.alike.findClass]; exact hc4
  have h3 : s.vm.assignable c3 c4 = true := by rw [hW.alike.assignable]; exact hasg
  simp [Cond.before, Cond.holds, Cond.value, h1, h2, h3]
/-- the words of 'throw new E()', each in the tables, and how it is carried to a later state -/
def fx_tw (w : Cond) : Prop := w ∈ fx_tb ∧ (goodWord w = true ∨ (∃ A B, w = .castable A B) ∨ (∃ C n d, w = .laysStatic C n d) ∨ ∃ C n d, w = .isRef (.static C n d) ∧ Cond.laysStatic C n d ∈ fx_tb ∧ Cond.initialized C ∈ fx_tb)
theorem fx_tw_at (ok : fx_ok g) {w : Cond} (hw : fx_tw w) {s : State} (hW : (fx_s0 g).WarmedH s.vm) (hH : ∀ q : Nat, q < fx_b g → s.heap[q]? = (fx_s0 g).heap[q]?) {args : Array Value} : w.before args s = true := by
  obtain ⟨h1, h2 | ⟨A, B, rfl⟩ | ⟨C, n, d, rfl⟩ | ⟨C, n, d, rfl, h3, h4⟩⟩ := hw
  · exact fx_word ok h1 h2 hW
  · exact fx_cast ok h1 hW
  · exact fx_laysS ok h1 hW hH
  · exact fx_isRefS ok h3 h4 h1 hW hH
/-- the same frame, as if its method had been called in the heap of now -/
theorem fx_here {p : Program} {l : Launch} {e : Env} {R R' : Room} {s T : State} {m : MethodId} {args : Array Value} {below : List Frame} {meth : Method} {c : Code} {locs : List Loc} {cells slots : Nat} (X : Stand p l e R s m args below meth c T locs cells slots)
    (h1 : R'.frames ≤ R.frames) (h2 : R'.locals ≤ R.locals) (h3 : cells + R'.cells ≤ R.cells) (h4 : slots + R'.slots ≤ R.slots) : Stand p l e R' ((T.setVm s.vm).setFrames (.invoking m args :: below)) m args below meth c T [] 0 0 := by
  have htop : (T.setVm s.vm).topJava?.isSome := X.here.top
  have hF : ((T.setVm s.vm).setFrames (.invoking m args :: below)).frames = .invoking m args :: below := State.frames_setFrames _ (State.cur_lt_of_top htop)
  obtain ⟨g0, hg0⟩ := Option.isSome_iff_exists.mp htop
  obtain ⟨r, hr⟩ := State.topJava?_eq_some.mp hg0
  have hlim : e.platform.stackLimits (T.setVm s.vm).me = e.platform.stackLimits s.me := X.limits
  have hbyt : (T.setVm s.vm).me.stackBytes = s.me.stackBytes := X.bytes
  have hnil : T.heap.toList.drop T.heap.size = [] := List.drop_eq_nil_of_le (Nat.le_of_eq Array.length_toList)
  refine ⟨X.admits, X.cas, X.clock, hF, ?_, X.hears, X.method, X.code, X.here, X.tail, X.warmed, by rw [State.stackLimits_setFrames]; rfl, by rw [State.stackBytes_setFrames]; rfl, ?_⟩
  · have hU : ((T.setVm s.vm).setFrames (.invoking m args :: below)).localsInUse = s.localsInUse := by
      rw [State.localsInUse_invoking hF (meth := meth) (c := c) X.method X.code, State.localsInUse_invoking X.frames X.method X.code]
    have hroom := X.room
    simp only [State.hasRoom, Bool.and_eq_true, decide_eq_true_eq] at hroom ⊢
    obtain ⟨⟨⟨⟨k1, k2, k3, k4, k5, k6⟩, k7⟩, k8⟩, k9⟩ := hroom
    rw [X.frames, List.length_cons] at k2 k3
    have q1 := X.heapSize
    have q2 := X.used
    simp only [hF, hU, List.length_cons, State.stackLimits_setFrames, State.stackBytes_setFrames, hlim, hbyt]
    refine ⟨⟨⟨⟨by omega, by omega, by omega, by omega, by omega, k6⟩, ?_⟩, ?_⟩, X.book⟩
    · show T.heap.size + R'.cells ≤ e.platform.maxCells
      omega
    · show T.slotsUsed + R'.slots ≤ e.platform.maxSlots
      omega
  · refine ⟨?_, Nat.le_refl _, Nat.le_refl _, ?_, ?_, fun a c9 h9 => ⟨c9, h9, rfl, rfl, fun _ _ => rfl⟩⟩
    · obtain ⟨t, ht, -⟩ := State.frames_cons hr
      show T.setVm s.vm = { ((T.setVm s.vm).setFrames (.invoking m args :: below)).setFrames (T.setVm s.vm).frames with heap := T.heap, slotsUsed := T.slotsUsed }
      rw [State.setFrames_setFrames, State.setFrames_self ht]
      rfl
    · show T.slotsUsed = T.slotsUsed + ((T.heap.toList.drop T.heap.size).map (·.slots.size)).sum
      rw [hnil]; rfl
    · show ((T.heap.toList.drop T.heap.size).map (·.slots.size)).sum ≤ 0
      rw [hnil]; exact Nat.le_refl _
theorem fx_same0 {s U : State} {k n : Nat} (h : s.sameButNew ({ U with vm := s.vm } : State) [] k n) : ∀ q : Nat, q < s.heap.size → U.heap[q]? = s.heap[q]? := by
  obtain ⟨-, -, -, -, -, h6⟩ := h
  intro q hq
  obtain ⟨c9, e1, e2, e3, e4⟩ := h6 q _ (Array.getElem?_eq_getElem hq)
  have hs : c9.slots = (s.heap[q]).slots := Array.ext_getElem? fun i => e4 i (fun hm => nomatch hm)
  have h9 : c9 = s.heap[q] := by
    rw [hs] at e2
    exact e2
  have e5 : U.heap[q]? = some c9 := e1
  rw [e5, h9, Array.getElem?_eq_getElem hq]
theorem fx_throw0 (ok : fx_ok g) {ik ic : Nat} {cls : String} {names : List String} (hcls : Bundle.fit cls = true) (hnames : ∀ n ∈ names, Bundle.fit n = true) (hk : Cond.classLink (fx_y M).cls ik cls ∈ fx_tb) (hini : Cond.initialized cls ∈ fx_tb)
    (hat : ∀ w ∈ Bundle.ownAtoms0 (fx_y M).cls ic cls names, fx_tw w) (d0 : decode (fx_cc M) pc = .ok (.new ik, 3)) (d3 : decode (fx_cc M) (pc + 3) = .ok (.dup, 1)) (d4 : decode (fx_cc M) (pc + 4) = .ok (.invokespecial ic, 3)) (d7 : decode (fx_cc M) (pc + 7) = .ok (.athrow, 1))
    (hfr : names.length + 3 < fx_lv M) (hlo : (st.map fun v => v.category).sum + (13 * (names.length + 1) + 42) ≤ fx_lw M) (hh : fx_hd M = []) (hq : Q (.inr cls) (fx_sk h 1)) : fx_X g M pc lv st h Q (mc + 1) (ms + 6) := by
  intro p e R s m args below meth c F H locs cells slots ls hR hL hc hs hl T hT X
  have hW := F.2.2.2.2.2.1
  have hF1 := F.2.2.2.2.2.2.2.2.2.1
  have hF2 := F.2.2.2.2.2.2.2.2.2.2
  have hown := F.2.2.2.2.2.2.1
  have htr : e.platform.stackTraces = false := (show e.platform.stackTraces = (fx_l g).stackTraces by rw [X.admits.platform]).trans ok.1
  have Y := fx_here X (R' := { frames := R.frames, cells := 1, slots := 6, locals := R.locals }) (Nat.le_refl _) (Nat.le_refl _) (show cells + 1 ≤ R.cells by omega) (show slots + 6 ≤ R.slots by omega)
  obtain ⟨s', hA⟩ : ∃ z, z = (T.setVm s.vm).setFrames (.invoking m args :: below) := ⟨_, rfl⟩
  rw [← hA] at Y
  have hvm : s'.vm = s.vm := by rw [hA]; rfl
  have hhp : s'.heap = H := by rw [hA]; exact hT
  have hW' : (fx_s0 g).WarmedH s'.vm := by rw [hvm]; exact hW
  have hH' : ∀ q : Nat, q < fx_b g → s'.heap[q]? = (fx_s0 g).heap[q]? := by rw [hhp]; exact hR.2.2.1
  have hwd : ∀ w ∈ Bundle.ownAtoms0 (fx_y M).cls ic cls names, w.before args s' = true := fun w hw => fx_tw_at ok (hat w hw) hW' hH'
  have hown' : s'.vm.findClass (fx_y M).cls = some m.cls := by rw [hvm]; exact hown
  have hins : (Cond.instantiable cls 6).before args s' = true := hwd _ (by simp [Bundle.ownAtoms0])
  obtain ⟨vm₁, cX, kX, hfX, hkX, -, -, X₁, st1⟩ := Y.newCold F.1 (own := (fx_y M).cls) (C := cls) (index := ik) (n := 6) hown' (fx_word ok hk (by first | rfl | simp [goodWord, Cond.onTables, Cond.keeps, Cond.steady]) hW') hins (fx_word ok hini (by first | rfl | simp [goodWord, Cond.onTables, Cond.keeps, Cond.steady]) hW')
    (g := F0 m pc ls st) rfl (by rw [F.2.1]; exact d0) (Nat.le_refl _) (Nat.le_refl _)
  generalize hT1 : (T.setVm vm₁).pushCell { cls := cX, slots := kX.instanceTypes.map defaultValue, vm := .none } = T1 at X₁ st1
  have hcellA : T1.heap[T.heap.size]? = some (freshCell cX kX) := by rw [← hT1]; exact State.heap_pushCell_size _ _
  have d3' : decode c.code (pc + 3) = .ok (.dup, 1) := by rw [F.2.1]; exact d3
  have hcat : (Value.ref T.heap.size).category = 1 := rfl
  have hrows : fx_rows c = [] := F.2.2.2.2.2.2.2.2.1.trans hh
  have hout : ∀ x ∈ c.exceptionTable.toList, covers x (pc + 7) = false := by
    intro x hx
    have h9 : (x.startPc, x.endPc, x.handlerPc, x.catchType) ∈ fx_rows c := List.mem_map.mpr ⟨x, hx, rfl⟩
    rw [hrows] at h9
    exact nomatch h9
  have hsz : ls.size = c.maxLocals := hl.1.trans F.2.2.1.symm
  obtain ⟨U, hsteps, hrun, hend, hW9, hsame, ce, hce, hO⟩ := X₁.ctorThrow0 F.1 htr (own := (fx_y M).cls) (cls := cls) (names := names) (ic := ic) hown' hcls hnames hwd (fun x hx => nomatch hx) hfX hkX hcellA (by rw [hhp, hT]; exact Nat.le_refl _)
    (g := { method := m, pc := pc + 4, locals := ls, stack := .ref T.heap.size :: .ref T.heap.size :: st, locked := none }) rfl hsz rfl rfl (rest := st) rfl
    (by rw [F.2.1]; exact d4) (by rw [F.2.1]; exact d7) hout (show names.length + 3 < R.frames by omega) (by simp only [List.map_cons, List.sum_cons, hcat]; show 2 * 0 + _ + _ ≤ R.locals; omega) F.2.2.2.2.1
  have f2 := fx_same0 hsame
  have f1 : U.heap.size = H.size + 1 := by
    have a1 : U.heap.size ≤ s'.heap.size + (0 + 1) := hsame.2.2.1
    have a2 : T.heap.size < U.heap.size := (Array.getElem?_eq_some_iff.mp hce).1
    rw [hhp] at a1
    rw [hT] at a2
    omega
  rw [hhp] at f2
  have hWs : s.WarmedH U.vm := by
    have h9 : s'.WarmedH U.vm := hW9
    have h8 : s.WarmedH s'.vm := by rw [hvm]; exact State.WarmedH.refl s
    exact State.WarmedH.trans h8 h9
  have hcl : s.vm.findClass cls = some ce.cls := by
    have h9 := hO.cls
    rw [hvm] at h9
    exact h9
  have hall : s.sameButNew ({ U with vm := s.vm } : State) locs R.cells R.slots := by
    subst hA
    obtain ⟨e1, e2⟩ := hsame
    rw [State.setFrames_setFrames] at e1
    have h2 : (T.setVm s.vm).sameButNew ({ U with vm := s.vm } : State) [] (0 + 1) (0 + 6) := ⟨e1, e2⟩
    have h3 := X.same.trans h2
    rw [List.append_nil] at h3
    exact h3.mono (by omega) (by omega)
  refine ⟨U, ?_, .threw T.heap.size, hrun, hend, locs, hWs, hall, hL, .inr cls, fx_sk h 1, hq, fx_R_skip hR f1 f2, T.heap.size, ce, rfl, hce, hO.vm, hcl⟩
  refine st1 _ ?_
  show Steps p.tables e below (T1.setTop { method := m, pc := pc + 3, locals := ls, stack := .ref T.heap.size :: st, locked := none }) _
  jvm_step X₁.here [X₁.here.top, F.1, d3', Value.category]
  exact hsteps
end FXN
end
section
/-! ===== Object(), Math, System.arraycopy; calls across the nest ===== -/
section FXO
variable {g : fx_G} {M M' : fx_M} {pc : Nat} {lv : List (Nat × Value)} {st : List Value} {h : fx_H} {Q : fx_O → fx_H → Prop} {mc ms : Nat}
theorem fx_objInit (ok : fx_ok g) {idx a : Nat} (hlk : Cond.methodLink (fx_y M).cls idx Lib.objectInit ∈ fx_tb) (hin : Cond.instanceMethod Lib.objectInit ∈ fx_tb) (hcd : Cond.code Lib.objectInit ⟨#[0xb1]⟩ 1 none ∈ fx_tb) (hlev : 1 ≤ fx_lv M) (hlo : (st.map fun v => v.category).sum + 12 ≤ fx_lw M)
    (d : decode (fx_cc M) pc = .ok (.invokespecial idx, 3)) (K : fx_X g M (pc + 3) lv st h Q mc ms) : fx_X g M pc lv (.ref a :: st) h Q mc ms := by
  intro p e R s m args below meth c F H locs cells slots ls hR hL hc hs hl
  have hW := F.2.2.2.2.2.1
  have hF1 := F.2.2.2.2.2.2.2.2.2.1
  have hF2 := F.2.2.2.2.2.2.2.2.2.2
  exact W.objInit F.1 F.2.1 F.2.2.2.2.2.2.1 (fx_word ok hlk (by first | rfl | simp [goodWord, Cond.onTables, Cond.keeps, Cond.steady]) hW) (fx_word ok hin (by first | rfl | simp [goodWord, Cond.onTables, Cond.keeps, Cond.steady]) hW) (fx_word ok hcd (by first | rfl | simp [goodWord, Cond.onTables, Cond.keeps, Cond.steady]) hW) rfl (hl.1.trans F.2.2.1.symm) rfl d (by omega) (by show 2 * 0 + _ + 12 ≤ _; omega) (K p e R s m args below meth c F H locs cells slots ls hR hL hc hs hl)
theorem fx_mmax (ok : fx_ok g) {idx : Nat} {x y : Int32} (hlk : Cond.methodLink (fx_y M).cls idx Lib.Math.max.name ∈ fx_tb) (hst : Cond.static Lib.Math.max.name ∈ fx_tb) (hini : Cond.initialized "java/lang/Math" ∈ fx_tb) (hcd : Cond.code Lib.Math.max.name Lib.Math.max.code 2 (some .int) ∈ fx_tb) (hlev : 1 ≤ fx_lv M) (hlo : (st.map fun v => v.category).sum + 13 ≤ fx_lw M)
    (d : decode (fx_cc M) pc = .ok (.invokestatic idx, 3)) (K : fx_X g M (pc + 3) lv (.int (if x < y then y else x) :: st) h Q mc ms) : fx_X g M pc lv (.int y :: .int x :: st) h Q mc ms := by
  intro p e R s m args below meth c F H locs cells slots ls hR hL hc hs hl
  have hW := F.2.2.2.2.2.1
  have hF1 := F.2.2.2.2.2.2.2.2.2.1
  have hF2 := F.2.2.2.2.2.2.2.2.2.2
  exact va_mmax F.1 F.2.1 (F.2.2.1.trans hl.1.symm) F.2.2.2.2.2.2.1 (fx_word ok hlk (by first | rfl | simp [goodWord, Cond.onTables, Cond.keeps, Cond.steady]) hW) (fx_word ok hst (by first | rfl | simp [goodWord, Cond.onTables, Cond.keeps, Cond.steady]) hW) (fx_word ok hini (by first | rfl | simp [goodWord, Cond.onTables, Cond.keeps, Cond.steady]) hW) (fx_word ok hcd (by first | rfl | simp [goodWord, Cond.onTables, Cond.keeps, Cond.steady]) hW) (by omega) (by omega) (by omega) (by omega) d (K p e R s m args below meth c F H locs cells slots ls hR hL hc hs hl)
theorem fx_mmin (ok : fx_ok g) {idx : Nat} {x y : Int32} (hlk : Cond.methodLink (fx_y M).cls idx Lib.Math.min.name ∈ fx_tb) (hst : Cond.static Lib.Math.min.name ∈ fx_tb) (hini : Cond.initialized "java/lang/Math" ∈ fx_tb) (hcd : Cond.code Lib.Math.min.name Lib.Math.min.code 2 (some .int) ∈ fx_tb) (hlev : 1 ≤ fx_lv M) (hlo : (st.map fun v => v.category).sum + 13 ≤ fx_lw M)
    (d : decode (fx_cc M) pc = .ok (.invokestatic idx, 3)) (K : fx_X g M (pc + 3) lv (.int (if y < x then y else x) :: st) h Q mc ms) : fx_X g M pc lv (.int y :: .int x :: st) h Q mc ms := by
  intro p e R s m args below meth c F H locs cells slots ls hR hL hc hs hl
  have hW := F.2.2.2.2.2.1
  have hF1 := F.2.2.2.2.2.2.2.2.2.1
  have hF2 := F.2.2.2.2.2.2.2.2.2.2
  exact va_mmin F.1 F.2.1 (F.2.2.1.trans hl.1.symm) F.2.2.2.2.2.2.1 (fx_word ok hlk (by first | rfl | simp [goodWord, Cond.onTables, Cond.keeps, Cond.steady]) hW) (fx_word ok hst (by first | rfl | simp [goodWord, Cond.onTables, Cond.keeps, Cond.steady]) hW) (fx_word ok hini (by first | rfl | simp [goodWord, Cond.onTables, Cond.keeps, Cond.steady]) hW) (fx_word ok hcd (by first | rfl | simp [goodWord, Cond.onTables, Cond.keeps, Cond.steady]) hW) (by omega) (by omega) (by omega) (by omega) d (K p e R s m args below meth c F H locs cells slots ls hR hL hc hs hl)
theorem fx_nn {z : Int32} (hz : ¬ z < 0) : z.toInt = (z.toNatClampNeg : Int) := by
  have hz0 : (0 : Int) ≤ z.toInt := by
    have := Int32.not_lt.mp hz
    simpa using Int32.le_iff_toInt_le.mp this
  show z.toInt = ((z.toInt.toNat : Nat) : Int)
  omega
theorem fx_copy (ok : fx_ok g) {idx a b n0 n1 : Nat} {sp dp n : Int32} (hlk : Cond.methodLink (fx_y M).cls idx arraycopyName ∈ fx_tb) (hnat : Cond.native arraycopyName ∈ fx_tb) (hst : Cond.static arraycopyName ∈ fx_tb) (hini : Cond.initialized "java/lang/System" ∈ fx_tb)
    (ha : fx_s h a = some (.inr (0, n0))) (hb : fx_s h b = some (.inr (0, n1))) (h1 : ¬ sp < 0) (h2 : ¬ dp < 0) (h3 : ¬ n < 0) (h4 : sp.toNatClampNeg + n.toNatClampNeg ≤ n0) (h5 : dp.toNatClampNeg + n.toNatClampNeg ≤ n1) (hlev : 1 ≤ fx_lv M) (hlo : (st.map fun v => v.category).sum + (nativeFrameWords "java/lang/System" "arraycopy" 5 + 11) ≤ fx_lw M)
    (d : decode (fx_cc M) pc = .ok (.invokestatic idx, 3)) (K : fx_X g M (pc + 3) lv st (fx_cp h a b sp.toNatClampNeg dp.toNatClampNeg n.toNatClampNeg) Q mc ms) : fx_X g M pc lv (.int n :: .int dp :: .ref b :: .int sp :: .ref a :: st) h Q mc ms := by
  intro p e R s m args below meth c F H locs cells slots ls hR hL hc hs hl T hT X
  have hW := F.2.2.2.2.2.1
  have hF1 := F.2.2.2.2.2.2.2.2.2.1
  have hF2 := F.2.2.2.2.2.2.2.2.2.2
  have hc0 : H[a]? = some (vp_cell (fx_dA g 0) (n0, .inl (fx_i h a))) := (hR.2.2.2 a _ ha).2.2.1
  have hc1 : H[b]? = some (vp_cell (fx_dA g 0) (n1, .inl (fx_i h b))) := (hR.2.2.2 b _ hb).2.2.1
  have hbb := (hR.2.2.2 b _ hb).1
  obtain ⟨-, k0, hk0, cm0, hkk0⟩ := (fx_Ty ok hW (ak := 0) rfl).1 n0 (fun j => .int (fx_i h a j))
  obtain ⟨-, k1, hk1, cm1, hkk1⟩ := (fx_Ty ok hW (ak := 0) rfl).1 n1 (fun j => .int (fx_i h b j))
  obtain ⟨vm', X', step⟩ := X.arraycopy F.1 F.2.2.2.2.2.2.1 (fx_word ok hlk (by first | rfl | simp [goodWord, Cond.onTables, Cond.keeps, Cond.steady]) hW) (fx_word ok hnat (by first | rfl | simp [goodWord, Cond.onTables, Cond.keeps, Cond.steady]) hW) (fx_word ok hst (by first | rfl | simp [goodWord, Cond.onTables, Cond.keeps, Cond.steady]) hW) (fx_word ok hini (by first | rfl | simp [goodWord, Cond.onTables, Cond.keeps, Cond.steady]) hW)
    (src := a) (dst := b) (cs := vp_cell (fx_dA g 0) (n0, .inl (fx_i h a))) (cd := vp_cell (fx_dA g 0) (n1, .inl (fx_i h b))) (srcPos := sp) (destPos := dp) (n := n) (by rw [hT]; exact hc0) (by rw [hT]; exact hc1)
    (fun _ h => by cases h) (fun _ h => by cases h) (fun h => by cases h) (fun h => by cases h) hk0 hk1 hkk0 hkk1 (by simp [refKind]) h1 h2 h3
    (by rw [fx_nn h1, fx_nn h3]; show ¬ _ > ((arrV (fx_dA g 0) n0 (fun j => .int (fx_i h a j))).slots.size : Int); rw [arrV_size]; omega)
    (by rw [fx_nn h2, fx_nn h3]; show ¬ _ > ((arrV (fx_dA g 0) n1 (fun j => .int (fx_i h b j))).slots.size : Int); rw [arrV_size]; omega)
    (fun vm₁ _ i hi => by
      have e9 : (vp_cell (fx_dA g 0) (n0, .inl (fx_i h a))).slots.getD (sp.toNatClampNeg + i) .null = .int (fx_i h a (sp.toNatClampNeg + i)) := by
        show (arrV (fx_dA g 0) n0 (fun j => .int (fx_i h a j))).slots.getD _ _ = _
        rw [Array.getD_eq_getD_getElem?, arrV_read _ _ (by omega)]
        rfl
      refine ⟨?_, ?_⟩
      · rw [e9]
        rfl
      · rw [e9]
        exact trivial)
    (g := F0 m pc ls (.int n :: .int dp :: .ref b :: .int sp :: .ref a :: st)) rfl (hl.1.trans F.2.2.1.symm) (rest := st) rfl (by rw [F.2.1]; exact d) (by omega) (by show 2 * 0 + _ + _ ≤ _; omega)
  have e1 : copied (vp_cell (fx_dA g 0) (n0, .inl (fx_i h a))) (vp_cell (fx_dA g 0) (n1, .inl (fx_i h b))) sp dp n = vp_cell (fx_dA g 0) (n1, .inl (va_cpy (fx_i h a) (fx_i h b) sp.toNatClampNeg dp.toNatClampNeg n.toNatClampNeg)) := va_copied (fun z => .int z) (fx_dA g 0) (fx_dA g 0) (fx_i h a) (fx_i h b) h4
  rw [e1] at X' step
  have hlt : b < H.size := (Array.getElem?_eq_some_iff.mp hc1).1
  have hheap : ((T.setVm vm').setCell b (vp_cell (fx_dA g 0) (n1, .inl (va_cpy (fx_i h a) (fx_i h b) sp.toNatClampNeg dp.toNatClampNeg n.toNatClampNeg)))).heap = H.setIfInBounds b (vp_cell (fx_dA g 0) (n1, .inl (va_cpy (fx_i h a) (fx_i h b) sp.toNatClampNeg dp.toNatClampNeg n.toNatClampNeg))) := by rw [← hT]; rfl
  have hR' : fx_R g (fx_cp h a b sp.toNatClampNeg dp.toNatClampNeg n.toNatClampNeg) (H.setIfInBounds b (vp_cell (fx_dA g 0) (n1, .inl (va_cpy (fx_i h a) (fx_i h b) sp.toNatClampNeg dp.toNatClampNeg n.toNatClampNeg)))) := by
    refine fx_R_upd hR rfl (fun _ => rfl) (fun q hq k => ?_) (fun _ _ _ => rfl) hbb (by simp) (fun q hq => by simp [Array.getElem?_setIfInBounds, Ne.symm hq]) (fun x hx => ?_)
    · rw [fx_i_cp, if_neg hq]
    · cases hb.symm.trans hx
      refine ⟨?_, fun z => by cases z⟩
      have e2 : fx_ar (fx_cp h a b sp.toNatClampNeg dp.toNatClampNeg n.toNatClampNeg) b 0 = .inl (va_cpy (fx_i h a) (fx_i h b) sp.toNatClampNeg dp.toNatClampNeg n.toNatClampNeg) := by
        rw [fx_ar, if_pos (by decide)]
        congr 1
        funext k
        rw [fx_i_cp, if_pos rfl]
      rw [e2]
      simp [Array.getElem?_setIfInBounds, hlt]
  obtain ⟨t, a1, b1⟩ := K p e R s m args below meth c F _ _ cells slots ls hR' (fun z hz => by
      rcases List.mem_append.mp hz with h | h
      · exact hL z h
      · obtain ⟨y, -, hy⟩ := List.mem_map.mp h
        rw [← hy]
        exact hbb) hc hs hl _ hheap X'
  exact ⟨t, step t a1, b1⟩
/-- the words of a call across the nest -/
def fx_mn (own : String) (idx n : Nat) (M' : fx_M) (host : String) : Prop := fx_cw M' ∈ fx_tb ∧ Cond.initialized (fx_y M').cls ∈ fx_tb ∧ ((fx_y M').cls ≠ "java/lang/invoke/MethodHandle" ∧ (fx_y M').cls ≠ "java/lang/invoke/VarHandle") ∧ (parseMethodDescriptor (fx_y M').desc).map (fun d => d.parameters.length) = some n ∧ Cond.methodLinkNest own idx (fx_y M') host ∈ fx_tb
theorem fx_nest (ok : fx_ok g) {own host : String} {idx : Nat} {y : MethodName} (hlk : Cond.methodLinkNest own idx y host ∈ fx_tb) {s : State} (hW : (fx_s0 g).WarmedH s.vm) {args : Array Value} : (Cond.methodLinkNest own idx y host).before args s = true := va_Nw.use rfl (va_Nw.warmM hW (va_Nw.of rfl (ok.2.1 _ hlk)))
theorem fx_siteSN (ok : fx_ok g) {idx : Nat} {host : String} {as : List Value} (hm : fx_mn (fx_y M).cls idx as.length M' host) (hst : Cond.static (fx_y M') ∈ fx_tb) (d : decode (fx_cc M) pc = .ok (.invokestatic idx, 3)) : fx_Site g M M' pc h as st (as.reverse ++ st) := by
  intro p e R s m args below meth c F H locs cells slots ls hR hsz T hT X
  obtain ⟨hcw, hini, hy, hlen, hlk⟩ := hm
  have hW := F.2.2.2.2.2.1
  have hcode : (fx_cw M').before args s = true := fx_word ok hcw fx_gcw hW
  obtain ⟨mk, hnamed⟩ := fx_named hcode
  obtain ⟨methM, cM, hmethM, -, -, -, -, -, -, hsigM⟩ := fx_cw_spec hnamed hcode
  have hstatic : methM.isStatic = true := Cond.static_spec (args := args) hnamed hmethM (fx_word ok hst (by first | rfl | simp [goodWord, Cond.onTables, Cond.keeps, Cond.steady]) hW)
  obtain ⟨kP, hkP, -⟩ := className_of_methodNamed hnamed
  have hinitP : kP.init = .initialized := Cond.initialized_spec (args := args) (findClass_of_methodNamed hnamed) hkP (fx_word ok hini (by first | rfl | simp [goodWord, Cond.onTables, Cond.keeps, Cond.steady]) hW)
  have hlen' : as.length = methM.sig.parameters.length := by
    rw [hsigM] at hlen
    exact (Option.some.inj hlen).symm
  have d' : decode c.code pc = .ok (.invokestatic idx, 3) := by rw [F.2.1]; exact d
  obtain ⟨vm₁, X₁, hstep₁⟩ := X.invokestaticNest F.1 F.2.2.2.2.2.2.1 (fx_nest ok hlk hW) hnamed hmethM hstatic hkP hinitP hy (g := F0 m pc ls (as.reverse ++ st)) rfl (argsL := as) (rest := st) hlen' rfl d'
  exact ⟨vm₁, mk, _, X₁, X₁.named hnamed, d', fun target h => hstep₁ _ fun acts => by rw [doInvoke_state]; exact h⟩
theorem fx_siteVN (ok : fx_ok g) {idx b ci : Nat} {host : String} {as : List Value} {q : vw_C} (hm : fx_mn (fx_y M).cls idx as.length M' host) (hin : Cond.instanceMethod (fx_y M') ∈ fx_tb) (hse : Cond.selects (fx_y M').cls (fx_y M') (fx_y M') ∈ fx_tb) (hs : fx_s h b = some (.inl ci)) (hq : fx_cl[ci]? = some q) (hqc : q.1 = (fx_y M').cls)
    (d : decode (fx_cc M) pc = .ok (.invokevirtual idx, 3)) : fx_Site g M M' pc h (.ref b :: as) st (as.reverse ++ .ref b :: st) := by
  intro p e R s m args below meth c F H locs cells slots ls hR hsz T hT X
  obtain ⟨hcw, hini, hy, hlen, hlk⟩ := hm
  have hW := F.2.2.2.2.2.1
  have hcode : (fx_cw M').before args s = true := fx_word ok hcw fx_gcw hW
  obtain ⟨mk, methM, hnamed, hmethM, hstM, habM⟩ := Cond.instanceMethod_spec (args := args) (fx_word ok hin (by first | rfl | simp [goodWord, Cond.onTables, Cond.keeps, Cond.steady]) hW)
  obtain ⟨methM', cM, hmethM', -, -, -, -, -, -, hsigM⟩ := fx_cw_spec hnamed hcode
  cases hmethM.symm.trans hmethM'
  obtain ⟨⟨r, h1, cellB, q1, q2, q3, -⟩, -⟩ := (hR.2.2.2 b _ hs).2.2
  cases Option.some.inj (h1.symm.trans hq)
  have hKn := fx_Kn ok hW hq
  have hcls : s.vm.findClass (fx_y M').cls = some cellB.cls := by
    rw [q2, ← hqc]
    exact hKn.2.1
  obtain ⟨c2, r2, m2, p1, p2, p3, p4, kP, hkP, hkPi⟩ := Cond.selects_spec (args := args) (fx_word ok hse (by first | rfl | simp [goodWord, Cond.onTables, Cond.keeps, Cond.steady]) hW)
  cases hcls.symm.trans p1
  cases (State.methodFound?_of_named hnamed hy).symm.trans p2
  cases hnamed.symm.trans p3
  have hselP : selectMethod e.platform s.vm cellB.cls mk = .method mk := by rw [Launch.admits_selectMethod X.admits]; exact p4
  have hlen' : as.length = methM.sig.parameters.length := by
    rw [hsigM] at hlen
    exact (Option.some.inj hlen).symm
  have d' : decode c.code pc = .ok (.invokevirtual idx, 3) := by rw [F.2.1]; exact d
  obtain ⟨vm₁, X₁, hstep₁⟩ := X.invokevirtualNest F.1 F.2.2.2.2.2.2.1 (fx_nest ok hlk hW) hnamed hmethM hstM hkP hkPi hy (a := b) (cell := cellB) (by rw [hT]; exact q1)
    (fun z hz => by rw [q3] at hz; cases hz) hselP hmethM habM hkP hkPi (g := F0 m pc ls (as.reverse ++ .ref b :: st)) rfl (argsL := as) (rest := st) hlen' rfl d'
  exact ⟨vm₁, mk, _, X₁, X₁.named hnamed, d', fun target h => hstep₁ _ fun acts => by rw [doInvoke_state]; exact h⟩
theorem fx_siteIN (ok : fx_ok g) {idx b : Nat} {host : String} {as : List Value} (hm : fx_mn (fx_y M).cls idx as.length M' host) (hin : Cond.instanceMethod (fx_y M') ∈ fx_tb) (hnm : (fx_y M').name = "<init>") (hh : fx_hd M' = []) (hrt : fx_rt M' = none)
    (d : decode (fx_cc M) pc = .ok (.invokespecial idx, 3)) : fx_Site g M M' pc h (.ref b :: as) st (as.reverse ++ .ref b :: st) := by
  intro p e R s m args below meth c F H locs cells slots ls hR hsz T hT X
  obtain ⟨hcw, hini, hy, hlen, hlk⟩ := hm
  have hW := F.2.2.2.2.2.1
  have hcode : (Cond.code (fx_y M') (fx_cc M') (fx_ml M') none).before args s = true := by
    have h9 : (fx_cw M').before args s = true := fx_word ok hcw fx_gcw hW
    rw [fx_cw, hh] at h9
    rw [← hrt]
    exact h9
  have hpl : e.platform.magicAccessors = ({} : Platform).magicAccessors := by rw [X.admits.platform]
  have d' : decode c.code pc = .ok (.invokespecial idx, 3) := by rw [F.2.1]; exact d
  obtain ⟨mk, methM, cM, kP, vm₁, hnamed, hmethM, hcodeM, -, hlocalsM, -, hkP, -, hW₁, hstep₁⟩ := Steps.initColdArgsNest (e := e) X.here F.1 X.warmed hpl F.2.2.2.2.2.2.1 hnm hy (fx_nest ok hlk hW) (fx_word ok hin (by first | rfl | simp [goodWord, Cond.onTables, Cond.keeps, Cond.steady]) hW) hcode (f := F0 m pc ls (as.reverse ++ .ref b :: st)) rfl
    (argsL := as) (rest := st) (fun sig hsig => by rw [hsig] at hlen; exact (Option.some.inj hlen).symm) rfl d'
  have X₁ := X.noted hW₁
  exact ⟨vm₁, mk, _, X₁, X₁.named hnamed, d', fun target h => hstep₁ _ fun acts => by rw [doInvoke_state]; exact h⟩
end FXO
end
section
/-! ===== an exception that a caller's table catches, the table's classes resolved there and then ===== -/
section FXK
variable {g : fx_G} {M M' : fx_M} {pc : Nat} {lv : List (Nat × Value)} {st : List Value} {h : fx_H} {Q : fx_O → fx_H → Prop} {mc ms : Nat}
/-- what a row of a table does with an object of the class cx -/
def fx_rowNo (e : Env) (s : State) (d : ClassId) (pc : Nat) (cx : ClassId) (y : ExceptionTableEntry) : Prop := covers y pc = false ∨ (y.catchType ≠ 0 ∧ ∃ c, s.vm.ClassLinks e.platform d y.catchType c ∧ s.vm.assignable cx c = false)
theorem fx_goRow {e : Env} {S : State} {f : JFrame} {a : Addr} {x : ExceptionTableEntry} {t : List ExceptionTableEntry} {c : ClassId} {cell : Cell} (hx : covers x f.pc = true) (h0 : x.catchType ≠ 0) (hl : S.vm.ClassLinks e.platform f.method.cls x.catchType c)
    (hcell : S.heap[a]? = some cell) (hobj : ∀ k, cell.vm ≠ .statics k) (hk : ∃ k, S.vm.classes[cell.cls]? = some k) (hc : ∃ k, S.vm.classes[c]? = some k) (Q9 : Handler → Pre) (E : CtlPost) (d : Bool) (acts : List Action) :
    (S.vm.assignable cell.cls c = true → (wp (findHandler.go f a (x :: t)) Q9 E e d acts S ↔ Q9 (.found x.handlerPc) d acts (S.setVm (S.vm.noted f.method.cls x.catchType (.cls c))))) ∧
    (S.vm.assignable cell.cls c = false → (wp (findHandler.go f a (x :: t)) Q9 E e d acts S ↔ wp (findHandler.go f a t) Q9 E e d acts (S.setVm (S.vm.noted f.method.cls x.catchType (.cls c))))) := by
  simp only [covers] at hx
  obtain ⟨ha, ht⟩ := (resolveClass_links e.toSetting hl).op (op := VmOp.resolveClass f.method.cls x.catchType) rfl
  have hal : S.vm.Alike (S.vm.noted f.method.cls x.catchType (.cls c)) := (Vm.Alike.refl S.vm).noted _ _ _
  obtain ⟨k1, hk1⟩ := hk
  obtain ⟨k2, hk2⟩ := hc
  obtain ⟨k1', hk1', -⟩ := hal.2.2 _ _ hk1
  obtain ⟨k2', hk2', -⟩ := hal.2.2 _ _ hk2
  refine ⟨fun hf => ?_, fun hf => ?_⟩
  · have hf' : (S.vm.noted f.method.cls x.catchType (.cls c)).assignable cell.cls c = true := by rw [hal.assignable]; exact hf
    simp [findHandler.go, hx, h0, ha, ht, hcell, hobj, hk1', hk2', hf', VmOp.dirties, VmOp.acts]
  · have hf' : (S.vm.noted f.method.cls x.catchType (.cls c)).assignable cell.cls c = false := by rw [hal.assignable]; exact hf
    simp [findHandler.go, hx, h0, ha, ht, hcell, hobj, hk1', hk2', hf', VmOp.dirties, VmOp.acts]
theorem fx_goAll {e : Env} {s : State} {f : JFrame} {a : Addr} {cell : Cell} (hobj : ∀ k, cell.vm ≠ .statics k) (hk0 : ∃ k, s.vm.classes[cell.cls]? = some k) (x : ExceptionTableEntry) (rest : List ExceptionTableEntry) (hx : covers x f.pc = true) (h0 : x.catchType ≠ 0)
    {c : ClassId} (hl : s.vm.ClassLinks e.platform f.method.cls x.catchType c) (hfit : s.vm.assignable cell.cls c = true) : ∀ (pre : List ExceptionTableEntry) (S : State), s.WarmedH S.vm → S.heap[a]? = some cell → (∀ y ∈ pre, fx_rowNo e s f.method.cls f.pc cell.cls y) →
      ∃ vm', s.WarmedH vm' ∧ ∀ (Q9 : Handler → Pre) (E : CtlPost) (d : Bool) (acts : List Action), wp (findHandler.go f a (pre ++ x :: rest)) Q9 E e d acts S ↔ Q9 (.found x.handlerPc) d acts (S.setVm vm') := by
  obtain ⟨k0, hk0⟩ := hk0
  intro pre
  induction pre with
  | nil =>
    intro S hW hcell _
    obtain ⟨k0', hk0', -⟩ := hW.alike.2.2 _ _ hk0
    obtain ⟨dk, _, _, kt, hd, _, _, _, _, hkt, _, hopen⟩ := hl.here
    obtain ⟨kt', hkt', -⟩ := hW.alike.2.2 _ _ hkt
    exact ⟨_, hW.noted hd hopen (State.rightAt_cls hl), fun Q9 E d acts => (fx_goRow (t := rest) hx h0 (hW.classLinks hl) hcell hobj ⟨k0', hk0'⟩ ⟨kt', hkt'⟩ Q9 E d acts).1 (by rw [hW.alike.assignable]; exact hfit)⟩
  | cons y ys ih =>
    intro S hW hcell hno
    obtain ⟨k0', hk0', -⟩ := hW.alike.2.2 _ _ hk0
    have hrest : ∀ z ∈ ys, fx_rowNo e s f.method.cls f.pc cell.cls z := fun z hz => hno z (List.mem_cons_of_mem _ hz)
    by_cases hcov : covers y f.pc = true
    · rcases hno y List.mem_cons_self with h1 | ⟨h1, c1, hl1, hn1⟩
      · rw [h1] at hcov; cases hcov
      · obtain ⟨dk, _, _, kt, hd, _, _, _, _, hkt, _, hopen⟩ := hl1.here
        obtain ⟨kt', hkt', -⟩ := hW.alike.2.2 _ _ hkt
        obtain ⟨vm', hW', hq⟩ := ih (S.setVm (S.vm.noted f.method.cls y.catchType (.cls c1))) (hW.noted hd hopen (State.rightAt_cls hl1)) hcell hrest
        exact ⟨vm', hW', fun Q9 E d acts => by
          rw [List.cons_append, (fx_goRow (t := ys ++ x :: rest) hcov h1 (hW.classLinks hl1) hcell hobj ⟨k0', hk0'⟩ ⟨kt', hkt'⟩ Q9 E d acts).2 (by rw [hW.alike.assignable]; exact hn1)]
          exact hq Q9 E d acts⟩
    · obtain ⟨vm', hW', hq⟩ := ih S hW hcell hrest
      exact ⟨vm', hW', fun Q9 E d acts => by
        rw [List.cons_append, W.findHandler_go_skip (by simpa using hcov)]
        exact hq Q9 E d acts⟩
theorem fx_caught {p : Program} {l : Launch} {e : Env} {R : Room} {s T : State} {m : MethodId} {args : Array Value} {below : List Frame} {meth : Method} {c : Code} {locs : List Loc} {cells slots : Nat} (X : Stand p l e R s m args below meth c T locs cells slots) (a : Addr) {gf : JFrame} (hg : gf.method = m) {cell : Cell} (hcell : T.heap[a]? = some cell) (hv : cell.vm = .none) (hk0 : ∃ k, s.vm.classes[cell.cls]? = some k)
    (pre : List ExceptionTableEntry) (x : ExceptionTableEntry) (rest : List ExceptionTableEntry) (hsplit : c.exceptionTable.toList = pre ++ x :: rest) (hpass : ∀ y ∈ pre, fx_rowNo e s m.cls gf.pc cell.cls y) (hx : covers x gf.pc = true) (h0 : x.catchType ≠ 0) {ct : ClassId} (hl : s.vm.ClassLinks e.platform m.cls x.catchType ct) (hfit : s.vm.assignable cell.cls ct = true) :
    ∃ vm', Stand p l e R s m args below meth c (T.setVm vm') locs cells slots ∧ ∀ target, Steps p.tables e below ((T.setVm vm').setTop { gf with pc := x.handlerPc, stack := [.ref a] }) target → Steps p.tables e below ((T.setTop gf).pushFrame (.throwing a)) target := by
  subst hg
  obtain ⟨vm', hW', hq⟩ := fx_goAll (e := e) (s := s) (f := gf) (a := a) (cell := cell) (fun k hk => by rw [hv] at hk; cases hk) hk0 x rest hx h0 hl hfit pre ((T.setTop gf).pushFrame (.throwing a)) X.warmed hcell hpass
  refine ⟨vm', X.noted hW', fun target hrest => ?_⟩
  have hfind : ∀ (Q9 : Handler → Pre) (E : CtlPost) (d : Bool) (acts : List Action), wp (findHandler gf a) Q9 E e d acts ((T.setTop gf).pushFrame (.throwing a)) ↔ Q9 (.found x.handlerPc) d acts (((T.setTop gf).pushFrame (.throwing a)).setVm vm') := by
    intro Q9 E d acts
    rw [W.findHandler_eq (s := (T.setTop gf).pushFrame (.throwing a)) (meth := meth) (code := c) X.method' X.code, hsplit]
    exact hq Q9 E d acts
  have hh := X.here
  obtain ⟨hgo, hw⟩ := hh.throwing a
  refine Steps.head hgo hw ?_
  have hstep : (stepThrowing e ((T.setTop gf).pushFrame (.throwing a)) a (.java gf :: T.frames.tail)).Is ((((T.setTop gf).pushFrame (.throwing a)).setVm vm').setFrames (.java { gf with pc := x.handlerPc, stack := [.ref a] } :: T.frames.tail)) [] := by
    simp only [stepThrowing, searchFrame, vmDo]
    generalize hr : Sem.go _ e false [] ((T.setTop gf).pushFrame (.throwing a)) = res
    obtain ⟨as, rfl, ha⟩ := Sem.eq_ok_of hr (a := Handler.found x.handlerPc) (s' := ((T.setTop gf).pushFrame (.throwing a)).setVm vm') (acts' := []) (by simp [hfind _ _ _ _])
    exact ⟨rfl, ha⟩
  rw [stepThread_throwing (frames_entered hh.top _), hstep.1]
  obtain ⟨g0, hg0⟩ := Option.isSome_iff_exists.mp hh.top
  obtain ⟨r, hr⟩ := State.topJava?_eq_some.mp hg0
  have hr' : (T.setVm vm').frames = .java g0 :: r := hr
  rw [State.setTop_of_frames _ hr'] at hrest
  have key : ∀ (u : State) (F G : List Frame), ((u.setFrames F).setVm vm').setFrames G = (u.setVm vm').setFrames G := fun u F G => by
    have h1 : (u.setFrames F).setVm vm' = (u.setVm vm').setFrames F := rfl
    rw [h1, State.setFrames_setFrames]
  rw [hr, List.tail_cons, State.pushFrame, key, State.setTop_of_frames _ hr, key]
  exact hrest
end FXK
end
section
/-! ===== catching by name; constants by a wide index; switches; calls by their arity ===== -/
section FXS
variable {g : fx_G} {M M' : fx_M} {pc : Nat} {lv : List (Nat × Value)} {st : List Value} {h k : fx_H} {Q : fx_O → fx_H → Prop} {mc ms mc' ms' : Nat} {x : Int32}
theorem fx_T_catch (ok : fx_ok g) {E name : String} {pre' suf' : List (Nat × Nat × Nat × Nat)} {a b hp ct : Nat} (hh : fx_hd M = pre' ++ (a, b, hp, ct) :: suf') (hab : a ≤ pc ∧ pc < b) (h0 : ct ≠ 0) (hlk : Cond.classLink (fx_y M).cls ct name ∈ fx_tb) (hcast : Cond.castable E name ∈ fx_tb)
    (hpass : ∀ r ∈ pre', ¬ (r.1 ≤ pc ∧ pc < r.2.1) ∨ (r.2.2.2 ≠ 0 ∧ ∃ nm, Cond.classLink (fx_y M).cls r.2.2.2 nm ∈ fx_tb ∧ Cond.not (.castable E nm) ∈ fx_tb)) (K : ∀ q, fx_X g M hp lv [.ref q] h Q mc ms) : fx_T g M pc lv E h Q mc ms := by
  intro p e R s m args below meth c F H locs cells slots ls rest q ce hR hL hc hs hl hce hv hcl T hT X
  have hW := F.2.2.2.2.2.1
  have hown := F.2.2.2.2.2.2.1
  have hpl : e.platform.magicAccessors = ({} : Platform).magicAccessors := by rw [X.admits.platform]
  have hrows : c.exceptionTable.toList.map (fun h => (h.startPc, h.endPc, h.handlerPc, h.catchType)) = pre' ++ (a, b, hp, ct) :: suf' := F.2.2.2.2.2.2.2.2.1.trans hh
  obtain ⟨l1, l2, hsplit, h1, h2⟩ := List.map_eq_append_iff.mp hrows
  obtain ⟨y, l3, hl2, hy, h3⟩ := List.map_eq_cons_iff.mp h2
  subst hl2
  simp only [Prod.mk.injEq] at hy
  obtain ⟨y1, y2, y3, y4⟩ := hy
  obtain ⟨c3, c4, hc3, hc4, hasg⟩ := Cond.castable_spec (args := args) (fx_cast ok hcast hW)
  cases Option.some.inj (hc3.symm.trans hcl)
  obtain ⟨c5, hc5, hcl5⟩ := Cond.classLink_spec hown (fx_word ok hlk (by first | rfl | simp [goodWord, Cond.onTables, Cond.keeps, Cond.steady]) hW (args := args)) e.platform hpl
  cases Option.some.inj (hc4.symm.trans hc5)
  obtain ⟨kc, hkc, -⟩ := Vm.findClass_spec hcl
  obtain ⟨vm', X', st'⟩ := fx_caught X q (gf := F0 m pc ls rest) rfl (by rw [hT]; exact hce) hv ⟨kc, hkc⟩ l1 y l3 hsplit (fun z hz => by
      have hz' : (z.startPc, z.endPc, z.handlerPc, z.catchType) ∈ pre' := by
        rw [← h1]
        exact List.mem_map.mpr ⟨z, hz, rfl⟩
      rcases hpass _ hz' with h9 | ⟨h9, nm, hn1, hn2⟩
      · refine Or.inl ?_
        have h8 : ¬ (z.startPc ≤ pc ∧ pc < z.endPc) := h9
        simp only [covers]
        simpa using h8
      · obtain ⟨a8, b8, g1, g2, g3⟩ := (va_Nc.of (ok.2.1 _ hn2)).moved hW.alike
        cases Option.some.inj (g1.symm.trans hcl)
        obtain ⟨c6, hc6, hcl6⟩ := Cond.classLink_spec hown (fx_word ok hn1 (by first | rfl | simp [goodWord, Cond.onTables, Cond.keeps, Cond.steady]) hW (args := args)) e.platform hpl
        cases Option.some.inj (g2.symm.trans hc6)
        exact Or.inr ⟨h9, _, hcl6, g3⟩) (by simp only [covers]; rw [y1, y2]; simpa using hab) (by rw [y4]; exact h0) (by rw [y4]; exact hcl5) hasg
  rw [y3] at st'
  obtain ⟨t, a1, b1⟩ := K q p e R s m args below meth c F H locs cells slots ls hR hL hc hs hl (T.setVm vm') hT X'
  exact ⟨t, st' t a1, b1⟩
theorem fx_ldc_w (ok : fx_ok g) {idx : Nat} {v : Int32} (hk : Cond.constant (fx_y M).cls idx v ∈ fx_tb) (d : decode (fx_cc M) pc = .ok (.ldc_w idx, 3)) (K : fx_X g M (pc + 3) lv (.int v :: st) h Q mc ms) : fx_X g M pc lv st h Q mc ms := by
  intro p e R s m args below meth c F H locs cells slots ls hR hL hc hs hl T hT X
  obtain ⟨t, a1, b1⟩ := K p e R s m args below meth c F H locs cells slots ls hR hL hc hs hl T hT X
  refine ⟨t, ?_, b1⟩
  obtain ⟨kc, cf, bytes, hkc, hcf, hcp, hb⟩ := Cond.constant_spec F.2.2.2.2.2.2.1 (fx_word ok hk (by first | rfl | simp [goodWord, Cond.onTables, Cond.keeps, Cond.steady]) F.2.2.2.2.2.1 (args := args))
  obtain ⟨k', hk', he⟩ := X.warmed.alike.2.2 _ _ hkc
  have d' : decode c.code pc = .ok (.ldc_w idx, 3) := by rw [F.2.1]; exact d
  jvm_step X.here [F.1, d', ldc_w.wp_int (s := T) (f := F0 m pc ls st) X.here.top hk' (by rw [he]; exact hcf) hcp, hb]
  exact a1
theorem fx_tsIn {dflt lo hi off : Int} {offs : Array Int} {len tgt : Nat} (d : decode (fx_cc M) pc = .ok (.tableswitch dflt lo hi offs, len)) (h1 : ¬ x.toInt < lo) (h2 : ¬ hi < x.toInt) (ho : offs[(x.toInt - lo).toNat]? = some off) (ht : (pc : Int) + off = (tgt : Int)) (K : fx_X g M tgt lv st h Q mc ms) : fx_X g M pc lv (.int x :: st) h Q mc ms := by
  intro p e R s m args below meth c F H locs cells slots ls hR hL hc hs hl
  exact lv_tableIn F.1 F.2.1 d h1 h2 ho ht (K p e R s m args below meth c F H locs cells slots ls hR hL hc hs hl)
theorem fx_tsOut {dflt lo hi : Int} {offs : Array Int} {len tgt : Nat} (d : decode (fx_cc M) pc = .ok (.tableswitch dflt lo hi offs, len)) (h1 : x.toInt < lo ∨ hi < x.toInt) (ht : (pc : Int) + dflt = (tgt : Int)) (K : fx_X g M tgt lv st h Q mc ms) : fx_X g M pc lv (.int x :: st) h Q mc ms := by
  intro p e R s m args below meth c F H locs cells slots ls hR hL hc hs hl
  exact lv_tableOut F.1 F.2.1 d h1 ht (K p e R s m args below meth c F H locs cells slots ls hR hL hc hs hl)
theorem fx_widen {mc2 ms2 : Nat} (h1 : mc ≤ mc2) (h2 : ms ≤ ms2) (K : fx_X g M pc lv st h Q mc ms) : fx_X g M pc lv st h Q mc2 ms2 := by
  intro p e R s m args below meth c F H locs cells slots ls hR hL hc hs hl
  exact K p e R s m args below meth c F H locs cells slots ls hR hL (by omega) (by omega) hl
abbrev fx_is (v : Option Int32) (k : fx_H) : fx_O → fx_H → Prop := fun o h' => o = .inl v ∧ h' = k
abbrev fx_th (E : String) (k : fx_H) : fx_O → fx_H → Prop := fun o h' => o = .inr E ∧ h' = k
theorem fx_callR (ok : fx_ok g) {as st' : List Value} {v : Option Int32} (hC : fx_C g M' as h (fx_is v k) mc' ms') (S : fx_Site g M M' pc h as st st') (hcw : fx_cw M' ∈ fx_tb) (hini : Cond.initialized (fx_y M').cls ∈ fx_tb) (hlv : fx_lv M' + 1 ≤ fx_lv M) (hlo : (st.map fun v => v.category).sum + (fx_ml M' + 11) + fx_lw M' ≤ fx_lw M)
    (K : fx_X g M (pc + 3) lv ((v.map Value.int).toList ++ st) k Q mc ms) : fx_X g M pc lv st' h Q (mc' + mc) (ms' + ms) :=
  fx_call ok hC S hcw hini hlv hlo (fun v' h' hq => by obtain ⟨e1, rfl⟩ := hq; cases e1; exact K) (fun E h' hq => by cases hq.1)
theorem fx_callR0 (ok : fx_ok g) {as st' : List Value} {v : Option Int32} (hC : fx_C g M' as h (fx_is v k) 0 0) (S : fx_Site g M M' pc h as st st') (hcw : fx_cw M' ∈ fx_tb) (hini : Cond.initialized (fx_y M').cls ∈ fx_tb) (hlv : fx_lv M' + 1 ≤ fx_lv M) (hlo : (st.map fun v => v.category).sum + (fx_ml M' + 11) + fx_lw M' ≤ fx_lw M)
    (K : fx_X g M (pc + 3) lv ((v.map Value.int).toList ++ st) k Q mc ms) : fx_X g M pc lv st' h Q mc ms := by
  have h9 := fx_callR ok hC S hcw hini hlv hlo K
  rw [Nat.zero_add, Nat.zero_add] at h9
  exact h9
theorem fx_callT (ok : fx_ok g) {as st' : List Value} {E : String} (hC : fx_C g M' as h (fx_th E k) mc' ms') (S : fx_Site g M M' pc h as st st') (hcw : fx_cw M' ∈ fx_tb) (hini : Cond.initialized (fx_y M').cls ∈ fx_tb) (hlv : fx_lv M' + 1 ≤ fx_lv M) (hlo : (st.map fun v => v.category).sum + (fx_ml M' + 11) + fx_lw M' ≤ fx_lw M)
    (K : fx_T g M pc lv E k Q mc ms) : fx_X g M pc lv st' h Q (mc' + mc) (ms' + ms) :=
  fx_call ok hC S hcw hini hlv hlo (fun v' h' hq => by cases hq.1) (fun E' h' hq => by obtain ⟨e1, rfl⟩ := hq; cases e1; exact K)
/-- the words of a static call, of a call on an object, of a constructor -/
abbrev fx_wS (own : String) (idx n : Nat) (M' : fx_M) : Prop := fx_mw own idx n M' ∧ Cond.static (fx_y M') ∈ fx_tb
abbrev fx_wV (own : String) (idx n : Nat) (M' : fx_M) (ci : Nat) : Prop := fx_mw own idx n M' ∧ Cond.instanceMethod (fx_y M') ∈ fx_tb ∧ Cond.selects (fx_y M').cls (fx_y M') (fx_y M') ∈ fx_tb ∧ ∃ q : vw_C, fx_cl[ci]? = some q ∧ q.1 = (fx_y M').cls
abbrev fx_wI (own : String) (idx n : Nat) (M' : fx_M) : Prop := fx_mw own idx n M' ∧ Cond.instanceMethod (fx_y M') ∈ fx_tb ∧ (fx_y M').name = "<init>" ∧ fx_hd M' = [] ∧ fx_rt M' = none
abbrev fx_wN (own : String) (idx n : Nat) (M' : fx_M) (host : String) : Prop := fx_mn own idx n M' host ∧ Cond.instanceMethod (fx_y M') ∈ fx_tb ∧ (fx_y M').name = "<init>" ∧ fx_hd M' = [] ∧ fx_rt M' = none
abbrev fx_wSN (own : String) (idx n : Nat) (M' : fx_M) (host : String) : Prop := fx_mn own idx n M' host ∧ Cond.static (fx_y M') ∈ fx_tb
theorem fx_Si0 (ok : fx_ok g) {idx : Nat} (w : fx_wS (fx_y M).cls idx 0 M') (hC : fx_C g M' ([] : List Value) h (fx_is (some x) k) 0 0) (hlv : fx_lv M' + 1 ≤ fx_lv M) (hlo : (st.map fun v => v.category).sum + (fx_ml M' + 11) + fx_lw M' ≤ fx_lw M) (d : decode (fx_cc M) pc = .ok (.invokestatic idx, 3))
    (K : fx_X g M (pc + 3) lv (.int x :: st) k Q mc ms) : fx_X g M pc lv (st) h Q mc ms :=
  fx_callR0 ok hC (fx_siteS ok (as := []) w.1 w.2 d) w.1.1 w.1.2.1 hlv hlo K
theorem fx_Sv0 (ok : fx_ok g) {idx : Nat} (w : fx_wS (fx_y M).cls idx 0 M') (hC : fx_C g M' ([] : List Value) h (fx_is none k) 0 0) (hlv : fx_lv M' + 1 ≤ fx_lv M) (hlo : (st.map fun v => v.category).sum + (fx_ml M' + 11) + fx_lw M' ≤ fx_lw M) (d : decode (fx_cc M) pc = .ok (.invokestatic idx, 3))
    (K : fx_X g M (pc + 3) lv st k Q mc ms) : fx_X g M pc lv (st) h Q mc ms :=
  fx_callR0 ok hC (fx_siteS ok (as := []) w.1 w.2 d) w.1.1 w.1.2.1 hlv hlo K
theorem fx_Sa0 (ok : fx_ok g) {idx : Nat} (w : fx_wS (fx_y M).cls idx 0 M') (hC : fx_C g M' ([] : List Value) h (fx_is none k) mc' ms') (hlv : fx_lv M' + 1 ≤ fx_lv M) (hlo : (st.map fun v => v.category).sum + (fx_ml M' + 11) + fx_lw M' ≤ fx_lw M) (d : decode (fx_cc M) pc = .ok (.invokestatic idx, 3))
    (K : fx_X g M (pc + 3) lv st k Q mc ms) : fx_X g M pc lv (st) h Q (mc' + mc) (ms' + ms) :=
  fx_callR ok hC (fx_siteS ok (as := []) w.1 w.2 d) w.1.1 w.1.2.1 hlv hlo K
theorem fx_Sb0 (ok : fx_ok g) {idx : Nat} (w : fx_wS (fx_y M).cls idx 0 M') (hC : fx_C g M' ([] : List Value) h (fx_is (some x) k) mc' ms') (hlv : fx_lv M' + 1 ≤ fx_lv M) (hlo : (st.map fun v => v.category).sum + (fx_ml M' + 11) + fx_lw M' ≤ fx_lw M) (d : decode (fx_cc M) pc = .ok (.invokestatic idx, 3))
    (K : fx_X g M (pc + 3) lv (.int x :: st) k Q mc ms) : fx_X g M pc lv (st) h Q (mc' + mc) (ms' + ms) :=
  fx_callR ok hC (fx_siteS ok (as := []) w.1 w.2 d) w.1.1 w.1.2.1 hlv hlo K
theorem fx_St0 (ok : fx_ok g) {idx : Nat} (w : fx_wS (fx_y M).cls idx 0 M') {E : String} (hC : fx_C g M' ([] : List Value) h (fx_th E k) mc' ms') (hlv : fx_lv M' + 1 ≤ fx_lv M) (hlo : (st.map fun v => v.category).sum + (fx_ml M' + 11) + fx_lw M' ≤ fx_lw M) (d : decode (fx_cc M) pc = .ok (.invokestatic idx, 3))
    (K : fx_T g M pc lv E k Q mc ms) : fx_X g M pc lv (st) h Q (mc' + mc) (ms' + ms) :=
  fx_callT ok hC (fx_siteS ok (as := []) w.1 w.2 d) w.1.1 w.1.2.1 hlv hlo K
theorem fx_Vi0 (ok : fx_ok g) {idx : Nat} {b ci : Nat} (w : fx_wV (fx_y M).cls idx 0 M' ci) (hb : fx_s h b = some (.inl ci)) (hC : fx_C g M' (Value.ref b :: []) h (fx_is (some x) k) 0 0) (hlv : fx_lv M' + 1 ≤ fx_lv M) (hlo : (st.map fun v => v.category).sum + (fx_ml M' + 11) + fx_lw M' ≤ fx_lw M) (d : decode (fx_cc M) pc = .ok (.invokevirtual idx, 3))
    (K : fx_X g M (pc + 3) lv (.int x :: st) k Q mc ms) : fx_X g M pc lv (Value.ref b :: st) h Q mc ms := by
  obtain ⟨q, hq, hqc⟩ := w.2.2.2
  exact fx_callR0 ok hC (fx_siteV ok (as := []) w.1 w.2.1 w.2.2.1 hb hq hqc d) w.1.1 w.1.2.1 hlv hlo K
theorem fx_Vv0 (ok : fx_ok g) {idx : Nat} {b ci : Nat} (w : fx_wV (fx_y M).cls idx 0 M' ci) (hb : fx_s h b = some (.inl ci)) (hC : fx_C g M' (Value.ref b :: []) h (fx_is none k) 0 0) (hlv : fx_lv M' + 1 ≤ fx_lv M) (hlo : (st.map fun v => v.category).sum + (fx_ml M' + 11) + fx_lw M' ≤ fx_lw M) (d : decode (fx_cc M) pc = .ok (.invokevirtual idx, 3))
    (K : fx_X g M (pc + 3) lv st k Q mc ms) : fx_X g M pc lv (Value.ref b :: st) h Q mc ms := by
  obtain ⟨q, hq, hqc⟩ := w.2.2.2
  exact fx_callR0 ok hC (fx_siteV ok (as := []) w.1 w.2.1 w.2.2.1 hb hq hqc d) w.1.1 w.1.2.1 hlv hlo K
theorem fx_Va0 (ok : fx_ok g) {idx : Nat} {b ci : Nat} (w : fx_wV (fx_y M).cls idx 0 M' ci) (hb : fx_s h b = some (.inl ci)) (hC : fx_C g M' (Value.ref b :: []) h (fx_is none k) mc' ms') (hlv : fx_lv M' + 1 ≤ fx_lv M) (hlo : (st.map fun v => v.category).sum + (fx_ml M' + 11) + fx_lw M' ≤ fx_lw M) (d : decode (fx_cc M) pc = .ok (.invokevirtual idx, 3))
    (K : fx_X g M (pc + 3) lv st k Q mc ms) : fx_X g M pc lv (Value.ref b :: st) h Q (mc' + mc) (ms' + ms) := by
  obtain ⟨q, hq, hqc⟩ := w.2.2.2
  exact fx_callR ok hC (fx_siteV ok (as := []) w.1 w.2.1 w.2.2.1 hb hq hqc d) w.1.1 w.1.2.1 hlv hlo K
theorem fx_Vb0 (ok : fx_ok g) {idx : Nat} {b ci : Nat} (w : fx_wV (fx_y M).cls idx 0 M' ci) (hb : fx_s h b = some (.inl ci)) (hC : fx_C g M' (Value.ref b :: []) h (fx_is (some x) k) mc' ms') (hlv : fx_lv M' + 1 ≤ fx_lv M) (hlo : (st.map fun v => v.category).sum + (fx_ml M' + 11) + fx_lw M' ≤ fx_lw M) (d : decode (fx_cc M) pc = .ok (.invokevirtual idx, 3))
    (K : fx_X g M (pc + 3) lv (.int x :: st) k Q mc ms) : fx_X g M pc lv (Value.ref b :: st) h Q (mc' + mc) (ms' + ms) := by
  obtain ⟨q, hq, hqc⟩ := w.2.2.2
  exact fx_callR ok hC (fx_siteV ok (as := []) w.1 w.2.1 w.2.2.1 hb hq hqc d) w.1.1 w.1.2.1 hlv hlo K
theorem fx_Vt0 (ok : fx_ok g) {idx : Nat} {b ci : Nat} (w : fx_wV (fx_y M).cls idx 0 M' ci) (hb : fx_s h b = some (.inl ci)) {E : String} (hC : fx_C g M' (Value.ref b :: []) h (fx_th E k) mc' ms') (hlv : fx_lv M' + 1 ≤ fx_lv M) (hlo : (st.map fun v => v.category).sum + (fx_ml M' + 11) + fx_lw M' ≤ fx_lw M) (d : decode (fx_cc M) pc = .ok (.invokevirtual idx, 3))
    (K : fx_T g M pc lv E k Q mc ms) : fx_X g M pc lv (Value.ref b :: st) h Q (mc' + mc) (ms' + ms) := by
  obtain ⟨q, hq, hqc⟩ := w.2.2.2
  exact fx_callT ok hC (fx_siteV ok (as := []) w.1 w.2.1 w.2.2.1 hb hq hqc d) w.1.1 w.1.2.1 hlv hlo K
theorem fx_Si1 (ok : fx_ok g) {idx : Nat} {a1 : Value} (w : fx_wS (fx_y M).cls idx 1 M') (hC : fx_C g M' ([a1] : List Value) h (fx_is (some x) k) 0 0) (hlv : fx_lv M' + 1 ≤ fx_lv M) (hlo : (st.map fun v => v.category).sum + (fx_ml M' + 11) + fx_lw M' ≤ fx_lw M) (d : decode (fx_cc M) pc = .ok (.invokestatic idx, 3))
    (K : fx_X g M (pc + 3) lv (.int x :: st) k Q mc ms) : fx_X g M pc lv (a1 :: st) h Q mc ms :=
  fx_callR0 ok hC (fx_siteS ok (as := [a1]) w.1 w.2 d) w.1.1 w.1.2.1 hlv hlo K
theorem fx_Sv1 (ok : fx_ok g) {idx : Nat} {a1 : Value} (w : fx_wS (fx_y M).cls idx 1 M') (hC : fx_C g M' ([a1] : List Value) h (fx_is none k) 0 0) (hlv : fx_lv M' + 1 ≤ fx_lv M) (hlo : (st.map fun v => v.category).sum + (fx_ml M' + 11) + fx_lw M' ≤ fx_lw M) (d : decode (fx_cc M) pc = .ok (.invokestatic idx, 3))
    (K : fx_X g M (pc + 3) lv st k Q mc ms) : fx_X g M pc lv (a1 :: st) h Q mc ms :=
  fx_callR0 ok hC (fx_siteS ok (as := [a1]) w.1 w.2 d) w.1.1 w.1.2.1 hlv hlo K
theorem fx_Sa1 (ok : fx_ok g) {idx : Nat} {a1 : Value} (w : fx_wS (fx_y M).cls idx 1 M') (hC : fx_C g M' ([a1] : List Value) h (fx_is none k) mc' ms') (hlv : fx_lv M' + 1 ≤ fx_lv M) (hlo : (st.map fun v => v.category).sum + (fx_ml M' + 11) + fx_lw M' ≤ fx_lw M) (d : decode (fx_cc M) pc = .ok (.invokestatic idx, 3))
    (K : fx_X g M (pc + 3) lv st k Q mc ms) : fx_X g M pc lv (a1 :: st) h Q (mc' + mc) (ms' + ms) :=
  fx_callR ok hC (fx_siteS ok (as := [a1]) w.1 w.2 d) w.1.1 w.1.2.1 hlv hlo K
theorem fx_Sb1 (ok : fx_ok g) {idx : Nat} {a1 : Value} (w : fx_wS (fx_y M).cls idx 1 M') (hC : fx_C g M' ([a1] : List Value) h (fx_is (some x) k) mc' ms') (hlv : fx_lv M' + 1 ≤ fx_lv M) (hlo : (st.map fun v => v.category).sum + (fx_ml M' + 11) + fx_lw M' ≤ fx_lw M) (d : decode (fx_cc M) pc = .ok (.invokestatic idx, 3))
    (K : fx_X g M (pc + 3) lv (.int x :: st) k Q mc ms) : fx_X g M pc lv (a1 :: st) h Q (mc' + mc) (ms' + ms) :=
  fx_callR ok hC (fx_siteS ok (as := [a1]) w.1 w.2 d) w.1.1 w.1.2.1 hlv hlo K
theorem fx_St1 (ok : fx_ok g) {idx : Nat} {a1 : Value} (w : fx_wS (fx_y M).cls idx 1 M') {E : String} (hC : fx_C g M' ([a1] : List Value) h (fx_th E k) mc' ms') (hlv : fx_lv M' + 1 ≤ fx_lv M) (hlo : (st.map fun v => v.category).sum + (fx_ml M' + 11) + fx_lw M' ≤ fx_lw M) (d : decode (fx_cc M) pc = .ok (.invokestatic idx, 3))
    (K : fx_T g M pc lv E k Q mc ms) : fx_X g M pc lv (a1 :: st) h Q (mc' + mc) (ms' + ms) :=
  fx_callT ok hC (fx_siteS ok (as := [a1]) w.1 w.2 d) w.1.1 w.1.2.1 hlv hlo K
theorem fx_Vi1 (ok : fx_ok g) {idx : Nat} {b ci : Nat} {a1 : Value} (w : fx_wV (fx_y M).cls idx 1 M' ci) (hb : fx_s h b = some (.inl ci)) (hC : fx_C g M' (Value.ref b :: [a1]) h (fx_is (some x) k) 0 0) (hlv : fx_lv M' + 1 ≤ fx_lv M) (hlo : (st.map fun v => v.category).sum + (fx_ml M' + 11) + fx_lw M' ≤ fx_lw M) (d : decode (fx_cc M) pc = .ok (.invokevirtual idx, 3))
    (K : fx_X g M (pc + 3) lv (.int x :: st) k Q mc ms) : fx_X g M pc lv (a1 :: Value.ref b :: st) h Q mc ms := by
  obtain ⟨q, hq, hqc⟩ := w.2.2.2
  exact fx_callR0 ok hC (fx_siteV ok (as := [a1]) w.1 w.2.1 w.2.2.1 hb hq hqc d) w.1.1 w.1.2.1 hlv hlo K
theorem fx_Vv1 (ok : fx_ok g) {idx : Nat} {b ci : Nat} {a1 : Value} (w : fx_wV (fx_y M).cls idx 1 M' ci) (hb : fx_s h b = some (.inl ci)) (hC : fx_C g M' (Value.ref b :: [a1]) h (fx_is none k) 0 0) (hlv : fx_lv M' + 1 ≤ fx_lv M) (hlo : (st.map fun v => v.category).sum + (fx_ml M' + 11) + fx_lw M' ≤ fx_lw M) (d : decode (fx_cc M) pc = .ok (.invokevirtual idx, 3))
    (K : fx_X g M (pc + 3) lv st k Q mc ms) : fx_X g M pc lv (a1 :: Value.ref b :: st) h Q mc ms := by
  obtain ⟨q, hq, hqc⟩ := w.2.2.2
  exact fx_callR0 ok hC (fx_siteV ok (as := [a1]) w.1 w.2.1 w.2.2.1 hb hq hqc d) w.1.1 w.1.2.1 hlv hlo K
theorem fx_Va1 (ok : fx_ok g) {idx : Nat} {b ci : Nat} {a1 : Value} (w : fx_wV (fx_y M).cls idx 1 M' ci) (hb : fx_s h b = some (.inl ci)) (hC : fx_C g M' (Value.ref b :: [a1]) h (fx_is none k) mc' ms') (hlv : fx_lv M' + 1 ≤ fx_lv M) (hlo : (st.map fun v => v.category).sum + (fx_ml M' + 11) + fx_lw M' ≤ fx_lw M) (d : decode (fx_cc M) pc = .ok (.invokevirtual idx, 3))
    (K : fx_X g M (pc + 3) lv st k Q mc ms) : fx_X g M pc lv (a1 :: Value.ref b :: st) h Q (mc' + mc) (ms' + ms) := by
  obtain ⟨q, hq, hqc⟩ := w.2.2.2
  exact fx_callR ok hC (fx_siteV ok (as := [a1]) w.1 w.2.1 w.2.2.1 hb hq hqc d) w.1.1 w.1.2.1 hlv hlo K
theorem fx_Vb1 (ok : fx_ok g) {idx : Nat} {b ci : Nat} {a1 : Value} (w : fx_wV (fx_y M).cls idx 1 M' ci) (hb : fx_s h b = some (.inl ci)) (hC : fx_C g M' (Value.ref b :: [a1]) h (fx_is (some x) k) mc' ms') (hlv : fx_lv M' + 1 ≤ fx_lv M) (hlo : (st.map fun v => v.category).sum + (fx_ml M' + 11) + fx_lw M' ≤ fx_lw M) (d : decode (fx_cc M) pc = .ok (.invokevirtual idx, 3))
    (K : fx_X g M (pc + 3) lv (.int x :: st) k Q mc ms) : fx_X g M pc lv (a1 :: Value.ref b :: st) h Q (mc' + mc) (ms' + ms) := by
  obtain ⟨q, hq, hqc⟩ := w.2.2.2
  exact fx_callR ok hC (fx_siteV ok (as := [a1]) w.1 w.2.1 w.2.2.1 hb hq hqc d) w.1.1 w.1.2.1 hlv hlo K
theorem fx_Vt1 (ok : fx_ok g) {idx : Nat} {b ci : Nat} {a1 : Value} (w : fx_wV (fx_y M).cls idx 1 M' ci) (hb : fx_s h b = some (.inl ci)) {E : String} (hC : fx_C g M' (Value.ref b :: [a1]) h (fx_th E k) mc' ms') (hlv : fx_lv M' + 1 ≤ fx_lv M) (hlo : (st.map fun v => v.category).sum + (fx_ml M' + 11) + fx_lw M' ≤ fx_lw M) (d : decode (fx_cc M) pc = .ok (.invokevirtual idx, 3))
    (K : fx_T g M pc lv E k Q mc ms) : fx_X g M pc lv (a1 :: Value.ref b :: st) h Q (mc' + mc) (ms' + ms) := by
  obtain ⟨q, hq, hqc⟩ := w.2.2.2
  exact fx_callT ok hC (fx_siteV ok (as := [a1]) w.1 w.2.1 w.2.2.1 hb hq hqc d) w.1.1 w.1.2.1 hlv hlo K
theorem fx_Si2 (ok : fx_ok g) {idx : Nat} {a1 a2 : Value} (w : fx_wS (fx_y M).cls idx 2 M') (hC : fx_C g M' ([a1, a2] : List Value) h (fx_is (some x) k) 0 0) (hlv : fx_lv M' + 1 ≤ fx_lv M) (hlo : (st.map fun v => v.category).sum + (fx_ml M' + 11) + fx_lw M' ≤ fx_lw M) (d : decode (fx_cc M) pc = .ok (.invokestatic idx, 3))
    (K : fx_X g M (pc + 3) lv (.int x :: st) k Q mc ms) : fx_X g M pc lv (a2 :: a1 :: st) h Q mc ms :=
  fx_callR0 ok hC (fx_siteS ok (as := [a1, a2]) w.1 w.2 d) w.1.1 w.1.2.1 hlv hlo K
theorem fx_Sv2 (ok : fx_ok g) {idx : Nat} {a1 a2 : Value} (w : fx_wS (fx_y M).cls idx 2 M') (hC : fx_C g M' ([a1, a2] : List Value) h (fx_is none k) 0 0) (hlv : fx_lv M' + 1 ≤ fx_lv M) (hlo : (st.map fun v => v.category).sum + (fx_ml M' + 11) + fx_lw M' ≤ fx_lw M) (d : decode (fx_cc M) pc = .ok (.invokestatic idx, 3))
    (K : fx_X g M (pc + 3) lv st k Q mc ms) : fx_X g M pc lv (a2 :: a1 :: st) h Q mc ms :=
  fx_callR0 ok hC (fx_siteS ok (as := [a1, a2]) w.1 w.2 d) w.1.1 w.1.2.1 hlv hlo K
theorem fx_Sa2 (ok : fx_ok g) {idx : Nat} {a1 a2 : Value} (w : fx_wS (fx_y M).cls idx 2 M') (hC : fx_C g M' ([a1, a2] : List Value) h (fx_is none k) mc' ms') (hlv : fx_lv M' + 1 ≤ fx_lv M) (hlo : (st.map fun v => v.category).sum + (fx_ml M' + 11) + fx_lw M' ≤ fx_lw M) (d : decode (fx_cc M) pc = .ok (.invokestatic idx, 3))
    (K : fx_X g M (pc + 3) lv st k Q mc ms) : fx_X g M pc lv (a2 :: a1 :: st) h Q (mc' + mc) (ms' + ms) :=
  fx_callR ok hC (fx_siteS ok (as := [a1, a2]) w.1 w.2 d) w.1.1 w.1.2.1 hlv hlo K
theorem fx_Sb2 (ok : fx_ok g) {idx : Nat} {a1 a2 : Value} (w : fx_wS (fx_y M).cls idx 2 M') (hC : fx_C g M' ([a1, a2] : List Value) h (fx_is (some x) k) mc' ms') (hlv : fx_lv M' + 1 ≤ fx_lv M) (hlo : (st.map fun v => v.category).sum + (fx_ml M' + 11) + fx_lw M' ≤ fx_lw M) (d : decode (fx_cc M) pc = .ok (.invokestatic idx, 3))
    (K : fx_X g M (pc + 3) lv (.int x :: st) k Q mc ms) : fx_X g M pc lv (a2 :: a1 :: st) h Q (mc' + mc) (ms' + ms) :=
  fx_callR ok hC (fx_siteS ok (as := [a1, a2]) w.1 w.2 d) w.1.1 w.1.2.1 hlv hlo K
theorem fx_St2 (ok : fx_ok g) {idx : Nat} {a1 a2 : Value} (w : fx_wS (fx_y M).cls idx 2 M') {E : String} (hC : fx_C g M' ([a1, a2] : List Value) h (fx_th E k) mc' ms') (hlv : fx_lv M' + 1 ≤ fx_lv M) (hlo : (st.map fun v => v.category).sum + (fx_ml M' + 11) + fx_lw M' ≤ fx_lw M) (d : decode (fx_cc M) pc = .ok (.invokestatic idx, 3))
    (K : fx_T g M pc lv E k Q mc ms) : fx_X g M pc lv (a2 :: a1 :: st) h Q (mc' + mc) (ms' + ms) :=
  fx_callT ok hC (fx_siteS ok (as := [a1, a2]) w.1 w.2 d) w.1.1 w.1.2.1 hlv hlo K
theorem fx_Vi2 (ok : fx_ok g) {idx : Nat} {b ci : Nat} {a1 a2 : Value} (w : fx_wV (fx_y M).cls idx 2 M' ci) (hb : fx_s h b = some (.inl ci)) (hC : fx_C g M' (Value.ref b :: [a1, a2]) h (fx_is (some x) k) 0 0) (hlv : fx_lv M' + 1 ≤ fx_lv M) (hlo : (st.map fun v => v.category).sum + (fx_ml M' + 11) + fx_lw M' ≤ fx_lw M) (d : decode (fx_cc M) pc = .ok (.invokevirtual idx, 3))
    (K : fx_X g M (pc + 3) lv (.int x :: st) k Q mc ms) : fx_X g M pc lv (a2 :: a1 :: Value.ref b :: st) h Q mc ms := by
  obtain ⟨q, hq, hqc⟩ := w.2.2.2
  exact fx_callR0 ok hC (fx_siteV ok (as := [a1, a2]) w.1 w.2.1 w.2.2.1 hb hq hqc d) w.1.1 w.1.2.1 hlv hlo K
theorem fx_Vv2 (ok : fx_ok g) {idx : Nat} {b ci : Nat} {a1 a2 : Value} (w : fx_wV (fx_y M).cls idx 2 M' ci) (hb : fx_s h b = some (.inl ci)) (hC : fx_C g M' (Value.ref b :: [a1, a2]) h (fx_is none k) 0 0) (hlv : fx_lv M' + 1 ≤ fx_lv M) (hlo : (st.map fun v => v.category).sum + (fx_ml M' + 11) + fx_lw M' ≤ fx_lw M) (d : decode (fx_cc M) pc = .ok (.invokevirtual idx, 3))
    (K : fx_X g M (pc + 3) lv st k Q mc ms) : fx_X g M pc lv (a2 :: a1 :: Value.ref b :: st) h Q mc ms := by
  obtain ⟨q, hq, hqc⟩ := w.2.2.2
  exact fx_callR0 ok hC (fx_siteV ok (as := [a1, a2]) w.1 w.2.1 w.2.2.1 hb hq hqc d) w.1.1 w.1.2.1 hlv hlo K
theorem fx_Va2 (ok : fx_ok g) {idx : Nat} {b ci : Nat} {a1 a2 : Value} (w : fx_wV (fx_y M).cls idx 2 M' ci) (hb : fx_s h b = some (.inl ci)) (hC : fx_C g M' (Value.ref b :: [a1, a2]) h (fx_is none k) mc' ms') (hlv : fx_lv M' + 1 ≤ fx_lv M) (hlo : (st.map fun v => v.category).sum + (fx_ml M' + 11) + fx_lw M' ≤ fx_lw M) (d : decode (fx_cc M) pc = .ok (.invokevirtual idx, 3))
    (K : fx_X g M (pc + 3) lv st k Q mc ms) : fx_X g M pc lv (a2 :: a1 :: Value.ref b :: st) h Q (mc' + mc) (ms' + ms) := by
  obtain ⟨q, hq, hqc⟩ := w.2.2.2
  exact fx_callR ok hC (fx_siteV ok (as := [a1, a2]) w.1 w.2.1 w.2.2.1 hb hq hqc d) w.1.1 w.1.2.1 hlv hlo K
theorem fx_Vb2 (ok : fx_ok g) {idx : Nat} {b ci : Nat} {a1 a2 : Value} (w : fx_wV (fx_y M).cls idx 2 M' ci) (hb : fx_s h b = some (.inl ci)) (hC : fx_C g M' (Value.ref b :: [a1, a2]) h (fx_is (some x) k) mc' ms') (hlv : fx_lv M' + 1 ≤ fx_lv M) (hlo : (st.map fun v => v.category).sum + (fx_ml M' + 11) + fx_lw M' ≤ fx_lw M) (d : decode (fx_cc M) pc = .ok (.invokevirtual idx, 3))
    (K : fx_X g M (pc + 3) lv (.int x :: st) k Q mc ms) : fx_X g M pc lv (a2 :: a1 :: Value.ref b :: st) h Q (mc' + mc) (ms' + ms) := by
  obtain ⟨q, hq, hqc⟩ := w.2.2.2
  exact fx_callR ok hC (fx_siteV ok (as := [a1, a2]) w.1 w.2.1 w.2.2.1 hb hq hqc d) w.1.1 w.1.2.1 hlv hlo K
theorem fx_Vt2 (ok : fx_ok g) {idx : Nat} {b ci : Nat} {a1 a2 : Value} (w : fx_wV (fx_y M).cls idx 2 M' ci) (hb : fx_s h b = some (.inl ci)) {E : String} (hC : fx_C g M' (Value.ref b :: [a1, a2]) h (fx_th E k) mc' ms') (hlv : fx_lv M' + 1 ≤ fx_lv M) (hlo : (st.map fun v => v.category).sum + (fx_ml M' + 11) + fx_lw M' ≤ fx_lw M) (d : decode (fx_cc M) pc = .ok (.invokevirtual idx, 3))
    (K : fx_T g M pc lv E k Q mc ms) : fx_X g M pc lv (a2 :: a1 :: Value.ref b :: st) h Q (mc' + mc) (ms' + ms) := by
  obtain ⟨q, hq, hqc⟩ := w.2.2.2
  exact fx_callT ok hC (fx_siteV ok (as := [a1, a2]) w.1 w.2.1 w.2.2.1 hb hq hqc d) w.1.1 w.1.2.1 hlv hlo K
theorem fx_Si3 (ok : fx_ok g) {idx : Nat} {a1 a2 a3 : Value} (w : fx_wS (fx_y M).cls idx 3 M') (hC : fx_C g M' ([a1, a2, a3] : List Value) h (fx_is (some x) k) 0 0) (hlv : fx_lv M' + 1 ≤ fx_lv M) (hlo : (st.map fun v => v.category).sum + (fx_ml M' + 11) + fx_lw M' ≤ fx_lw M) (d : decode (fx_cc M) pc = .ok (.invokestatic idx, 3))
    (K : fx_X g M (pc + 3) lv (.int x :: st) k Q mc ms) : fx_X g M pc lv (a3 :: a2 :: a1 :: st) h Q mc ms :=
  fx_callR0 ok hC (fx_siteS ok (as := [a1, a2, a3]) w.1 w.2 d) w.1.1 w.1.2.1 hlv hlo K
theorem fx_Sv3 (ok : fx_ok g) {idx : Nat} {a1 a2 a3 : Value} (w : fx_wS (fx_y M).cls idx 3 M') (hC : fx_C g M' ([a1, a2, a3] : List Value) h (fx_is none k) 0 0) (hlv : fx_lv M' + 1 ≤ fx_lv M) (hlo : (st.map fun v => v.category).sum + (fx_ml M' + 11) + fx_lw M' ≤ fx_lw M) (d : decode (fx_cc M) pc = .ok (.invokestatic idx, 3))
    (K : fx_X g M (pc + 3) lv st k Q mc ms) : fx_X g M pc lv (a3 :: a2 :: a1 :: st) h Q mc ms :=
  fx_callR0 ok hC (fx_siteS ok (as := [a1, a2, a3]) w.1 w.2 d) w.1.1 w.1.2.1 hlv hlo K
theorem fx_Sa3 (ok : fx_ok g) {idx : Nat} {a1 a2 a3 : Value} (w : fx_wS (fx_y M).cls idx 3 M') (hC : fx_C g M' ([a1, a2, a3] : List Value) h (fx_is none k) mc' ms') (hlv : fx_lv M' + 1 ≤ fx_lv M) (hlo : (st.map fun v => v.category).sum + (fx_ml M' + 11) + fx_lw M' ≤ fx_lw M) (d : decode (fx_cc M) pc = .ok (.invokestatic idx, 3))
    (K : fx_X g M (pc + 3) lv st k Q mc ms) : fx_X g M pc lv (a3 :: a2 :: a1 :: st) h Q (mc' + mc) (ms' + ms) :=
  fx_callR ok hC (fx_siteS ok (as := [a1, a2, a3]) w.1 w.2 d) w.1.1 w.1.2.1 hlv hlo K
theorem fx_Sb3 (ok : fx_ok g) {idx : Nat} {a1 a2 a3 : Value} (w : fx_wS (fx_y M).cls idx 3 M') (hC : fx_C g M' ([a1, a2, a3] : List Value) h (fx_is (some x) k) mc' ms') (hlv : fx_lv M' + 1 ≤ fx_lv M) (hlo : (st.map fun v => v.category).sum + (fx_ml M' + 11) + fx_lw M' ≤ fx_lw M) (d : decode (fx_cc M) pc = .ok (.invokestatic idx, 3))
    (K : fx_X g M (pc + 3) lv (.int x :: st) k Q mc ms) : fx_X g M pc lv (a3 :: a2 :: a1 :: st) h Q (mc' + mc) (ms' + ms) :=
  fx_callR ok hC (fx_siteS ok (as := [a1, a2, a3]) w.1 w.2 d) w.1.1 w.1.2.1 hlv hlo K
theorem fx_St3 (ok : fx_ok g) {idx : Nat} {a1 a2 a3 : Value} (w : fx_wS (fx_y M).cls idx 3 M') {E : String} (hC : fx_C g M' ([a1, a2, a3] : List Value) h (fx_th E k) mc' ms') (hlv : fx_lv M' + 1 ≤ fx_lv M) (hlo : (st.map fun v => v.category).sum + (fx_ml M' + 11) + fx_lw M' ≤ fx_lw M) (d : decode (fx_cc M) pc = .ok (.invokestatic idx, 3))
    (K : fx_T g M pc lv E k Q mc ms) : fx_X g M pc lv (a3 :: a2 :: a1 :: st) h Q (mc' + mc) (ms' + ms) :=
  fx_callT ok hC (fx_siteS ok (as := [a1, a2, a3]) w.1 w.2 d) w.1.1 w.1.2.1 hlv hlo K
theorem fx_Vi3 (ok : fx_ok g) {idx : Nat} {b ci : Nat} {a1 a2 a3 : Value} (w : fx_wV (fx_y M).cls idx 3 M' ci) (hb : fx_s h b = some (.inl ci)) (hC : fx_C g M' (Value.ref b :: [a1, a2, a3]) h (fx_is (some x) k) 0 0) (hlv : fx_lv M' + 1 ≤ fx_lv M) (hlo : (st.map fun v => v.category).sum + (fx_ml M' + 11) + fx_lw M' ≤ fx_lw M) (d : decode (fx_cc M) pc = .ok (.invokevirtual idx, 3))
    (K : fx_X g M (pc + 3) lv (.int x :: st) k Q mc ms) : fx_X g M pc lv (a3 :: a2 :: a1 :: Value.ref b :: st) h Q mc ms := by
  obtain ⟨q, hq, hqc⟩ := w.2.2.2
  exact fx_callR0 ok hC (fx_siteV ok (as := [a1, a2, a3]) w.1 w.2.1 w.2.2.1 hb hq hqc d) w.1.1 w.1.2.1 hlv hlo K
theorem fx_Vv3 (ok : fx_ok g) {idx : Nat} {b ci : Nat} {a1 a2 a3 : Value} (w : fx_wV (fx_y M).cls idx 3 M' ci) (hb : fx_s h b = some (.inl ci)) (hC : fx_C g M' (Value.ref b :: [a1, a2, a3]) h (fx_is none k) 0 0) (hlv : fx_lv M' + 1 ≤ fx_lv M) (hlo : (st.map fun v => v.category).sum + (fx_ml M' + 11) + fx_lw M' ≤ fx_lw M) (d : decode (fx_cc M) pc = .ok (.invokevirtual idx, 3))
    (K : fx_X g M (pc + 3) lv st k Q mc ms) : fx_X g M pc lv (a3 :: a2 :: a1 :: Value.ref b :: st) h Q mc ms := by
  obtain ⟨q, hq, hqc⟩ := w.2.2.2
  exact fx_callR0 ok hC (fx_siteV ok (as := [a1, a2, a3]) w.1 w.2.1 w.2.2.1 hb hq hqc d) w.1.1 w.1.2.1 hlv hlo K
theorem fx_Va3 (ok : fx_ok g) {idx : Nat} {b ci : Nat} {a1 a2 a3 : Value} (w : fx_wV (fx_y M).cls idx 3 M' ci) (hb : fx_s h b = some (.inl ci)) (hC : fx_C g M' (Value.ref b :: [a1, a2, a3]) h (fx_is none k) mc' ms') (hlv : fx_lv M' + 1 ≤ fx_lv M) (hlo : (st.map fun v => v.category).sum + (fx_ml M' + 11) + fx_lw M' ≤ fx_lw M) (d : decode (fx_cc M) pc = .ok (.invokevirtual idx, 3))
    (K : fx_X g M (pc + 3) lv st k Q mc ms) : fx_X g M pc lv (a3 :: a2 :: a1 :: Value.ref b :: st) h Q (mc' + mc) (ms' + ms) := by
  obtain ⟨q, hq, hqc⟩ := w.2.2.2
  exact fx_callR ok hC (fx_siteV ok (as := [a1, a2, a3]) w.1 w.2.1 w.2.2.1 hb hq hqc d) w.1.1 w.1.2.1 hlv hlo K
theorem fx_Vb3 (ok : fx_ok g) {idx : Nat} {b ci : Nat} {a1 a2 a3 : Value} (w : fx_wV (fx_y M).cls idx 3 M' ci) (hb : fx_s h b = some (.inl ci)) (hC : fx_C g M' (Value.ref b :: [a1, a2, a3]) h (fx_is (some x) k) mc' ms') (hlv : fx_lv M' + 1 ≤ fx_lv M) (hlo : (st.map fun v => v.category).sum + (fx_ml M' + 11) + fx_lw M' ≤ fx_lw M) (d : decode (fx_cc M) pc = .ok (.invokevirtual idx, 3))
    (K : fx_X g M (pc + 3) lv (.int x :: st) k Q mc ms) : fx_X g M pc lv (a3 :: a2 :: a1 :: Value.ref b :: st) h Q (mc' + mc) (ms' + ms) := by
  obtain ⟨q, hq, hqc⟩ := w.2.2.2
  exact fx_callR ok hC (fx_siteV ok (as := [a1, a2, a3]) w.1 w.2.1 w.2.2.1 hb hq hqc d) w.1.1 w.1.2.1 hlv hlo K
theorem fx_Vt3 (ok : fx_ok g) {idx : Nat} {b ci : Nat} {a1 a2 a3 : Value} (w : fx_wV (fx_y M).cls idx 3 M' ci) (hb : fx_s h b = some (.inl ci)) {E : String} (hC : fx_C g M' (Value.ref b :: [a1, a2, a3]) h (fx_th E k) mc' ms') (hlv : fx_lv M' + 1 ≤ fx_lv M) (hlo : (st.map fun v => v.category).sum + (fx_ml M' + 11) + fx_lw M' ≤ fx_lw M) (d : decode (fx_cc M) pc = .ok (.invokevirtual idx, 3))
    (K : fx_T g M pc lv E k Q mc ms) : fx_X g M pc lv (a3 :: a2 :: a1 :: Value.ref b :: st) h Q (mc' + mc) (ms' + ms) := by
  obtain ⟨q, hq, hqc⟩ := w.2.2.2
  exact fx_callT ok hC (fx_siteV ok (as := [a1, a2, a3]) w.1 w.2.1 w.2.2.1 hb hq hqc d) w.1.1 w.1.2.1 hlv hlo K
theorem fx_Si4 (ok : fx_ok g) {idx : Nat} {a1 a2 a3 a4 : Value} (w : fx_wS (fx_y M).cls idx 4 M') (hC : fx_C g M' ([a1, a2, a3, a4] : List Value) h (fx_is (some x) k) 0 0) (hlv : fx_lv M' + 1 ≤ fx_lv M) (hlo : (st.map fun v => v.category).sum + (fx_ml M' + 11) + fx_lw M' ≤ fx_lw M) (d : decode (fx_cc M) pc = .ok (.invokestatic idx, 3))
    (K : fx_X g M (pc + 3) lv (.int x :: st) k Q mc ms) : fx_X g M pc lv (a4 :: a3 :: a2 :: a1 :: st) h Q mc ms :=
  fx_callR0 ok hC (fx_siteS ok (as := [a1, a2, a3, a4]) w.1 w.2 d) w.1.1 w.1.2.1 hlv hlo K
theorem fx_Sv4 (ok : fx_ok g) {idx : Nat} {a1 a2 a3 a4 : Value} (w : fx_wS (fx_y M).cls idx 4 M') (hC : fx_C g M' ([a1, a2, a3, a4] : List Value) h (fx_is none k) 0 0) (hlv : fx_lv M' + 1 ≤ fx_lv M) (hlo : (st.map fun v => v.category).sum + (fx_ml M' + 11) + fx_lw M' ≤ fx_lw M) (d : decode (fx_cc M) pc = .ok (.invokestatic idx, 3))
    (K : fx_X g M (pc + 3) lv st k Q mc ms) : fx_X g M pc lv (a4 :: a3 :: a2 :: a1 :: st) h Q mc ms :=
  fx_callR0 ok hC (fx_siteS ok (as := [a1, a2, a3, a4]) w.1 w.2 d) w.1.1 w.1.2.1 hlv hlo K
theorem fx_Sa4 (ok : fx_ok g) {idx : Nat} {a1 a2 a3 a4 : Value} (w : fx_wS (fx_y M).cls idx 4 M') (hC : fx_C g M' ([a1, a2, a3, a4] : List Value) h (fx_is none k) mc' ms') (hlv : fx_lv M' + 1 ≤ fx_lv M) (hlo : (st.map fun v => v.category).sum + (fx_ml M' + 11) + fx_lw M' ≤ fx_lw M) (d : decode (fx_cc M) pc = .ok (.invokestatic idx, 3))
    (K : fx_X g M (pc + 3) lv st k Q mc ms) : fx_X g M pc lv (a4 :: a3 :: a2 :: a1 :: st) h Q (mc' + mc) (ms' + ms) :=
  fx_callR ok hC (fx_siteS ok (as := [a1, a2, a3, a4]) w.1 w.2 d) w.1.1 w.1.2.1 hlv hlo K
theorem fx_Sb4 (ok : fx_ok g) {idx : Nat} {a1 a2 a3 a4 : Value} (w : fx_wS (fx_y M).cls idx 4 M') (hC : fx_C g M' ([a1, a2, a3, a4] : List Value) h (fx_is (some x) k) mc' ms') (hlv : fx_lv M' + 1 ≤ fx_lv M) (hlo : (st.map fun v => v.category).sum + (fx_ml M' + 11) + fx_lw M' ≤ fx_lw M) (d : decode (fx_cc M) pc = .ok (.invokestatic idx, 3))
    (K : fx_X g M (pc + 3) lv (.int x :: st) k Q mc ms) : fx_X g M pc lv (a4 :: a3 :: a2 :: a1 :: st) h Q (mc' + mc) (ms' + ms) :=
  fx_callR ok hC (fx_siteS ok (as := [a1, a2, a3, a4]) w.1 w.2 d) w.1.1 w.1.2.1 hlv hlo K
theorem fx_St4 (ok : fx_ok g) {idx : Nat} {a1 a2 a3 a4 : Value} (w : fx_wS (fx_y M).cls idx 4 M') {E : String} (hC : fx_C g M' ([a1, a2, a3, a4] : List Value) h (fx_th E k) mc' ms') (hlv : fx_lv M' + 1 ≤ fx_lv M) (hlo : (st.map fun v => v.category).sum + (fx_ml M' + 11) + fx_lw M' ≤ fx_lw M) (d : decode (fx_cc M) pc = .ok (.invokestatic idx, 3))
    (K : fx_T g M pc lv E k Q mc ms) : fx_X g M pc lv (a4 :: a3 :: a2 :: a1 :: st) h Q (mc' + mc) (ms' + ms) :=
  fx_callT ok hC (fx_siteS ok (as := [a1, a2, a3, a4]) w.1 w.2 d) w.1.1 w.1.2.1 hlv hlo K
theorem fx_Vi4 (ok : fx_ok g) {idx : Nat} {b ci : Nat} {a1 a2 a3 a4 : Value} (w : fx_wV (fx_y M).cls idx 4 M' ci) (hb : fx_s h b = some (.inl ci)) (hC : fx_C g M' (Value.ref b :: [a1, a2, a3, a4]) h (fx_is (some x) k) 0 0) (hlv : fx_lv M' + 1 ≤ fx_lv M) (hlo : (st.map fun v => v.category).sum + (fx_ml M' + 11) + fx_lw M' ≤ fx_lw M) (d : decode (fx_cc M) pc = .ok (.invokevirtual idx, 3))
    (K : fx_X g M (pc + 3) lv (.int x :: st) k Q mc ms) : fx_X g M pc lv (a4 :: a3 :: a2 :: a1 :: Value.ref b :: st) h Q mc ms := by
  obtain ⟨q, hq, hqc⟩ := w.2.2.2
  exact fx_callR0 ok hC (fx_siteV ok (as := [a1, a2, a3, a4]) w.1 w.2.1 w.2.2.1 hb hq hqc d) w.1.1 w.1.2.1 hlv hlo K
theorem fx_Vv4 (ok : fx_ok g) {idx : Nat} {b ci : Nat} {a1 a2 a3 a4 : Value} (w : fx_wV (fx_y M).cls idx 4 M' ci) (hb : fx_s h b = some (.inl ci)) (hC : fx_C g M' (Value.ref b :: [a1, a2, a3, a4]) h (fx_is none k) 0 0) (hlv : fx_lv M' + 1 ≤ fx_lv M) (hlo : (st.map fun v => v.category).sum + (fx_ml M' + 11) + fx_lw M' ≤ fx_lw M) (d : decode (fx_cc M) pc = .ok (.invokevirtual idx, 3))
    (K : fx_X g M (pc + 3) lv st k Q mc ms) : fx_X g M pc lv (a4 :: a3 :: a2 :: a1 :: Value.ref b :: st) h Q mc ms := by
  obtain ⟨q, hq, hqc⟩ := w.2.2.2
  exact fx_callR0 ok hC (fx_siteV ok (as := [a1, a2, a3, a4]) w.1 w.2.1 w.2.2.1 hb hq hqc d) w.1.1 w.1.2.1 hlv hlo K
theorem fx_Va4 (ok : fx_ok g) {idx : Nat} {b ci : Nat} {a1 a2 a3 a4 : Value} (w : fx_wV (fx_y M).cls idx 4 M' ci) (hb : fx_s h b = some (.inl ci)) (hC : fx_C g M' (Value.ref b :: [a1, a2, a3, a4]) h (fx_is none k) mc' ms') (hlv : fx_lv M' + 1 ≤ fx_lv M) (hlo : (st.map fun v => v.category).sum + (fx_ml M' + 11) + fx_lw M' ≤ fx_lw M) (d : decode (fx_cc M) pc = .ok (.invokevirtual idx, 3))
    (K : fx_X g M (pc + 3) lv st k Q mc ms) : fx_X g M pc lv (a4 :: a3 :: a2 :: a1 :: Value.ref b :: st) h Q (mc' + mc) (ms' + ms) := by
  obtain ⟨q, hq, hqc⟩ := w.2.2.2
  exact fx_callR ok hC (fx_siteV ok (as := [a1, a2, a3, a4]) w.1 w.2.1 w.2.2.1 hb hq hqc d) w.1.1 w.1.2.1 hlv hlo K
theorem fx_Vb4 (ok : fx_ok g) {idx : Nat} {b ci : Nat} {a1 a2 a3 a4 : Value} (w : fx_wV (fx_y M).cls idx 4 M' ci) (hb : fx_s h b = some (.inl ci)) (hC : fx_C g M' (Value.ref b :: [a1, a2, a3, a4]) h (fx_is (some x) k) mc' ms') (hlv : fx_lv M' + 1 ≤ fx_lv M) (hlo : (st.map fun v => v.category).sum + (fx_ml M' + 11) + fx_lw M' ≤ fx_lw M) (d : decode (fx_cc M) pc = .ok (.invokevirtual idx, 3))
    (K : fx_X g M (pc + 3) lv (.int x :: st) k Q mc ms) : fx_X g M pc lv (a4 :: a3 :: a2 :: a1 :: Value.ref b :: st) h Q (mc' + mc) (ms' + ms) := by
  obtain ⟨q, hq, hqc⟩ := w.2.2.2
  exact fx_callR ok hC (fx_siteV ok (as := [a1, a2, a3, a4]) w.1 w.2.1 w.2.2.1 hb hq hqc d) w.1.1 w.1.2.1 hlv hlo K
theorem fx_Vt4 (ok : fx_ok g) {idx : Nat} {b ci : Nat} {a1 a2 a3 a4 : Value} (w : fx_wV (fx_y M).cls idx 4 M' ci) (hb : fx_s h b = some (.inl ci)) {E : String} (hC : fx_C g M' (Value.ref b :: [a1, a2, a3, a4]) h (fx_th E k) mc' ms') (hlv : fx_lv M' + 1 ≤ fx_lv M) (hlo : (st.map fun v => v.category).sum + (fx_ml M' + 11) + fx_lw M' ≤ fx_lw M) (d : decode (fx_cc M) pc = .ok (.invokevirtual idx, 3))
    (K : fx_T g M pc lv E k Q mc ms) : fx_X g M pc lv (a4 :: a3 :: a2 :: a1 :: Value.ref b :: st) h Q (mc' + mc) (ms' + ms) := by
  obtain ⟨q, hq, hqc⟩ := w.2.2.2
  exact fx_callT ok hC (fx_siteV ok (as := [a1, a2, a3, a4]) w.1 w.2.1 w.2.2.1 hb hq hqc d) w.1.1 w.1.2.1 hlv hlo K
theorem fx_Si5 (ok : fx_ok g) {idx : Nat} {a1 a2 a3 a4 a5 : Value} (w : fx_wS (fx_y M).cls idx 5 M') (hC : fx_C g M' ([a1, a2, a3, a4, a5] : List Value) h (fx_is (some x) k) 0 0) (hlv : fx_lv M' + 1 ≤ fx_lv M) (hlo : (st.map fun v => v.category).sum + (fx_ml M' + 11) + fx_lw M' ≤ fx_lw M) (d : decode (fx_cc M) pc = .ok (.invokestatic idx, 3))
    (K : fx_X g M (pc + 3) lv (.int x :: st) k Q mc ms) : fx_X g M pc lv (a5 :: a4 :: a3 :: a2 :: a1 :: st) h Q mc ms :=
  fx_callR0 ok hC (fx_siteS ok (as := [a1, a2, a3, a4, a5]) w.1 w.2 d) w.1.1 w.1.2.1 hlv hlo K
theorem fx_Sv5 (ok : fx_ok g) {idx : Nat} {a1 a2 a3 a4 a5 : Value} (w : fx_wS (fx_y M).cls idx 5 M') (hC : fx_C g M' ([a1, a2, a3, a4, a5] : List Value) h (fx_is none k) 0 0) (hlv : fx_lv M' + 1 ≤ fx_lv M) (hlo : (st.map fun v => v.category).sum + (fx_ml M' + 11) + fx_lw M' ≤ fx_lw M) (d : decode (fx_cc M) pc = .ok (.invokestatic idx, 3))
    (K : fx_X g M (pc + 3) lv st k Q mc ms) : fx_X g M pc lv (a5 :: a4 :: a3 :: a2 :: a1 :: st) h Q mc ms :=
  fx_callR0 ok hC (fx_siteS ok (as := [a1, a2, a3, a4, a5]) w.1 w.2 d) w.1.1 w.1.2.1 hlv hlo K
theorem fx_Sa5 (ok : fx_ok g) {idx : Nat} {a1 a2 a3 a4 a5 : Value} (w : fx_wS (fx_y M).cls idx 5 M') (hC : fx_C g M' ([a1, a2, a3, a4, a5] : List Value) h (fx_is none k) mc' ms') (hlv : fx_lv M' + 1 ≤ fx_lv M) (hlo : (st.map fun v => v.category).sum + (fx_ml M' + 11) + fx_lw M' ≤ fx_lw M) (d : decode (fx_cc M) pc = .ok (.invokestatic idx, 3))
    (K : fx_X g M (pc + 3) lv st k Q mc ms) : fx_X g M pc lv (a5 :: a4 :: a3 :: a2 :: a1 :: st) h Q (mc' + mc) (ms' + ms) :=
  fx_callR ok hC (fx_siteS ok (as := [a1, a2, a3, a4, a5]) w.1 w.2 d) w.1.1 w.1.2.1 hlv hlo K
theorem fx_Sb5 (ok : fx_ok g) {idx : Nat} {a1 a2 a3 a4 a5 : Value} (w : fx_wS (fx_y M).cls idx 5 M') (hC : fx_C g M' ([a1, a2, a3, a4, a5] : List Value) h (fx_is (some x) k) mc' ms') (hlv : fx_lv M' + 1 ≤ fx_lv M) (hlo : (st.map fun v => v.category).sum + (fx_ml M' + 11) + fx_lw M' ≤ fx_lw M) (d : decode (fx_cc M) pc = .ok (.invokestatic idx, 3))
    (K : fx_X g M (pc + 3) lv (.int x :: st) k Q mc ms) : fx_X g M pc lv (a5 :: a4 :: a3 :: a2 :: a1 :: st) h Q (mc' + mc) (ms' + ms) :=
  fx_callR ok hC (fx_siteS ok (as := [a1, a2, a3, a4, a5]) w.1 w.2 d) w.1.1 w.1.2.1 hlv hlo K
theorem fx_St5 (ok : fx_ok g) {idx : Nat} {a1 a2 a3 a4 a5 : Value} (w : fx_wS (fx_y M).cls idx 5 M') {E : String} (hC : fx_C g M' ([a1, a2, a3, a4, a5] : List Value) h (fx_th E k) mc' ms') (hlv : fx_lv M' + 1 ≤ fx_lv M) (hlo : (st.map fun v => v.category).sum + (fx_ml M' + 11) + fx_lw M' ≤ fx_lw M) (d : decode (fx_cc M) pc = .ok (.invokestatic idx, 3))
    (K : fx_T g M pc lv E k Q mc ms) : fx_X g M pc lv (a5 :: a4 :: a3 :: a2 :: a1 :: st) h Q (mc' + mc) (ms' + ms) :=
  fx_callT ok hC (fx_siteS ok (as := [a1, a2, a3, a4, a5]) w.1 w.2 d) w.1.1 w.1.2.1 hlv hlo K
theorem fx_Vi5 (ok : fx_ok g) {idx : Nat} {b ci : Nat} {a1 a2 a3 a4 a5 : Value} (w : fx_wV (fx_y M).cls idx 5 M' ci) (hb : fx_s h b = some (.inl ci)) (hC : fx_C g M' (Value.ref b :: [a1, a2, a3, a4, a5]) h (fx_is (some x) k) 0 0) (hlv : fx_lv M' + 1 ≤ fx_lv M) (hlo : (st.map fun v => v.category).sum + (fx_ml M' + 11) + fx_lw M' ≤ fx_lw M) (d : decode (fx_cc M) pc = .ok (.invokevirtual idx, 3))
    (K : fx_X g M (pc + 3) lv (.int x :: st) k Q mc ms) : fx_X g M pc lv (a5 :: a4 :: a3 :: a2 :: a1 :: Value.ref b :: st) h Q mc ms := by
  obtain ⟨q, hq, hqc⟩ := w.2.2.2
  exact fx_callR0 ok hC (fx_siteV ok (as := [a1, a2, a3, a4, a5]) w.1 w.2.1 w.2.2.1 hb hq hqc d) w.1.1 w.1.2.1 hlv hlo K
theorem fx_Vv5 (ok : fx_ok g) {idx : Nat} {b ci : Nat} {a1 a2 a3 a4 a5 : Value} (w : fx_wV (fx_y M).cls idx 5 M' ci) (hb : fx_s h b = some (.inl ci)) (hC : fx_C g M' (Value.ref b :: [a1, a2, a3, a4, a5]) h (fx_is none k) 0 0) (hlv : fx_lv M' + 1 ≤ fx_lv M) (hlo : (st.map fun v => v.category).sum + (fx_ml M' + 11) + fx_lw M' ≤ fx_lw M) (d : decode (fx_cc M) pc = .ok (.invokevirtual idx, 3))
    (K : fx_X g M (pc + 3) lv st k Q mc ms) : fx_X g M pc lv (a5 :: a4 :: a3 :: a2 :: a1 :: Value.ref b :: st) h Q mc ms := by
  obtain ⟨q, hq, hqc⟩ := w.2.2.2
  exact fx_callR0 ok hC (fx_siteV ok (as := [a1, a2, a3, a4, a5]) w.1 w.2.1 w.2.2.1 hb hq hqc d) w.1.1 w.1.2.1 hlv hlo K
theorem fx_Va5 (ok : fx_ok g) {idx : Nat} {b ci : Nat} {a1 a2 a3 a4 a5 : Value} (w : fx_wV (fx_y M).cls idx 5 M' ci) (hb : fx_s h b = some (.inl ci)) (hC : fx_C g M' (Value.ref b :: [a1, a2, a3, a4, a5]) h (fx_is none k) mc' ms') (hlv : fx_lv M' + 1 ≤ fx_lv M) (hlo : (st.map fun v => v.category).sum + (fx_ml M' + 11) + fx_lw M' ≤ fx_lw M) (d : decode (fx_cc M) pc = .ok (.invokevirtual idx, 3))
    (K : fx_X g M (pc + 3) lv st k Q mc ms) : fx_X g M pc lv (a5 :: a4 :: a3 :: a2 :: a1 :: Value.ref b :: st) h Q (mc' + mc) (ms' + ms) := by
  obtain ⟨q, hq, hqc⟩ := w.2.2.2
  exact fx_callR ok hC (fx_siteV ok (as := [a1, a2, a3, a4, a5]) w.1 w.2.1 w.2.2.1 hb hq hqc d) w.1.1 w.1.2.1 hlv hlo K
theorem fx_Vb5 (ok : fx_ok g) {idx : Nat} {b ci : Nat} {a1 a2 a3 a4 a5 : Value} (w : fx_wV (fx_y M).cls idx 5 M' ci) (hb : fx_s h b = some (.inl ci)) (hC : fx_C g M' (Value.ref b :: [a1, a2, a3, a4, a5]) h (fx_is (some x) k) mc' ms') (hlv : fx_lv M' + 1 ≤ fx_lv M) (hlo : (st.map fun v => v.category).sum + (fx_ml M' + 11) + fx_lw M' ≤ fx_lw M) (d : decode (fx_cc M) pc = .ok (.invokevirtual idx, 3))
    (K : fx_X g M (pc + 3) lv (.int x :: st) k Q mc ms) : fx_X g M pc lv (a5 :: a4 :: a3 :: a2 :: a1 :: Value.ref b :: st) h Q (mc' + mc) (ms' + ms) := by
  obtain ⟨q, hq, hqc⟩ := w.2.2.2
  exact fx_callR ok hC (fx_siteV ok (as := [a1, a2, a3, a4, a5]) w.1 w.2.1 w.2.2.1 hb hq hqc d) w.1.1 w.1.2.1 hlv hlo K
theorem fx_Vt5 (ok : fx_ok g) {idx : Nat} {b ci : Nat} {a1 a2 a3 a4 a5 : Value} (w : fx_wV (fx_y M).cls idx 5 M' ci) (hb : fx_s h b = some (.inl ci)) {E : String} (hC : fx_C g M' (Value.ref b :: [a1, a2, a3, a4, a5]) h (fx_th E k) mc' ms') (hlv : fx_lv M' + 1 ≤ fx_lv M) (hlo : (st.map fun v => v.category).sum + (fx_ml M' + 11) + fx_lw M' ≤ fx_lw M) (d : decode (fx_cc M) pc = .ok (.invokevirtual idx, 3))
    (K : fx_T g M pc lv E k Q mc ms) : fx_X g M pc lv (a5 :: a4 :: a3 :: a2 :: a1 :: Value.ref b :: st) h Q (mc' + mc) (ms' + ms) := by
  obtain ⟨q, hq, hqc⟩ := w.2.2.2
  exact fx_callT ok hC (fx_siteV ok (as := [a1, a2, a3, a4, a5]) w.1 w.2.1 w.2.2.1 hb hq hqc d) w.1.1 w.1.2.1 hlv hlo K
theorem fx_Si6 (ok : fx_ok g) {idx : Nat} {a1 a2 a3 a4 a5 a6 : Value} (w : fx_wS (fx_y M).cls idx 6 M') (hC : fx_C g M' ([a1, a2, a3, a4, a5, a6] : List Value) h (fx_is (some x) k) 0 0) (hlv : fx_lv M' + 1 ≤ fx_lv M) (hlo : (st.map fun v => v.category).sum + (fx_ml M' + 11) + fx_lw M' ≤ fx_lw M) (d : decode (fx_cc M) pc = .ok (.invokestatic idx, 3))
    (K : fx_X g M (pc + 3) lv (.int x :: st) k Q mc ms) : fx_X g M pc lv (a6 :: a5 :: a4 :: a3 :: a2 :: a1 :: st) h Q mc ms :=
  fx_callR0 ok hC (fx_siteS ok (as := [a1, a2, a3, a4, a5, a6]) w.1 w.2 d) w.1.1 w.1.2.1 hlv hlo K
theorem fx_Sv6 (ok : fx_ok g) {idx : Nat} {a1 a2 a3 a4 a5 a6 : Value} (w : fx_wS (fx_y M).cls idx 6 M') (hC : fx_C g M' ([a1, a2, a3, a4, a5, a6] : List Value) h (fx_is none k) 0 0) (hlv : fx_lv M' + 1 ≤ fx_lv M) (hlo : (st.map fun v => v.category).sum + (fx_ml M' + 11) + fx_lw M' ≤ fx_lw M) (d : decode (fx_cc M) pc = .ok (.invokestatic idx, 3))
    (K : fx_X g M (pc + 3) lv st k Q mc ms) : fx_X g M pc lv (a6 :: a5 :: a4 :: a3 :: a2 :: a1 :: st) h Q mc ms :=
  fx_callR0 ok hC (fx_siteS ok (as := [a1, a2, a3, a4, a5, a6]) w.1 w.2 d) w.1.1 w.1.2.1 hlv hlo K
theorem fx_Sa6 (ok : fx_ok g) {idx : Nat} {a1 a2 a3 a4 a5 a6 : Value} (w : fx_wS (fx_y M).cls idx 6 M') (hC : fx_C g M' ([a1, a2, a3, a4, a5, a6] : List Value) h (fx_is none k) mc' ms') (hlv : fx_lv M' + 1 ≤ fx_lv M) (hlo : (st.map fun v => v.category).sum + (fx_ml M' + 11) + fx_lw M' ≤ fx_lw M) (d : decode (fx_cc M) pc = .ok (.invokestatic idx, 3))
    (K : fx_X g M (pc + 3) lv st k Q mc ms) : fx_X g M pc lv (a6 :: a5 :: a4 :: a3 :: a2 :: a1 :: st) h Q (mc' + mc) (ms' + ms) :=
  fx_callR ok hC (fx_siteS ok (as := [a1, a2, a3, a4, a5, a6]) w.1 w.2 d) w.1.1 w.1.2.1 hlv hlo K
theorem fx_Sb6 (ok : fx_ok g) {idx : Nat} {a1 a2 a3 a4 a5 a6 : Value} (w : fx_wS (fx_y M).cls idx 6 M') (hC : fx_C g M' ([a1, a2, a3, a4, a5, a6] : List Value) h (fx_is (some x) k) mc' ms') (hlv : fx_lv M' + 1 ≤ fx_lv M) (hlo : (st.map fun v => v.category).sum + (fx_ml M' + 11) + fx_lw M' ≤ fx_lw M) (d : decode (fx_cc M) pc = .ok (.invokestatic idx, 3))
    (K : fx_X g M (pc + 3) lv (.int x :: st) k Q mc ms) : fx_X g M pc lv (a6 :: a5 :: a4 :: a3 :: a2 :: a1 :: st) h Q (mc' + mc) (ms' + ms) :=
  fx_callR ok hC (fx_siteS ok (as := [a1, a2, a3, a4, a5, a6]) w.1 w.2 d) w.1.1 w.1.2.1 hlv hlo K
theorem fx_St6 (ok : fx_ok g) {idx : Nat} {a1 a2 a3 a4 a5 a6 : Value} (w : fx_wS (fx_y M).cls idx 6 M') {E : String} (hC : fx_C g M' ([a1, a2, a3, a4, a5, a6] : List Value) h (fx_th E k) mc' ms') (hlv : fx_lv M' + 1 ≤ fx_lv M) (hlo : (st.map fun v => v.category).sum + (fx_ml M' + 11) + fx_lw M' ≤ fx_lw M) (d : decode (fx_cc M) pc = .ok (.invokestatic idx, 3))
    (K : fx_T g M pc lv E k Q mc ms) : fx_X g M pc lv (a6 :: a5 :: a4 :: a3 :: a2 :: a1 :: st) h Q (mc' + mc) (ms' + ms) :=
  fx_callT ok hC (fx_siteS ok (as := [a1, a2, a3, a4, a5, a6]) w.1 w.2 d) w.1.1 w.1.2.1 hlv hlo K
theorem fx_Vi6 (ok : fx_ok g) {idx : Nat} {b ci : Nat} {a1 a2 a3 a4 a5 a6 : Value} (w : fx_wV (fx_y M).cls idx 6 M' ci) (hb : fx_s h b = some (.inl ci)) (hC : fx_C g M' (Value.ref b :: [a1, a2, a3, a4, a5, a6]) h (fx_is (some x) k) 0 0) (hlv : fx_lv M' + 1 ≤ fx_lv M) (hlo : (st.map fun v => v.category).sum + (fx_ml M' + 11) + fx_lw M' ≤ fx_lw M) (d : decode (fx_cc M) pc = .ok (.invokevirtual idx, 3))
    (K : fx_X g M (pc + 3) lv (.int x :: st) k Q mc ms) : fx_X g M pc lv (a6 :: a5 :: a4 :: a3 :: a2 :: a1 :: Value.ref b :: st) h Q mc ms := by
  obtain ⟨q, hq, hqc⟩ := w.2.2.2
  exact fx_callR0 ok hC (fx_siteV ok (as := [a1, a2, a3, a4, a5, a6]) w.1 w.2.1 w.2.2.1 hb hq hqc d) w.1.1 w.1.2.1 hlv hlo K
theorem fx_Vv6 (ok : fx_ok g) {idx : Nat} {b ci : Nat} {a1 a2 a3 a4 a5 a6 : Value} (w : fx_wV (fx_y M).cls idx 6 M' ci) (hb : fx_s h b = some (.inl ci)) (hC : fx_C g M' (Value.ref b :: [a1, a2, a3, a4, a5, a6]) h (fx_is none k) 0 0) (hlv : fx_lv M' + 1 ≤ fx_lv M) (hlo : (st.map fun v => v.category).sum + (fx_ml M' + 11) + fx_lw M' ≤ fx_lw M) (d : decode (fx_cc M) pc = .ok (.invokevirtual idx, 3))
    (K : fx_X g M (pc + 3) lv st k Q mc ms) : fx_X g M pc lv (a6 :: a5 :: a4 :: a3 :: a2 :: a1 :: Value.ref b :: st) h Q mc ms := by
  obtain ⟨q, hq, hqc⟩ := w.2.2.2
  exact fx_callR0 ok hC (fx_siteV ok (as := [a1, a2, a3, a4, a5, a6]) w.1 w.2.1 w.2.2.1 hb hq hqc d) w.1.1 w.1.2.1 hlv hlo K
theorem fx_Va6 (ok : fx_ok g) {idx : Nat} {b ci : Nat} {a1 a2 a3 a4 a5 a6 : Value} (w : fx_wV (fx_y M).cls idx 6 M' ci) (hb : fx_s h b = some (.inl ci)) (hC : fx_C g M' (Value.ref b :: [a1, a2, a3, a4, a5, a6]) h (fx_is none k) mc' ms') (hlv : fx_lv M' + 1 ≤ fx_lv M) (hlo : (st.map fun v => v.category).sum + (fx_ml M' + 11) + fx_lw M' ≤ fx_lw M) (d : decode (fx_cc M) pc = .ok (.invokevirtual idx, 3))
    (K : fx_X g M (pc + 3) lv st k Q mc ms) : fx_X g M pc lv (a6 :: a5 :: a4 :: a3 :: a2 :: a1 :: Value.ref b :: st) h Q (mc' + mc) (ms' + ms) := by
  obtain ⟨q, hq, hqc⟩ := w.2.2.2
  exact fx_callR ok hC (fx_siteV ok (as := [a1, a2, a3, a4, a5, a6]) w.1 w.2.1 w.2.2.1 hb hq hqc d) w.1.1 w.1.2.1 hlv hlo K
theorem fx_Vb6 (ok : fx_ok g) {idx : Nat} {b ci : Nat} {a1 a2 a3 a4 a5 a6 : Value} (w : fx_wV (fx_y M).cls idx 6 M' ci) (hb : fx_s h b = some (.inl ci)) (hC : fx_C g M' (Value.ref b :: [a1, a2, a3, a4, a5, a6]) h (fx_is (some x) k) mc' ms') (hlv : fx_lv M' + 1 ≤ fx_lv M) (hlo : (st.map fun v => v.category).sum + (fx_ml M' + 11) + fx_lw M' ≤ fx_lw M) (d : decode (fx_cc M) pc = .ok (.invokevirtual idx, 3))
    (K : fx_X g M (pc + 3) lv (.int x :: st) k Q mc ms) : fx_X g M pc lv (a6 :: a5 :: a4 :: a3 :: a2 :: a1 :: Value.ref b :: st) h Q (mc' + mc) (ms' + ms) := by
  obtain ⟨q, hq, hqc⟩ := w.2.2.2
  exact fx_callR ok hC (fx_siteV ok (as := [a1, a2, a3, a4, a5, a6]) w.1 w.2.1 w.2.2.1 hb hq hqc d) w.1.1 w.1.2.1 hlv hlo K
theorem fx_Vt6 (ok : fx_ok g) {idx : Nat} {b ci : Nat} {a1 a2 a3 a4 a5 a6 : Value} (w : fx_wV (fx_y M).cls idx 6 M' ci) (hb : fx_s h b = some (.inl ci)) {E : String} (hC : fx_C g M' (Value.ref b :: [a1, a2, a3, a4, a5, a6]) h (fx_th E k) mc' ms') (hlv : fx_lv M' + 1 ≤ fx_lv M) (hlo : (st.map fun v => v.category).sum + (fx_ml M' + 11) + fx_lw M' ≤ fx_lw M) (d : decode (fx_cc M) pc = .ok (.invokevirtual idx, 3))
    (K : fx_T g M pc lv E k Q mc ms) : fx_X g M pc lv (a6 :: a5 :: a4 :: a3 :: a2 :: a1 :: Value.ref b :: st) h Q (mc' + mc) (ms' + ms) := by
  obtain ⟨q, hq, hqc⟩ := w.2.2.2
  exact fx_callT ok hC (fx_siteV ok (as := [a1, a2, a3, a4, a5, a6]) w.1 w.2.1 w.2.2.1 hb hq hqc d) w.1.1 w.1.2.1 hlv hlo K
theorem fx_Si7 (ok : fx_ok g) {idx : Nat} {a1 a2 a3 a4 a5 a6 a7 : Value} (w : fx_wS (fx_y M).cls idx 7 M') (hC : fx_C g M' ([a1, a2, a3, a4, a5, a6, a7] : List Value) h (fx_is (some x) k) 0 0) (hlv : fx_lv M' + 1 ≤ fx_lv M) (hlo : (st.map fun v => v.category).sum + (fx_ml M' + 11) + fx_lw M' ≤ fx_lw M) (d : decode (fx_cc M) pc = .ok (.invokestatic idx, 3))
    (K : fx_X g M (pc + 3) lv (.int x :: st) k Q mc ms) : fx_X g M pc lv (a7 :: a6 :: a5 :: a4 :: a3 :: a2 :: a1 :: st) h Q mc ms :=
  fx_callR0 ok hC (fx_siteS ok (as := [a1, a2, a3, a4, a5, a6, a7]) w.1 w.2 d) w.1.1 w.1.2.1 hlv hlo K
theorem fx_Sv7 (ok : fx_ok g) {idx : Nat} {a1 a2 a3 a4 a5 a6 a7 : Value} (w : fx_wS (fx_y M).cls idx 7 M') (hC : fx_C g M' ([a1, a2, a3, a4, a5, a6, a7] : List Value) h (fx_is none k) 0 0) (hlv : fx_lv M' + 1 ≤ fx_lv M) (hlo : (st.map fun v => v.category).sum + (fx_ml M' + 11) + fx_lw M' ≤ fx_lw M) (d : decode (fx_cc M) pc = .ok (.invokestatic idx, 3))
    (K : fx_X g M (pc + 3) lv st k Q mc ms) : fx_X g M pc lv (a7 :: a6 :: a5 :: a4 :: a3 :: a2 :: a1 :: st) h Q mc ms :=
  fx_callR0 ok hC (fx_siteS ok (as := [a1, a2, a3, a4, a5, a6, a7]) w.1 w.2 d) w.1.1 w.1.2.1 hlv hlo K
theorem fx_Sa7 (ok : fx_ok g) {idx : Nat} {a1 a2 a3 a4 a5 a6 a7 : Value} (w : fx_wS (fx_y M).cls idx 7 M') (hC : fx_C g M' ([a1, a2, a3, a4, a5, a6, a7] : List Value) h (fx_is none k) mc' ms') (hlv : fx_lv M' + 1 ≤ fx_lv M) (hlo : (st.map fun v => v.category).sum + (fx_ml M' + 11) + fx_lw M' ≤ fx_lw M) (d : decode (fx_cc M) pc = .ok (.invokestatic idx, 3))
    (K : fx_X g M (pc + 3) lv st k Q mc ms) : fx_X g M pc lv (a7 :: a6 :: a5 :: a4 :: a3 :: a2 :: a1 :: st) h Q (mc' + mc) (ms' + ms) :=
  fx_callR ok hC (fx_siteS ok (as := [a1, a2, a3, a4, a5, a6, a7]) w.1 w.2 d) w.1.1 w.1.2.1 hlv hlo K
theorem fx_Sb7 (ok : fx_ok g) {idx : Nat} {a1 a2 a3 a4 a5 a6 a7 : Value} (w : fx_wS (fx_y M).cls idx 7 M') (hC : fx_C g M' ([a1, a2, a3, a4, a5, a6, a7] : List Value) h (fx_is (some x) k) mc' ms') (hlv : fx_lv M' + 1 ≤ fx_lv M) (hlo : (st.map fun v => v.category).sum + (fx_ml M' + 11) + fx_lw M' ≤ fx_lw M) (d : decode (fx_cc M) pc = .ok (.invokestatic idx, 3))
    (K : fx_X g M (pc + 3) lv (.int x :: st) k Q mc ms) : fx_X g M pc lv (a7 :: a6 :: a5 :: a4 :: a3 :: a2 :: a1 :: st) h Q (mc' + mc) (ms' + ms) :=
  fx_callR ok hC (fx_siteS ok (as := [a1, a2, a3, a4, a5, a6, a7]) w.1 w.2 d) w.1.1 w.1.2.1 hlv hlo K
theorem fx_St7 (ok : fx_ok g) {idx : Nat} {a1 a2 a3 a4 a5 a6 a7 : Value} (w : fx_wS (fx_y M).cls idx 7 M') {E : String} (hC : fx_C g M' ([a1, a2, a3, a4, a5, a6, a7] : List Value) h (fx_th E k) mc' ms') (hlv : fx_lv M' + 1 ≤ fx_lv M) (hlo : (st.map fun v => v.category).sum + (fx_ml M' + 11) + fx_lw M' ≤ fx_lw M) (d : decode (fx_cc M) pc = .ok (.invokestatic idx, 3))
    (K : fx_T g M pc lv E k Q mc ms) : fx_X g M pc lv (a7 :: a6 :: a5 :: a4 :: a3 :: a2 :: a1 :: st) h Q (mc' + mc) (ms' + ms) :=
  fx_callT ok hC (fx_siteS ok (as := [a1, a2, a3, a4, a5, a6, a7]) w.1 w.2 d) w.1.1 w.1.2.1 hlv hlo K
theorem fx_Vi7 (ok : fx_ok g) {idx : Nat} {b ci : Nat} {a1 a2 a3 a4 a5 a6 a7 : Value} (w : fx_wV (fx_y M).cls idx 7 M' ci) (hb : fx_s h b = some (.inl ci)) (hC : fx_C g M' (Value.ref b :: [a1, a2, a3, a4, a5, a6, a7]) h (fx_is (some x) k) 0 0) (hlv : fx_lv M' + 1 ≤ fx_lv M) (hlo : (st.map fun v => v.category).sum + (fx_ml M' + 11) + fx_lw M' ≤ fx_lw M) (d : decode (fx_cc M) pc = .ok (.invokevirtual idx, 3))
    (K : fx_X g M (pc + 3) lv (.int x :: st) k Q mc ms) : fx_X g M pc lv (a7 :: a6 :: a5 :: a4 :: a3 :: a2 :: a1 :: Value.ref b :: st) h Q mc ms := by
  obtain ⟨q, hq, hqc⟩ := w.2.2.2
  exact fx_callR0 ok hC (fx_siteV ok (as := [a1, a2, a3, a4, a5, a6, a7]) w.1 w.2.1 w.2.2.1 hb hq hqc d) w.1.1 w.1.2.1 hlv hlo K
theorem fx_Vv7 (ok : fx_ok g) {idx : Nat} {b ci : Nat} {a1 a2 a3 a4 a5 a6 a7 : Value} (w : fx_wV (fx_y M).cls idx 7 M' ci) (hb : fx_s h b = some (.inl ci)) (hC : fx_C g M' (Value.ref b :: [a1, a2, a3, a4, a5, a6, a7]) h (fx_is none k) 0 0) (hlv : fx_lv M' + 1 ≤ fx_lv M) (hlo : (st.map fun v => v.category).sum + (fx_ml M' + 11) + fx_lw M' ≤ fx_lw M) (d : decode (fx_cc M) pc = .ok (.invokevirtual idx, 3))
    (K : fx_X g M (pc + 3) lv st k Q mc ms) : fx_X g M pc lv (a7 :: a6 :: a5 :: a4 :: a3 :: a2 :: a1 :: Value.ref b :: st) h Q mc ms := by
  obtain ⟨q, hq, hqc⟩ := w.2.2.2
  exact fx_callR0 ok hC (fx_siteV ok (as := [a1, a2, a3, a4, a5, a6, a7]) w.1 w.2.1 w.2.2.1 hb hq hqc d) w.1.1 w.1.2.1 hlv hlo K
theorem fx_Va7 (ok : fx_ok g) {idx : Nat} {b ci : Nat} {a1 a2 a3 a4 a5 a6 a7 : Value} (w : fx_wV (fx_y M).cls idx 7 M' ci) (hb : fx_s h b = some (.inl ci)) (hC : fx_C g M' (Value.ref b :: [a1, a2, a3, a4, a5, a6, a7]) h (fx_is none k) mc' ms') (hlv : fx_lv M' + 1 ≤ fx_lv M) (hlo : (st.map fun v => v.category).sum + (fx_ml M' + 11) + fx_lw M' ≤ fx_lw M) (d : decode (fx_cc M) pc = .ok (.invokevirtual idx, 3))
    (K : fx_X g M (pc + 3) lv st k Q mc ms) : fx_X g M pc lv (a7 :: a6 :: a5 :: a4 :: a3 :: a2 :: a1 :: Value.ref b :: st) h Q (mc' + mc) (ms' + ms) := by
  obtain ⟨q, hq, hqc⟩ := w.2.2.2
  exact fx_callR ok hC (fx_siteV ok (as := [a1, a2, a3, a4, a5, a6, a7]) w.1 w.2.1 w.2.2.1 hb hq hqc d) w.1.1 w.1.2.1 hlv hlo K
theorem fx_Vb7 (ok : fx_ok g) {idx : Nat} {b ci : Nat} {a1 a2 a3 a4 a5 a6 a7 : Value} (w : fx_wV (fx_y M).cls idx 7 M' ci) (hb : fx_s h b = some (.inl ci)) (hC : fx_C g M' (Value.ref b :: [a1, a2, a3, a4, a5, a6, a7]) h (fx_is (some x) k) mc' ms') (hlv : fx_lv M' + 1 ≤ fx_lv M) (hlo : (st.map fun v => v.category).sum + (fx_ml M' + 11) + fx_lw M' ≤ fx_lw M) (d : decode (fx_cc M) pc = .ok (.invokevirtual idx, 3))
    (K : fx_X g M (pc + 3) lv (.int x :: st) k Q mc ms) : fx_X g M pc lv (a7 :: a6 :: a5 :: a4 :: a3 :: a2 :: a1 :: Value.ref b :: st) h Q (mc' + mc) (ms' + ms) := by
  obtain ⟨q, hq, hqc⟩ := w.2.2.2
  exact fx_callR ok hC (fx_siteV ok (as := [a1, a2, a3, a4, a5, a6, a7]) w.1 w.2.1 w.2.2.1 hb hq hqc d) w.1.1 w.1.2.1 hlv hlo K
theorem fx_Vt7 (ok : fx_ok g) {idx : Nat} {b ci : Nat} {a1 a2 a3 a4 a5 a6 a7 : Value} (w : fx_wV (fx_y M).cls idx 7 M' ci) (hb : fx_s h b = some (.inl ci)) {E : String} (hC : fx_C g M' (Value.ref b :: [a1, a2, a3, a4, a5, a6, a7]) h (fx_th E k) mc' ms') (hlv : fx_lv M' + 1 ≤ fx_lv M) (hlo : (st.map fun v => v.category).sum + (fx_ml M' + 11) + fx_lw M' ≤ fx_lw M) (d : decode (fx_cc M) pc = .ok (.invokevirtual idx, 3))
    (K : fx_T g M pc lv E k Q mc ms) : fx_X g M pc lv (a7 :: a6 :: a5 :: a4 :: a3 :: a2 :: a1 :: Value.ref b :: st) h Q (mc' + mc) (ms' + ms) := by
  obtain ⟨q, hq, hqc⟩ := w.2.2.2
  exact fx_callT ok hC (fx_siteV ok (as := [a1, a2, a3, a4, a5, a6, a7]) w.1 w.2.1 w.2.2.1 hb hq hqc d) w.1.1 w.1.2.1 hlv hlo K
theorem fx_Si8 (ok : fx_ok g) {idx : Nat} {a1 a2 a3 a4 a5 a6 a7 a8 : Value} (w : fx_wS (fx_y M).cls idx 8 M') (hC : fx_C g M' ([a1, a2, a3, a4, a5, a6, a7, a8] : List Value) h (fx_is (some x) k) 0 0) (hlv : fx_lv M' + 1 ≤ fx_lv M) (hlo : (st.map fun v => v.category).sum + (fx_ml M' + 11) + fx_lw M' ≤ fx_lw M) (d : decode (fx_cc M) pc = .ok (.invokestatic idx, 3))
    (K : fx_X g M (pc + 3) lv (.int x :: st) k Q mc ms) : fx_X g M pc lv (a8 :: a7 :: a6 :: a5 :: a4 :: a3 :: a2 :: a1 :: st) h Q mc ms :=
  fx_callR0 ok hC (fx_siteS ok (as := [a1, a2, a3, a4, a5, a6, a7, a8]) w.1 w.2 d) w.1.1 w.1.2.1 hlv hlo K
theorem fx_Sv8 (ok : fx_ok g) {idx : Nat} {a1 a2 a3 a4 a5 a6 a7 a8 : Value} (w : fx_wS (fx_y M).cls idx 8 M') (hC : fx_C g M' ([a1, a2, a3, a4, a5, a6, a7, a8] : List Value) h (fx_is none k) 0 0) (hlv : fx_lv M' + 1 ≤ fx_lv M) (hlo : (st.map fun v => v.category).sum + (fx_ml M' + 11) + fx_lw M' ≤ fx_lw M) (d : decode (fx_cc M) pc = .ok (.invokestatic idx, 3))
    (K : fx_X g M (pc + 3) lv st k Q mc ms) : fx_X g M pc lv (a8 :: a7 :: a6 :: a5 :: a4 :: a3 :: a2 :: a1 :: st) h Q mc ms :=
  fx_callR0 ok hC (fx_siteS ok (as := [a1, a2, a3, a4, a5, a6, a7, a8]) w.1 w.2 d) w.1.1 w.1.2.1 hlv hlo K
theorem fx_Sa8 (ok : fx_ok g) {idx : Nat} {a1 a2 a3 a4 a5 a6 a7 a8 : Value} (w : fx_wS (fx_y M).cls idx 8 M') (hC : fx_C g M' ([a1, a2, a3, a4, a5, a6, a7, a8] : List Value) h (fx_is none k) mc' ms') (hlv : fx_lv M' + 1 ≤ fx_lv M) (hlo : (st.map fun v => v.category).sum + (fx_ml M' + 11) + fx_lw M' ≤ fx_lw M) (d : decode (fx_cc M) pc = .ok (.invokestatic idx, 3))
    (K : fx_X g M (pc + 3) lv st k Q mc ms) : fx_X g M pc lv (a8 :: a7 :: a6 :: a5 :: a4 :: a3 :: a2 :: a1 :: st) h Q (mc' + mc) (ms' + ms) :=
  fx_callR ok hC (fx_siteS ok (as := [a1, a2, a3, a4, a5, a6, a7, a8]) w.1 w.2 d) w.1.1 w.1.2.1 hlv hlo K
theorem fx_Sb8 (ok : fx_ok g) {idx : Nat} {a1 a2 a3 a4 a5 a6 a7 a8 : Value} (w : fx_wS (fx_y M).cls idx 8 M') (hC : fx_C g M' ([a1, a2, a3, a4, a5, a6, a7, a8] : List Value) h (fx_is (some x) k) mc' ms') (hlv : fx_lv M' + 1 ≤ fx_lv M) (hlo : (st.map fun v => v.category).sum + (fx_ml M' + 11) + fx_lw M' ≤ fx_lw M) (d : decode (fx_cc M) pc = .ok (.invokestatic idx, 3))
    (K : fx_X g M (pc + 3) lv (.int x :: st) k Q mc ms) : fx_X g M pc lv (a8 :: a7 :: a6 :: a5 :: a4 :: a3 :: a2 :: a1 :: st) h Q (mc' + mc) (ms' + ms) :=
  fx_callR ok hC (fx_siteS ok (as := [a1, a2, a3, a4, a5, a6, a7, a8]) w.1 w.2 d) w.1.1 w.1.2.1 hlv hlo K
theorem fx_St8 (ok : fx_ok g) {idx : Nat} {a1 a2 a3 a4 a5 a6 a7 a8 : Value} (w : fx_wS (fx_y M).cls idx 8 M') {E : String} (hC : fx_C g M' ([a1, a2, a3, a4, a5, a6, a7, a8] : List Value) h (fx_th E k) mc' ms') (hlv : fx_lv M' + 1 ≤ fx_lv M) (hlo : (st.map fun v => v.category).sum + (fx_ml M' + 11) + fx_lw M' ≤ fx_lw M) (d : decode (fx_cc M) pc = .ok (.invokestatic idx, 3))
    (K : fx_T g M pc lv E k Q mc ms) : fx_X g M pc lv (a8 :: a7 :: a6 :: a5 :: a4 :: a3 :: a2 :: a1 :: st) h Q (mc' + mc) (ms' + ms) :=
  fx_callT ok hC (fx_siteS ok (as := [a1, a2, a3, a4, a5, a6, a7, a8]) w.1 w.2 d) w.1.1 w.1.2.1 hlv hlo K
theorem fx_Vi8 (ok : fx_ok g) {idx : Nat} {b ci : Nat} {a1 a2 a3 a4 a5 a6 a7 a8 : Value} (w : fx_wV (fx_y M).cls idx 8 M' ci) (hb : fx_s h b = some (.inl ci)) (hC : fx_C g M' (Value.ref b :: [a1, a2, a3, a4, a5, a6, a7, a8]) h (fx_is (some x) k) 0 0) (hlv : fx_lv M' + 1 ≤ fx_lv M) (hlo : (st.map fun v => v.category).sum + (fx_ml M' + 11) + fx_lw M' ≤ fx_lw M) (d : decode (fx_cc M) pc = .ok (.invokevirtual idx, 3))
    (K : fx_X g M (pc + 3) lv (.int x :: st) k Q mc ms) : fx_X g M pc lv (a8 :: a7 :: a6 :: a5 :: a4 :: a3 :: a2 :: a1 :: Value.ref b :: st) h Q mc ms := by
  obtain ⟨q, hq, hqc⟩ := w.2.2.2
  exact fx_callR0 ok hC (fx_siteV ok (as := [a1, a2, a3, a4, a5, a6, a7, a8]) w.1 w.2.1 w.2.2.1 hb hq hqc d) w.1.1 w.1.2.1 hlv hlo K
theorem fx_Vv8 (ok : fx_ok g) {idx : Nat} {b ci : Nat} {a1 a2 a3 a4 a5 a6 a7 a8 : Value} (w : fx_wV (fx_y M).cls idx 8 M' ci) (hb : fx_s h b = some (.inl ci)) (hC : fx_C g M' (Value.ref b :: [a1, a2, a3, a4, a5, a6, a7, a8]) h (fx_is none k) 0 0) (hlv : fx_lv M' + 1 ≤ fx_lv M) (hlo : (st.map fun v => v.category).sum + (fx_ml M' + 11) + fx_lw M' ≤ fx_lw M) (d : decode (fx_cc M) pc = .ok (.invokevirtual idx, 3))
    (K : fx_X g M (pc + 3) lv st k Q mc ms) : fx_X g M pc lv (a8 :: a7 :: a6 :: a5 :: a4 :: a3 :: a2 :: a1 :: Value.ref b :: st) h Q mc ms := by
  obtain ⟨q, hq, hqc⟩ := w.2.2.2
  exact fx_callR0 ok hC (fx_siteV ok (as := [a1, a2, a3, a4, a5, a6, a7, a8]) w.1 w.2.1 w.2.2.1 hb hq hqc d) w.1.1 w.1.2.1 hlv hlo K
theorem fx_Va8 (ok : fx_ok g) {idx : Nat} {b ci : Nat} {a1 a2 a3 a4 a5 a6 a7 a8 : Value} (w : fx_wV (fx_y M).cls idx 8 M' ci) (hb : fx_s h b = some (.inl ci)) (hC : fx_C g M' (Value.ref b :: [a1, a2, a3, a4, a5, a6, a7, a8]) h (fx_is none k) mc' ms') (hlv : fx_lv M' + 1 ≤ fx_lv M) (hlo : (st.map fun v => v.category).sum + (fx_ml M' + 11) + fx_lw M' ≤ fx_lw M) (d : decode (fx_cc M) pc = .ok (.invokevirtual idx, 3))
    (K : fx_X g M (pc + 3) lv st k Q mc ms) : fx_X g M pc lv (a8 :: a7 :: a6 :: a5 :: a4 :: a3 :: a2 :: a1 :: Value.ref b :: st) h Q (mc' + mc) (ms' + ms) := by
  obtain ⟨q, hq, hqc⟩ := w.2.2.2
  exact fx_callR ok hC (fx_siteV ok (as := [a1, a2, a3, a4, a5, a6, a7, a8]) w.1 w.2.1 w.2.2.1 hb hq hqc d) w.1.1 w.1.2.1 hlv hlo K
theorem fx_Vb8 (ok : fx_ok g) {idx : Nat} {b ci : Nat} {a1 a2 a3 a4 a5 a6 a7 a8 : Value} (w : fx_wV (fx_y M).cls idx 8 M' ci) (hb : fx_s h b = some (.inl ci)) (hC : fx_C g M' (Value.ref b :: [a1, a2, a3, a4, a5, a6, a7, a8]) h (fx_is (some x) k) mc' ms') (hlv : fx_lv M' + 1 ≤ fx_lv M) (hlo : (st.map fun v => v.category).sum + (fx_ml M' + 11) + fx_lw M' ≤ fx_lw M) (d : decode (fx_cc M) pc = .ok (.invokevirtual idx, 3))
    (K : fx_X g M (pc + 3) lv (.int x :: st) k Q mc ms) : fx_X g M pc lv (a8 :: a7 :: a6 :: a5 :: a4 :: a3 :: a2 :: a1 :: Value.ref b :: st) h Q (mc' + mc) (ms' + ms) := by
  obtain ⟨q, hq, hqc⟩ := w.2.2.2
  exact fx_callR ok hC (fx_siteV ok (as := [a1, a2, a3, a4, a5, a6, a7, a8]) w.1 w.2.1 w.2.2.1 hb hq hqc d) w.1.1 w.1.2.1 hlv hlo K
theorem fx_Vt8 (ok : fx_ok g) {idx : Nat} {b ci : Nat} {a1 a2 a3 a4 a5 a6 a7 a8 : Value} (w : fx_wV (fx_y M).cls idx 8 M' ci) (hb : fx_s h b = some (.inl ci)) {E : String} (hC : fx_C g M' (Value.ref b :: [a1, a2, a3, a4, a5, a6, a7, a8]) h (fx_th E k) mc' ms') (hlv : fx_lv M' + 1 ≤ fx_lv M) (hlo : (st.map fun v => v.category).sum + (fx_ml M' + 11) + fx_lw M' ≤ fx_lw M) (d : decode (fx_cc M) pc = .ok (.invokevirtual idx, 3))
    (K : fx_T g M pc lv E k Q mc ms) : fx_X g M pc lv (a8 :: a7 :: a6 :: a5 :: a4 :: a3 :: a2 :: a1 :: Value.ref b :: st) h Q (mc' + mc) (ms' + ms) := by
  obtain ⟨q, hq, hqc⟩ := w.2.2.2
  exact fx_callT ok hC (fx_siteV ok (as := [a1, a2, a3, a4, a5, a6, a7, a8]) w.1 w.2.1 w.2.2.1 hb hq hqc d) w.1.1 w.1.2.1 hlv hlo K
theorem fx_Si9 (ok : fx_ok g) {idx : Nat} {a1 a2 a3 a4 a5 a6 a7 a8 a9 : Value} (w : fx_wS (fx_y M).cls idx 9 M') (hC : fx_C g M' ([a1, a2, a3, a4, a5, a6, a7, a8, a9] : List Value) h (fx_is (some x) k) 0 0) (hlv : fx_lv M' + 1 ≤ fx_lv M) (hlo : (st.map fun v => v.category).sum + (fx_ml M' + 11) + fx_lw M' ≤ fx_lw M) (d : decode (fx_cc M) pc = .ok (.invokestatic idx, 3))
    (K : fx_X g M (pc + 3) lv (.int x :: st) k Q mc ms) : fx_X g M pc lv (a9 :: a8 :: a7 :: a6 :: a5 :: a4 :: a3 :: a2 :: a1 :: st) h Q mc ms :=
  fx_callR0 ok hC (fx_siteS ok (as := [a1, a2, a3, a4, a5, a6, a7, a8, a9]) w.1 w.2 d) w.1.1 w.1.2.1 hlv hlo K
theorem fx_Sv9 (ok : fx_ok g) {idx : Nat} {a1 a2 a3 a4 a5 a6 a7 a8 a9 : Value} (w : fx_wS (fx_y M).cls idx 9 M') (hC : fx_C g M' ([a1, a2, a3, a4, a5, a6, a7, a8, a9] : List Value) h (fx_is none k) 0 0) (hlv : fx_lv M' + 1 ≤ fx_lv M) (hlo : (st.map fun v => v.category).sum + (fx_ml M' + 11) + fx_lw M' ≤ fx_lw M) (d : decode (fx_cc M) pc = .ok (.invokestatic idx, 3))
    (K : fx_X g M (pc + 3) lv st k Q mc ms) : fx_X g M pc lv (a9 :: a8 :: a7 :: a6 :: a5 :: a4 :: a3 :: a2 :: a1 :: st) h Q mc ms :=
  fx_callR0 ok hC (fx_siteS ok (as := [a1, a2, a3, a4, a5, a6, a7, a8, a9]) w.1 w.2 d) w.1.1 w.1.2.1 hlv hlo K
theorem fx_Sa9 (ok : fx_ok g) {idx : Nat} {a1 a2 a3 a4 a5 a6 a7 a8 a9 : Value} (w : fx_wS (fx_y M).cls idx 9 M') (hC : fx_C g M' ([a1, a2, a3, a4, a5, a6, a7, a8, a9] : List Value) h (fx_is none k) mc' ms') (hlv : fx_lv M' + 1 ≤ fx_lv M) (hlo : (st.map fun v => v.category).sum + (fx_ml M' + 11) + fx_lw M' ≤ fx_lw M) (d : decode (fx_cc M) pc = .ok (.invokestatic idx, 3))
    (K : fx_X g M (pc + 3) lv st k Q mc ms) : fx_X g M pc lv (a9 :: a8 :: a7 :: a6 :: a5 :: a4 :: a3 :: a2 :: a1 :: st) h Q (mc' + mc) (ms' + ms) :=
  fx_callR ok hC (fx_siteS ok (as := [a1, a2, a3, a4, a5, a6, a7, a8, a9]) w.1 w.2 d) w.1.1 w.1.2.1 hlv hlo K
theorem fx_Sb9 (ok : fx_ok g) {idx : Nat} {a1 a2 a3 a4 a5 a6 a7 a8 a9 : Value} (w : fx_wS (fx_y M).cls idx 9 M') (hC : fx_C g M' ([a1, a2, a3, a4, a5, a6, a7, a8, a9] : List Value) h (fx_is (some x) k) mc' ms') (hlv : fx_lv M' + 1 ≤ fx_lv M) (hlo : (st.map fun v => v.category).sum + (fx_ml M' + 11) + fx_lw M' ≤ fx_lw M) (d : decode (fx_cc M) pc = .ok (.invokestatic idx, 3))
    (K : fx_X g M (pc + 3) lv (.int x :: st) k Q mc ms) : fx_X g M pc lv (a9 :: a8 :: a7 :: a6 :: a5 :: a4 :: a3 :: a2 :: a1 :: st) h Q (mc' + mc) (ms' + ms) :=
  fx_callR ok hC (fx_siteS ok (as := [a1, a2, a3, a4, a5, a6, a7, a8, a9]) w.1 w.2 d) w.1.1 w.1.2.1 hlv hlo K
theorem fx_St9 (ok : fx_ok g) {idx : Nat} {a1 a2 a3 a4 a5 a6 a7 a8 a9 : Value} (w : fx_wS (fx_y M).cls idx 9 M') {E : String} (hC : fx_C g M' ([a1, a2, a3, a4, a5, a6, a7, a8, a9] : List Value) h (fx_th E k) mc' ms') (hlv : fx_lv M' + 1 ≤ fx_lv M) (hlo : (st.map fun v => v.category).sum + (fx_ml M' + 11) + fx_lw M' ≤ fx_lw M) (d : decode (fx_cc M) pc = .ok (.invokestatic idx, 3))
    (K : fx_T g M pc lv E k Q mc ms) : fx_X g M pc lv (a9 :: a8 :: a7 :: a6 :: a5 :: a4 :: a3 :: a2 :: a1 :: st) h Q (mc' + mc) (ms' + ms) :=
  fx_callT ok hC (fx_siteS ok (as := [a1, a2, a3, a4, a5, a6, a7, a8, a9]) w.1 w.2 d) w.1.1 w.1.2.1 hlv hlo K
theorem fx_Vi9 (ok : fx_ok g) {idx : Nat} {b ci : Nat} {a1 a2 a3 a4 a5 a6 a7 a8 a9 : Value} (w : fx_wV (fx_y M).cls idx 9 M' ci) (hb : fx_s h b = some (.inl ci)) (hC : fx_C g M' (Value.ref b :: [a1, a2, a3, a4, a5, a6, a7, a8, a9]) h (fx_is (some x) k) 0 0) (hlv : fx_lv M' + 1 ≤ fx_lv M) (hlo : (st.map fun v => v.category).sum + (fx_ml M' + 11) + fx_lw M' ≤ fx_lw M) (d : decode (fx_cc M) pc = .ok (.invokevirtual idx, 3))
    (K : fx_X g M (pc + 3) lv (.int x :: st) k Q mc ms) : fx_X g M pc lv (a9 :: a8 :: a7 :: a6 :: a5 :: a4 :: a3 :: a2 :: a1 :: Value.ref b :: st) h Q mc ms := by
  obtain ⟨q, hq, hqc⟩ := w.2.2.2
  exact fx_callR0 ok hC (fx_siteV ok (as := [a1, a2, a3, a4, a5, a6, a7, a8, a9]) w.1 w.2.1 w.2.2.1 hb hq hqc d) w.1.1 w.1.2.1 hlv hlo K
theorem fx_Vv9 (ok : fx_ok g) {idx : Nat} {b ci : Nat} {a1 a2 a3 a4 a5 a6 a7 a8 a9 : Value} (w : fx_wV (fx_y M).cls idx 9 M' ci) (hb : fx_s h b = some (.inl ci)) (hC : fx_C g M' (Value.ref b :: [a1, a2, a3, a4, a5, a6, a7, a8, a9]) h (fx_is none k) 0 0) (hlv : fx_lv M' + 1 ≤ fx_lv M) (hlo : (st.map fun v => v.category).sum + (fx_ml M' + 11) + fx_lw M' ≤ fx_lw M) (d : decode (fx_cc M) pc = .ok (.invokevirtual idx, 3))
    (K : fx_X g M (pc + 3) lv st k Q mc ms) : fx_X g M pc lv (a9 :: a8 :: a7 :: a6 :: a5 :: a4 :: a3 :: a2 :: a1 :: Value.ref b :: st) h Q mc ms := by
  obtain ⟨q, hq, hqc⟩ := w.2.2.2
  exact fx_callR0 ok hC (fx_siteV ok (as := [a1, a2, a3, a4, a5, a6, a7, a8, a9]) w.1 w.2.1 w.2.2.1 hb hq hqc d) w.1.1 w.1.2.1 hlv hlo K
theorem fx_Va9 (ok : fx_ok g) {idx : Nat} {b ci : Nat} {a1 a2 a3 a4 a5 a6 a7 a8 a9 : Value} (w : fx_wV (fx_y M).cls idx 9 M' ci) (hb : fx_s h b = some (.inl ci)) (hC : fx_C g M' (Value.ref b :: [a1, a2, a3, a4, a5, a6, a7, a8, a9]) h (fx_is none k) mc' ms') (hlv : fx_lv M' + 1 ≤ fx_lv M) (hlo : (st.map fun v => v.category).sum + (fx_ml M' + 11) + fx_lw M' ≤ fx_lw M) (d : decode (fx_cc M) pc = .ok (.invokevirtual idx, 3))
    (K : fx_X g M (pc + 3) lv st k Q mc ms) : fx_X g M pc lv (a9 :: a8 :: a7 :: a6 :: a5 :: a4 :: a3 :: a2 :: a1 :: Value.ref b :: st) h Q (mc' + mc) (ms' + ms) := by
  obtain ⟨q, hq, hqc⟩ := w.2.2.2
  exact fx_callR ok hC (fx_siteV ok (as := [a1, a2, a3, a4, a5, a6, a7, a8, a9]) w.1 w.2.1 w.2.2.1 hb hq hqc d) w.1.1 w.1.2.1 hlv hlo K
theorem fx_Vb9 (ok : fx_ok g) {idx : Nat} {b ci : Nat} {a1 a2 a3 a4 a5 a6 a7 a8 a9 : Value} (w : fx_wV (fx_y M).cls idx 9 M' ci) (hb : fx_s h b = some (.inl ci)) (hC : fx_C g M' (Value.ref b :: [a1, a2, a3, a4, a5, a6, a7, a8, a9]) h (fx_is (some x) k) mc' ms') (hlv : fx_lv M' + 1 ≤ fx_lv M) (hlo : (st.map fun v => v.category).sum + (fx_ml M' + 11) + fx_lw M' ≤ fx_lw M) (d : decode (fx_cc M) pc = .ok (.invokevirtual idx, 3))
    (K : fx_X g M (pc + 3) lv (.int x :: st) k Q mc ms) : fx_X g M pc lv (a9 :: a8 :: a7 :: a6 :: a5 :: a4 :: a3 :: a2 :: a1 :: Value.ref b :: st) h Q (mc' + mc) (ms' + ms) := by
  obtain ⟨q, hq, hqc⟩ := w.2.2.2
  exact fx_callR ok hC (fx_siteV ok (as := [a1, a2, a3, a4, a5, a6, a7, a8, a9]) w.1 w.2.1 w.2.2.1 hb hq hqc d) w.1.1 w.1.2.1 hlv hlo K
theorem fx_Vt9 (ok : fx_ok g) {idx : Nat} {b ci : Nat} {a1 a2 a3 a4 a5 a6 a7 a8 a9 : Value} (w : fx_wV (fx_y M).cls idx 9 M' ci) (hb : fx_s h b = some (.inl ci)) {E : String} (hC : fx_C g M' (Value.ref b :: [a1, a2, a3, a4, a5, a6, a7, a8, a9]) h (fx_th E k) mc' ms') (hlv : fx_lv M' + 1 ≤ fx_lv M) (hlo : (st.map fun v => v.category).sum + (fx_ml M' + 11) + fx_lw M' ≤ fx_lw M) (d : decode (fx_cc M) pc = .ok (.invokevirtual idx, 3))
    (K : fx_T g M pc lv E k Q mc ms) : fx_X g M pc lv (a9 :: a8 :: a7 :: a6 :: a5 :: a4 :: a3 :: a2 :: a1 :: Value.ref b :: st) h Q (mc' + mc) (ms' + ms) := by
  obtain ⟨q, hq, hqc⟩ := w.2.2.2
  exact fx_callT ok hC (fx_siteV ok (as := [a1, a2, a3, a4, a5, a6, a7, a8, a9]) w.1 w.2.1 w.2.2.1 hb hq hqc d) w.1.1 w.1.2.1 hlv hlo K
theorem fx_Ia0 (ok : fx_ok g) {idx : Nat} {b : Nat} (w : fx_wI (fx_y M).cls idx 0 M') (hC : fx_C g M' (Value.ref b :: []) h (fx_is none k) mc' ms') (hlv : fx_lv M' + 1 ≤ fx_lv M) (hlo : (st.map fun v => v.category).sum + (fx_ml M' + 11) + fx_lw M' ≤ fx_lw M) (d : decode (fx_cc M) pc = .ok (.invokespecial idx, 3))
    (K : fx_X g M (pc + 3) lv st k Q mc ms) : fx_X g M pc lv (Value.ref b :: st) h Q (mc' + mc) (ms' + ms) :=
  fx_callR ok hC (fx_siteI ok (as := []) w.1 w.2.1 w.2.2.1 w.2.2.2.1 w.2.2.2.2 d) w.1.1 w.1.2.1 hlv hlo K
theorem fx_Na0 (ok : fx_ok g) {idx : Nat} {b : Nat} {host : String} (w : fx_wN (fx_y M).cls idx 0 M' host) (hC : fx_C g M' (Value.ref b :: []) h (fx_is none k) mc' ms') (hlv : fx_lv M' + 1 ≤ fx_lv M) (hlo : (st.map fun v => v.category).sum + (fx_ml M' + 11) + fx_lw M' ≤ fx_lw M) (d : decode (fx_cc M) pc = .ok (.invokespecial idx, 3))
    (K : fx_X g M (pc + 3) lv st k Q mc ms) : fx_X g M pc lv (Value.ref b :: st) h Q (mc' + mc) (ms' + ms) :=
  fx_callR ok hC (fx_siteIN ok (as := []) w.1 w.2.1 w.2.2.1 w.2.2.2.1 w.2.2.2.2 d) w.1.1 w.1.2.1 hlv hlo K
theorem fx_Mi3 (ok : fx_ok g) {idx : Nat} {a1 a2 a3 : Value} {host : String} (w : fx_wSN (fx_y M).cls idx 3 M' host) (hC : fx_C g M' ([a1, a2, a3] : List Value) h (fx_is (some x) k) 0 0) (hlv : fx_lv M' + 1 ≤ fx_lv M) (hlo : (st.map fun v => v.category).sum + (fx_ml M' + 11) + fx_lw M' ≤ fx_lw M) (d : decode (fx_cc M) pc = .ok (.invokestatic idx, 3))
    (K : fx_X g M (pc + 3) lv (.int x :: st) k Q mc ms) : fx_X g M pc lv (a3 :: a2 :: a1 :: st) h Q mc ms :=
  fx_callR0 ok hC (fx_siteSN ok (as := [a1, a2, a3]) w.1 w.2 d) w.1.1 w.1.2.1 hlv hlo K
end FXS
end
