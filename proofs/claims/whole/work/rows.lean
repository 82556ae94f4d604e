section
-- ===== PART A: goes FIRST, ahead of the names: the tables' words, and 'selects' of the private methods out of them =====
/-- a private method of a class that the tables say can be made, by its rows of tables_1 -/
def lw_okq (q : MethodName × Nat) : Prop := (q.1.cls ≠ "java/lang/invoke/MethodHandle" ∧ q.1.cls ≠ "java/lang/invoke/VarHandle") ∧ Cond.instantiable q.1.cls q.2 ∈ tables_1 ∧ Cond.privateMethod q.1 ∈ tables_1 ∧ Cond.instanceMethod q.1 ∈ tables_1
theorem lw_p0 : lw_okq (⟨"java/lang/Throwable", "fillInStackTrace", "(I)Ljava/lang/Throwable;"⟩, 6) := ⟨⟨by decide +kernel, by decide +kernel⟩, List.mem_of_getElem? (i := 489) (by decide +kernel), List.mem_of_getElem? (i := 487) (by decide +kernel), List.mem_of_getElem? (i := 488) (by decide +kernel)⟩
theorem lw_p1 : lw_okq (⟨"FrameSwapper$Composer", "rememberBefore", "()V"⟩, 11) := ⟨⟨by decide +kernel, by decide +kernel⟩, List.mem_of_getElem? (i := 189) (by decide +kernel), List.mem_of_getElem? (i := 689) (by decide +kernel), List.mem_of_getElem? (i := 690) (by decide +kernel)⟩
theorem lw_p2 : lw_okq (⟨"FrameSwapper$Planes", "isFit", "(LFrameSwapper$Pile;I)Z"⟩, 3) := ⟨⟨by decide +kernel, by decide +kernel⟩, List.mem_of_getElem? (i := 197) (by decide +kernel), List.mem_of_getElem? (i := 709) (by decide +kernel), List.mem_of_getElem? (i := 710) (by decide +kernel)⟩
theorem lw_p3 : lw_okq (⟨"FrameSwapper$Planes", "give", "(IILFrameSwapper$Picture;)V"⟩, 3) := ⟨⟨by decide +kernel, by decide +kernel⟩, List.mem_of_getElem? (i := 197) (by decide +kernel), List.mem_of_getElem? (i := 722) (by decide +kernel), List.mem_of_getElem? (i := 723) (by decide +kernel)⟩
theorem lw_p4 : lw_okq (⟨"FrameSwapper$Composer", "noteChanges", "(LFrameSwapper$Desk;)V"⟩, 11) := ⟨⟨by decide +kernel, by decide +kernel⟩, List.mem_of_getElem? (i := 189) (by decide +kernel), List.mem_of_getElem? (i := 727) (by decide +kernel), List.mem_of_getElem? (i := 728) (by decide +kernel)⟩
theorem lw_p5 : lw_okq (⟨"FrameSwapper$Misses", "isCovered", "(LFrameSwapper$Rectangle;)Z"⟩, 2) := ⟨⟨by decide +kernel, by decide +kernel⟩, List.mem_of_getElem? (i := 226) (by decide +kernel), List.mem_of_getElem? (i := 740) (by decide +kernel), List.mem_of_getElem? (i := 741) (by decide +kernel)⟩
theorem lw_p6 : lw_okq (⟨"FrameSwapper$Misses", "joinNearest", "()V"⟩, 2) := ⟨⟨by decide +kernel, by decide +kernel⟩, List.mem_of_getElem? (i := 226) (by decide +kernel), List.mem_of_getElem? (i := 749) (by decide +kernel), List.mem_of_getElem? (i := 750) (by decide +kernel)⟩
theorem lw_p7 : lw_okq (⟨"FrameSwapper$Misses", "dropAt", "(I)V"⟩, 2) := ⟨⟨by decide +kernel, by decide +kernel⟩, List.mem_of_getElem? (i := 226) (by decide +kernel), List.mem_of_getElem? (i := 761) (by decide +kernel), List.mem_of_getElem? (i := 762) (by decide +kernel)⟩
theorem lw_p8 : lw_okq (⟨"FrameSwapper$Composer", "startHole", "(I)V"⟩, 11) := ⟨⟨by decide +kernel, by decide +kernel⟩, List.mem_of_getElem? (i := 189) (by decide +kernel), List.mem_of_getElem? (i := 769) (by decide +kernel), List.mem_of_getElem? (i := 770) (by decide +kernel)⟩
theorem lw_p9 : lw_okq (⟨"FrameSwapper$Composer", "makeStep", "()V"⟩, 11) := ⟨⟨by decide +kernel, by decide +kernel⟩, List.mem_of_getElem? (i := 189) (by decide +kernel), List.mem_of_getElem? (i := 777) (by decide +kernel), List.mem_of_getElem? (i := 778) (by decide +kernel)⟩
theorem lw_p10 : lw_okq (⟨"FrameSwapper$Composer", "nextLevel", "(LFrameSwapper$Rectangle;)I"⟩, 11) := ⟨⟨by decide +kernel, by decide +kernel⟩, List.mem_of_getElem? (i := 189) (by decide +kernel), List.mem_of_getElem? (i := 792) (by decide +kernel), List.mem_of_getElem? (i := 793) (by decide +kernel)⟩
theorem lw_p11 : lw_okq (⟨"FrameSwapperModel", "freePixels", "()I"⟩, 52) := ⟨⟨by decide +kernel, by decide +kernel⟩, List.mem_of_getElem? (i := 797) (by decide +kernel), List.mem_of_getElem? (i := 971) (by decide +kernel), List.mem_of_getElem? (i := 972) (by decide +kernel)⟩
theorem lw_p12 : lw_okq (⟨"FrameSwapperModel", "hasDraft", "(I)Z"⟩, 52) := ⟨⟨by decide +kernel, by decide +kernel⟩, List.mem_of_getElem? (i := 797) (by decide +kernel), List.mem_of_getElem? (i := 979) (by decide +kernel), List.mem_of_getElem? (i := 980) (by decide +kernel)⟩
theorem lw_p13 : lw_okq (⟨"FrameSwapperModel", "has", "(III)Z"⟩, 52) := ⟨⟨by decide +kernel, by decide +kernel⟩, List.mem_of_getElem? (i := 797) (by decide +kernel), List.mem_of_getElem? (i := 999) (by decide +kernel), List.mem_of_getElem? (i := 1000) (by decide +kernel)⟩
theorem lw_p14 : lw_okq (⟨"FrameSwapperModel", "isCopy", "(IIII)Z"⟩, 52) := ⟨⟨by decide +kernel, by decide +kernel⟩, List.mem_of_getElem? (i := 797) (by decide +kernel), List.mem_of_getElem? (i := 1011) (by decide +kernel), List.mem_of_getElem? (i := 1012) (by decide +kernel)⟩
theorem lw_p15 : lw_okq (⟨"FrameSwapperModel", "copyPicture", "(II)V"⟩, 52) := ⟨⟨by decide +kernel, by decide +kernel⟩, List.mem_of_getElem? (i := 797) (by decide +kernel), List.mem_of_getElem? (i := 1019) (by decide +kernel), List.mem_of_getElem? (i := 1020) (by decide +kernel)⟩
def lw_privs_1 : List (MethodName × Nat) := [(⟨"java/lang/Throwable", "fillInStackTrace", "(I)Ljava/lang/Throwable;"⟩, 6), (⟨"FrameSwapper$Composer", "rememberBefore", "()V"⟩, 11), (⟨"FrameSwapper$Planes", "isFit", "(LFrameSwapper$Pile;I)Z"⟩, 3), (⟨"FrameSwapper$Planes", "give", "(IILFrameSwapper$Picture;)V"⟩, 3), (⟨"FrameSwapper$Composer", "noteChanges", "(LFrameSwapper$Desk;)V"⟩, 11), (⟨"FrameSwapper$Misses", "isCovered", "(LFrameSwapper$Rectangle;)Z"⟩, 2), (⟨"FrameSwapper$Misses", "joinNearest", "()V"⟩, 2), (⟨"FrameSwapper$Misses", "dropAt", "(I)V"⟩, 2), (⟨"FrameSwapper$Composer", "startHole", "(I)V"⟩, 11), (⟨"FrameSwapper$Composer", "makeStep", "()V"⟩, 11), (⟨"FrameSwapper$Composer", "nextLevel", "(LFrameSwapper$Rectangle;)I"⟩, 11), (⟨"FrameSwapperModel", "freePixels", "()I"⟩, 52), (⟨"FrameSwapperModel", "hasDraft", "(I)Z"⟩, 52), (⟨"FrameSwapperModel", "has", "(III)Z"⟩, 52), (⟨"FrameSwapperModel", "isCopy", "(IIII)Z"⟩, 52), (⟨"FrameSwapperModel", "copyPicture", "(II)V"⟩, 52)]
theorem lw_r1 : ∀ q ∈ lw_privs_1, lw_okq q := List.forall_mem_cons.mpr ⟨lw_p0, List.forall_mem_cons.mpr ⟨lw_p1, List.forall_mem_cons.mpr ⟨lw_p2, List.forall_mem_cons.mpr ⟨lw_p3, List.forall_mem_cons.mpr ⟨lw_p4, List.forall_mem_cons.mpr ⟨lw_p5, List.forall_mem_cons.mpr ⟨lw_p6, List.forall_mem_cons.mpr ⟨lw_p7, List.forall_mem_cons.mpr ⟨lw_p8, List.forall_mem_cons.mpr ⟨lw_p9, List.forall_mem_cons.mpr ⟨lw_p10, List.forall_mem_cons.mpr ⟨lw_p11, List.forall_mem_cons.mpr ⟨lw_p12, List.forall_mem_cons.mpr ⟨lw_p13, List.forall_mem_cons.mpr ⟨lw_p14, List.forall_mem_cons.mpr ⟨lw_p15, fun _ h => absurd h List.not_mem_nil⟩⟩⟩⟩⟩⟩⟩⟩⟩⟩⟩⟩⟩⟩⟩⟩
theorem lw_p16 : lw_okq (⟨"FrameSwapperModel", "begin", "()V"⟩, 52) := ⟨⟨by decide +kernel, by decide +kernel⟩, List.mem_of_getElem? (i := 797) (by decide +kernel), List.mem_of_getElem? (i := 1027) (by decide +kernel), List.mem_of_getElem? (i := 1028) (by decide +kernel)⟩
theorem lw_p17 : lw_okq (⟨"FrameSwapperModel", "show", "(I)V"⟩, 52) := ⟨⟨by decide +kernel, by decide +kernel⟩, List.mem_of_getElem? (i := 797) (by decide +kernel), List.mem_of_getElem? (i := 1031) (by decide +kernel), List.mem_of_getElem? (i := 1032) (by decide +kernel)⟩
theorem lw_p18 : lw_okq (⟨"FrameSwapperModel", "cut", "(IIII)V"⟩, 52) := ⟨⟨by decide +kernel, by decide +kernel⟩, List.mem_of_getElem? (i := 797) (by decide +kernel), List.mem_of_getElem? (i := 1035) (by decide +kernel), List.mem_of_getElem? (i := 1036) (by decide +kernel)⟩
theorem lw_p19 : lw_okq (⟨"FrameSwapperModel", "isPlane", "(I)Z"⟩, 52) := ⟨⟨by decide +kernel, by decide +kernel⟩, List.mem_of_getElem? (i := 797) (by decide +kernel), List.mem_of_getElem? (i := 1039) (by decide +kernel), List.mem_of_getElem? (i := 1040) (by decide +kernel)⟩
theorem lw_p20 : lw_okq (⟨"FrameSwapperModel", "choosePlanes", "()V"⟩, 52) := ⟨⟨by decide +kernel, by decide +kernel⟩, List.mem_of_getElem? (i := 797) (by decide +kernel), List.mem_of_getElem? (i := 1043) (by decide +kernel), List.mem_of_getElem? (i := 1044) (by decide +kernel)⟩
theorem lw_p21 : lw_okq (⟨"FrameSwapperModel", "nth", "(II)I"⟩, 52) := ⟨⟨by decide +kernel, by decide +kernel⟩, List.mem_of_getElem? (i := 797) (by decide +kernel), List.mem_of_getElem? (i := 1047) (by decide +kernel), List.mem_of_getElem? (i := 1048) (by decide +kernel)⟩
theorem lw_p22 : lw_okq (⟨"FrameSwapperModel", "isAbove", "(II)Z"⟩, 52) := ⟨⟨by decide +kernel, by decide +kernel⟩, List.mem_of_getElem? (i := 797) (by decide +kernel), List.mem_of_getElem? (i := 1051) (by decide +kernel), List.mem_of_getElem? (i := 1052) (by decide +kernel)⟩
theorem lw_p23 : lw_okq (⟨"FrameSwapperModel", "miss", "()V"⟩, 52) := ⟨⟨by decide +kernel, by decide +kernel⟩, List.mem_of_getElem? (i := 797) (by decide +kernel), List.mem_of_getElem? (i := 1055) (by decide +kernel), List.mem_of_getElem? (i := 1056) (by decide +kernel)⟩
theorem lw_p24 : lw_okq (⟨"FrameSwapperModel", "lies", "(II)Z"⟩, 52) := ⟨⟨by decide +kernel, by decide +kernel⟩, List.mem_of_getElem? (i := 797) (by decide +kernel), List.mem_of_getElem? (i := 1059) (by decide +kernel), List.mem_of_getElem? (i := 1060) (by decide +kernel)⟩
theorem lw_p25 : lw_okq (⟨"FrameSwapperModel", "join", "(I)V"⟩, 52) := ⟨⟨by decide +kernel, by decide +kernel⟩, List.mem_of_getElem? (i := 797) (by decide +kernel), List.mem_of_getElem? (i := 1063) (by decide +kernel), List.mem_of_getElem? (i := 1064) (by decide +kernel)⟩
theorem lw_p26 : lw_okq (⟨"FrameSwapperModel", "hullWide", "(II)I"⟩, 52) := ⟨⟨by decide +kernel, by decide +kernel⟩, List.mem_of_getElem? (i := 797) (by decide +kernel), List.mem_of_getElem? (i := 1068) (by decide +kernel), List.mem_of_getElem? (i := 1069) (by decide +kernel)⟩
theorem lw_p27 : lw_okq (⟨"FrameSwapperModel", "hullHigh", "(II)I"⟩, 52) := ⟨⟨by decide +kernel, by decide +kernel⟩, List.mem_of_getElem? (i := 797) (by decide +kernel), List.mem_of_getElem? (i := 1072) (by decide +kernel), List.mem_of_getElem? (i := 1073) (by decide +kernel)⟩
theorem lw_p28 : lw_okq (⟨"FrameSwapperModel", "findStep", "()V"⟩, 52) := ⟨⟨by decide +kernel, by decide +kernel⟩, List.mem_of_getElem? (i := 797) (by decide +kernel), List.mem_of_getElem? (i := 1076) (by decide +kernel), List.mem_of_getElem? (i := 1077) (by decide +kernel)⟩
theorem lw_p29 : lw_okq (⟨"FrameSwapperModel", "meet", "(I)V"⟩, 52) := ⟨⟨by decide +kernel, by decide +kernel⟩, List.mem_of_getElem? (i := 797) (by decide +kernel), List.mem_of_getElem? (i := 1080) (by decide +kernel), List.mem_of_getElem? (i := 1081) (by decide +kernel)⟩
theorem lw_p30 : lw_okq (⟨"FrameSwapperModel", "make", "()V"⟩, 52) := ⟨⟨by decide +kernel, by decide +kernel⟩, List.mem_of_getElem? (i := 797) (by decide +kernel), List.mem_of_getElem? (i := 1084) (by decide +kernel), List.mem_of_getElem? (i := 1085) (by decide +kernel)⟩
theorem lw_p31 : lw_okq (⟨"FrameSwapperModel", "paint", "(I)V"⟩, 52) := ⟨⟨by decide +kernel, by decide +kernel⟩, List.mem_of_getElem? (i := 797) (by decide +kernel), List.mem_of_getElem? (i := 1088) (by decide +kernel), List.mem_of_getElem? (i := 1089) (by decide +kernel)⟩
def lw_privs_2 : List (MethodName × Nat) := [(⟨"FrameSwapperModel", "begin", "()V"⟩, 52), (⟨"FrameSwapperModel", "show", "(I)V"⟩, 52), (⟨"FrameSwapperModel", "cut", "(IIII)V"⟩, 52), (⟨"FrameSwapperModel", "isPlane", "(I)Z"⟩, 52), (⟨"FrameSwapperModel", "choosePlanes", "()V"⟩, 52), (⟨"FrameSwapperModel", "nth", "(II)I"⟩, 52), (⟨"FrameSwapperModel", "isAbove", "(II)Z"⟩, 52), (⟨"FrameSwapperModel", "miss", "()V"⟩, 52), (⟨"FrameSwapperModel", "lies", "(II)Z"⟩, 52), (⟨"FrameSwapperModel", "join", "(I)V"⟩, 52), (⟨"FrameSwapperModel", "hullWide", "(II)I"⟩, 52), (⟨"FrameSwapperModel", "hullHigh", "(II)I"⟩, 52), (⟨"FrameSwapperModel", "findStep", "()V"⟩, 52), (⟨"FrameSwapperModel", "meet", "(I)V"⟩, 52), (⟨"FrameSwapperModel", "make", "()V"⟩, 52), (⟨"FrameSwapperModel", "paint", "(I)V"⟩, 52)]
theorem lw_r2 : ∀ q ∈ lw_privs_2, lw_okq q := List.forall_mem_cons.mpr ⟨lw_p16, List.forall_mem_cons.mpr ⟨lw_p17, List.forall_mem_cons.mpr ⟨lw_p18, List.forall_mem_cons.mpr ⟨lw_p19, List.forall_mem_cons.mpr ⟨lw_p20, List.forall_mem_cons.mpr ⟨lw_p21, List.forall_mem_cons.mpr ⟨lw_p22, List.forall_mem_cons.mpr ⟨lw_p23, List.forall_mem_cons.mpr ⟨lw_p24, List.forall_mem_cons.mpr ⟨lw_p25, List.forall_mem_cons.mpr ⟨lw_p26, List.forall_mem_cons.mpr ⟨lw_p27, List.forall_mem_cons.mpr ⟨lw_p28, List.forall_mem_cons.mpr ⟨lw_p29, List.forall_mem_cons.mpr ⟨lw_p30, List.forall_mem_cons.mpr ⟨lw_p31, fun _ h => absurd h List.not_mem_nil⟩⟩⟩⟩⟩⟩⟩⟩⟩⟩⟩⟩⟩⟩⟩⟩
theorem lw_p32 : lw_okq (⟨"FrameSwapperModel", "pixelOf", "(III)I"⟩, 52) := ⟨⟨by decide +kernel, by decide +kernel⟩, List.mem_of_getElem? (i := 797) (by decide +kernel), List.mem_of_getElem? (i := 1092) (by decide +kernel), List.mem_of_getElem? (i := 1093) (by decide +kernel)⟩
theorem lw_p33 : lw_okq (⟨"FrameSwapperModel", "look", "()V"⟩, 52) := ⟨⟨by decide +kernel, by decide +kernel⟩, List.mem_of_getElem? (i := 797) (by decide +kernel), List.mem_of_getElem? (i := 1106) (by decide +kernel), List.mem_of_getElem? (i := 1107) (by decide +kernel)⟩
theorem lw_p34 : lw_okq (⟨"FrameSwapperModel", "change", "()V"⟩, 52) := ⟨⟨by decide +kernel, by decide +kernel⟩, List.mem_of_getElem? (i := 797) (by decide +kernel), List.mem_of_getElem? (i := 1110) (by decide +kernel), List.mem_of_getElem? (i := 1111) (by decide +kernel)⟩
def lw_privs_3 : List (MethodName × Nat) := [(⟨"FrameSwapperModel", "pixelOf", "(III)I"⟩, 52), (⟨"FrameSwapperModel", "look", "()V"⟩, 52), (⟨"FrameSwapperModel", "change", "()V"⟩, 52)]
theorem lw_r3 : ∀ q ∈ lw_privs_3, lw_okq q := List.forall_mem_cons.mpr ⟨lw_p32, List.forall_mem_cons.mpr ⟨lw_p33, List.forall_mem_cons.mpr ⟨lw_p34, fun _ h => absurd h List.not_mem_nil⟩⟩⟩
def lw_privs : List (MethodName × Nat) := lw_privs_1 ++ (lw_privs_2 ++ (lw_privs_3))
def lw_tbl : List Cond := k2_sels lw_privs ++ tables_1
theorem lw_privs_ok : ∀ q ∈ lw_privs, lw_okq q := by
  show ∀ q ∈ lw_privs_1 ++ (lw_privs_2 ++ (lw_privs_3)), lw_okq q
  exact List.forall_mem_append.mpr ⟨lw_r1, List.forall_mem_append.mpr ⟨lw_r2, lw_r3⟩⟩
end
section
/-! ===== classes and their fields ===== -/
def Rq_FS : String := "FrameSwapper"
def Tq_FS : u_T := fun k => match k with
  | 0 => ("FrameSwapper", "desk", "LFrameSwapper$Desk;", true)
  | 1 => ("FrameSwapper", "composer", "LFrameSwapper$Composer;", true)
  | 2 => ("FrameSwapper", "beam", "LFrameSwapper$Beam;", true)
  | 3 => ("FrameSwapper", "area", "LFrameSwapper$Rectangle;", true)
  | _ => ("FrameSwapper", "carried", "LFrameSwapper$Picture;", true)
def tq_FS : Nat → FieldType := fun k => match k with
  | 0 => .object "FrameSwapper$Desk"
  | 1 => .object "FrameSwapper$Composer"
  | 2 => .object "FrameSwapper$Beam"
  | 3 => .object "FrameSwapper$Rectangle"
  | _ => .object "FrameSwapper$Picture"
theorem nq_FS : ∀ a, a < 5 → ∀ b, b < 5 → a ≠ b → (Tq_FS a).2.1 ≠ (Tq_FS b).2.1 := by decide +kernel
theorem tq_FS_ok : ∀ k, k < 5 → parseFieldDescriptor (Tq_FS k).2.2.1 = some (tq_FS k) := by decide +kernel
def Rq_RE : String := "FrameSwapper$Rectangle"
def Tq_RE : u_T := fun k => match k with
  | 0 => ("FrameSwapper$Rectangle", "x", "I", false)
  | 1 => ("FrameSwapper$Rectangle", "y", "I", false)
  | 2 => ("FrameSwapper$Rectangle", "columns", "I", false)
  | _ => ("FrameSwapper$Rectangle", "rows", "I", false)
def tq_RE : Nat → FieldType := fun k => match k with
  | 0 => .int
  | 1 => .int
  | 2 => .int
  | _ => .int
theorem nq_RE : ∀ a, a < 4 → ∀ b, b < 4 → a ≠ b → (Tq_RE a).2.1 ≠ (Tq_RE b).2.1 := by decide +kernel
theorem tq_RE_ok : ∀ k, k < 4 → parseFieldDescriptor (Tq_RE k).2.2.1 = some (tq_RE k) := by decide +kernel
def Rq_PI : String := "FrameSwapper$Picture"
def Tq_PI : u_T := fun k => match k with
  | 0 => ("FrameSwapper$Picture", "isThere", "Z", false)
  | 1 => ("FrameSwapper$Picture", "columns", "I", false)
  | 2 => ("FrameSwapper$Picture", "rows", "I", false)
  | 3 => ("FrameSwapper$Picture", "x", "I", false)
  | 4 => ("FrameSwapper$Picture", "y", "I", false)
  | 5 => ("FrameSwapper$Picture", "order", "I", false)
  | 6 => ("FrameSwapper$Picture", "alpha", "I", false)
  | 7 => ("FrameSwapper$Picture", "visible", "Z", false)
  | 8 => ("FrameSwapper$Picture", "pixels", "[I", true)
  | 9 => ("FrameSwapper$Picture", "clip", "LFrameSwapper$Rectangle;", true)
  | _ => ("FrameSwapper$Picture", "shown", "LFrameSwapper$Rectangle;", true)
def tq_PI : Nat → FieldType := fun k => match k with
  | 0 => .boolean
  | 1 => .int
  | 2 => .int
  | 3 => .int
  | 4 => .int
  | 5 => .int
  | 6 => .int
  | 7 => .boolean
  | 8 => .array .int
  | 9 => .object "FrameSwapper$Rectangle"
  | _ => .object "FrameSwapper$Rectangle"
theorem nq_PI : ∀ a, a < 11 → ∀ b, b < 11 → a ≠ b → (Tq_PI a).2.1 ≠ (Tq_PI b).2.1 := by decide +kernel
theorem tq_PI_ok : ∀ k, k < 11 → parseFieldDescriptor (Tq_PI k).2.2.1 = some (tq_PI k) := by decide +kernel
def Rq_PL : String := "FrameSwapper$Pile"
def Tq_PL : u_T := fun k => match k with
  | 0 => ("FrameSwapper$Pile", "pictures", "[LFrameSwapper$Picture;", true)
  | 1 => ("FrameSwapper$Pile", "upward", "[I", true)
  | _ => ("FrameSwapper$Pile", "height", "I", false)
def tq_PL : Nat → FieldType := fun k => match k with
  | 0 => .array (.object "FrameSwapper$Picture")
  | 1 => .array .int
  | _ => .int
theorem nq_PL : ∀ a, a < 3 → ∀ b, b < 3 → a ≠ b → (Tq_PL a).2.1 ≠ (Tq_PL b).2.1 := by decide +kernel
theorem tq_PL_ok : ∀ k, k < 3 → parseFieldDescriptor (Tq_PL k).2.2.1 = some (tq_PL k) := by decide +kernel
def Rq_DE : String := "FrameSwapper$Desk"
def Tq_DE : u_T := fun k => match k with
  | 0 => ("FrameSwapper$Desk", "drafts", "[LFrameSwapper$Picture;", true)
  | 1 => ("FrameSwapper$Desk", "committed", "LFrameSwapper$Pile;", true)
  | 2 => ("FrameSwapper$Desk", "clients", "[I", true)
  | 3 => ("FrameSwapper$Desk", "leaving", "[Z", true)
  | 4 => ("FrameSwapper$Desk", "waiting", "[Z", true)
  | 5 => ("FrameSwapper$Desk", "commits", "I", false)
  | _ => ("FrameSwapper$Desk", "freePixels", "I", false)
def tq_DE : Nat → FieldType := fun k => match k with
  | 0 => .array (.object "FrameSwapper$Picture")
  | 1 => .object "FrameSwapper$Pile"
  | 2 => .array .int
  | 3 => .array .boolean
  | 4 => .array .boolean
  | 5 => .int
  | _ => .int
theorem nq_DE : ∀ a, a < 7 → ∀ b, b < 7 → a ≠ b → (Tq_DE a).2.1 ≠ (Tq_DE b).2.1 := by decide +kernel
theorem tq_DE_ok : ∀ k, k < 7 → parseFieldDescriptor (Tq_DE k).2.2.1 = some (tq_DE k) := by decide +kernel
def Rq_MI : String := "FrameSwapper$Misses"
def Tq_MI : u_T := fun k => match k with
  | 0 => ("FrameSwapper$Misses", "list", "[LFrameSwapper$Rectangle;", true)
  | _ => ("FrameSwapper$Misses", "size", "I", false)
def tq_MI : Nat → FieldType := fun k => match k with
  | 0 => .array (.object "FrameSwapper$Rectangle")
  | _ => .int
theorem nq_MI : ∀ a, a < 2 → ∀ b, b < 2 → a ≠ b → (Tq_MI a).2.1 ≠ (Tq_MI b).2.1 := by decide +kernel
theorem tq_MI_ok : ∀ k, k < 2 → parseFieldDescriptor (Tq_MI k).2.2.1 = some (tq_MI k) := by decide +kernel
def Rq_ME : String := "FrameSwapper$Memory"
def Tq_ME : u_T := fun k => match k with
  | 0 => ("FrameSwapper$Memory", "pixels", "[I", true)
  | _ => ("FrameSwapper$Memory", "misses", "LFrameSwapper$Misses;", true)
def tq_ME : Nat → FieldType := fun k => match k with
  | 0 => .array .int
  | _ => .object "FrameSwapper$Misses"
theorem nq_ME : ∀ a, a < 2 → ∀ b, b < 2 → a ≠ b → (Tq_ME a).2.1 ≠ (Tq_ME b).2.1 := by decide +kernel
theorem tq_ME_ok : ∀ k, k < 2 → parseFieldDescriptor (Tq_ME k).2.2.1 = some (tq_ME k) := by decide +kernel
def Rq_PN : String := "FrameSwapper$Planes"
def Tq_PN : u_T := fun k => match k with
  | 0 => ("FrameSwapper$Planes", "numbers", "[I", true)
  | 1 => ("FrameSwapper$Planes", "shown", "[LFrameSwapper$Rectangle;", true)
  | _ => ("FrameSwapper$Planes", "colors", "[[I", true)
def tq_PN : Nat → FieldType := fun k => match k with
  | 0 => .array .int
  | 1 => .array (.object "FrameSwapper$Rectangle")
  | _ => .array (.array .int)
theorem nq_PN : ∀ a, a < 3 → ∀ b, b < 3 → a ≠ b → (Tq_PN a).2.1 ≠ (Tq_PN b).2.1 := by decide +kernel
theorem tq_PN_ok : ∀ k, k < 3 → parseFieldDescriptor (Tq_PN k).2.2.1 = some (tq_PN k) := by decide +kernel
def Rq_CO : String := "FrameSwapper$Composer"
def Tq_CO : u_T := fun k => match k with
  | 0 => ("FrameSwapper$Composer", "taken", "LFrameSwapper$Pile;", true)
  | 1 => ("FrameSwapper$Composer", "chosen", "LFrameSwapper$Planes;", true)
  | 2 => ("FrameSwapper$Composer", "wasInPlane", "[Z", true)
  | 3 => ("FrameSwapper$Composer", "shownBefore", "[LFrameSwapper$Rectangle;", true)
  | 4 => ("FrameSwapper$Composer", "front", "LFrameSwapper$Memory;", false)
  | 5 => ("FrameSwapper$Composer", "back", "LFrameSwapper$Memory;", false)
  | 6 => ("FrameSwapper$Composer", "state", "I", false)
  | 7 => ("FrameSwapper$Composer", "takenCommit", "I", false)
  | 8 => ("FrameSwapper$Composer", "frontCommit", "I", false)
  | 9 => ("FrameSwapper$Composer", "hole", "I", false)
  | _ => ("FrameSwapper$Composer", "level", "I", false)
def tq_CO : Nat → FieldType := fun k => match k with
  | 0 => .object "FrameSwapper$Pile"
  | 1 => .object "FrameSwapper$Planes"
  | 2 => .array .boolean
  | 3 => .array (.object "FrameSwapper$Rectangle")
  | 4 => .object "FrameSwapper$Memory"
  | 5 => .object "FrameSwapper$Memory"
  | 6 => .int
  | 7 => .int
  | 8 => .int
  | 9 => .int
  | _ => .int
theorem nq_CO : ∀ a, a < 11 → ∀ b, b < 11 → a ≠ b → (Tq_CO a).2.1 ≠ (Tq_CO b).2.1 := by decide +kernel
theorem tq_CO_ok : ∀ k, k < 11 → parseFieldDescriptor (Tq_CO k).2.2.1 = some (tq_CO k) := by decide +kernel
def Rq_BE : String := "FrameSwapper$Beam"
def Tq_BE : u_T := fun k => match k with
  | 0 => ("FrameSwapper$Beam", "planes", "LFrameSwapper$Planes;", true)
  | 1 => ("FrameSwapper$Beam", "scanned", "[I", true)
  | 2 => ("FrameSwapper$Beam", "seen", "[I", true)
  | 3 => ("FrameSwapper$Beam", "row", "I", false)
  | 4 => ("FrameSwapper$Beam", "frames", "I", false)
  | _ => ("FrameSwapper$Beam", "seenCommit", "I", false)
def tq_BE : Nat → FieldType := fun k => match k with
  | 0 => .object "FrameSwapper$Planes"
  | 1 => .array .int
  | 2 => .array .int
  | 3 => .int
  | 4 => .int
  | _ => .int
theorem nq_BE : ∀ a, a < 6 → ∀ b, b < 6 → a ≠ b → (Tq_BE a).2.1 ≠ (Tq_BE b).2.1 := by decide +kernel
theorem tq_BE_ok : ∀ k, k < 6 → parseFieldDescriptor (Tq_BE k).2.2.1 = some (tq_BE k) := by decide +kernel
def Rq_MO : String := "FrameSwapperModel"
def Tq_MO : u_T := fun k => match k with
  | 0 => ("FrameSwapperModel", "code", "I", false)
  | 1 => ("FrameSwapperModel", "used", "[Z", true)
  | 2 => ("FrameSwapperModel", "client", "[I", true)
  | 3 => ("FrameSwapperModel", "columns", "[I", true)
  | 4 => ("FrameSwapperModel", "rows", "[I", true)
  | 5 => ("FrameSwapperModel", "destroyed", "[Z", true)
  | 6 => ("FrameSwapperModel", "gone", "[Z", true)
  | 7 => ("FrameSwapperModel", "there", "[Z", true)
  | 8 => ("FrameSwapperModel", "px", "[I", true)
  | 9 => ("FrameSwapperModel", "py", "[I", true)
  | 10 => ("FrameSwapperModel", "order", "[I", true)
  | 11 => ("FrameSwapperModel", "alpha", "[I", true)
  | 12 => ("FrameSwapperModel", "visible", "[Z", true)
  | 13 => ("FrameSwapperModel", "cx", "[I", true)
  | 14 => ("FrameSwapperModel", "cy", "[I", true)
  | 15 => ("FrameSwapperModel", "cw", "[I", true)
  | 16 => ("FrameSwapperModel", "ch", "[I", true)
  | 17 => ("FrameSwapperModel", "pixels", "[I", true)
  | 18 => ("FrameSwapperModel", "copied", "[I", true)
  | 19 => ("FrameSwapperModel", "commits", "I", false)
  | 20 => ("FrameSwapperModel", "taken", "I", false)
  | 21 => ("FrameSwapperModel", "committed", "[Z", true)
  | 22 => ("FrameSwapperModel", "state", "I", false)
  | 23 => ("FrameSwapperModel", "back", "I", false)
  | 24 => ("FrameSwapperModel", "memory", "[I", true)
  | 25 => ("FrameSwapperModel", "misses", "[I", true)
  | 26 => ("FrameSwapperModel", "mx", "[I", true)
  | 27 => ("FrameSwapperModel", "my", "[I", true)
  | 28 => ("FrameSwapperModel", "mw", "[I", true)
  | 29 => ("FrameSwapperModel", "mh", "[I", true)
  | 30 => ("FrameSwapperModel", "planes", "[I", true)
  | 31 => ("FrameSwapperModel", "at", "I", false)
  | 32 => ("FrameSwapperModel", "step", "I", false)
  | 33 => ("FrameSwapperModel", "wasX", "[I", true)
  | 34 => ("FrameSwapperModel", "wasY", "[I", true)
  | 35 => ("FrameSwapperModel", "wasW", "[I", true)
  | 36 => ("FrameSwapperModel", "wasH", "[I", true)
  | 37 => ("FrameSwapperModel", "wasPlane", "[Z", true)
  | 38 => ("FrameSwapperModel", "x", "I", false)
  | 39 => ("FrameSwapperModel", "y", "I", false)
  | 40 => ("FrameSwapperModel", "w", "I", false)
  | 41 => ("FrameSwapperModel", "h", "I", false)
  | 42 => ("FrameSwapperModel", "row", "I", false)
  | 43 => ("FrameSwapperModel", "frames", "I", false)
  | 44 => ("FrameSwapperModel", "set", "I", false)
  | 45 => ("FrameSwapperModel", "shows", "I", false)
  | 46 => ("FrameSwapperModel", "setX", "[I", true)
  | 47 => ("FrameSwapperModel", "setY", "[I", true)
  | 48 => ("FrameSwapperModel", "setW", "[I", true)
  | 49 => ("FrameSwapperModel", "setH", "[I", true)
  | 50 => ("FrameSwapperModel", "setPixels", "[I", true)
  | _ => ("FrameSwapperModel", "seen", "[I", true)
def tq_MO : Nat → FieldType := fun k => match k with
  | 0 => .int
  | 1 => .array .boolean
  | 2 => .array .int
  | 3 => .array .int
  | 4 => .array .int
  | 5 => .array .boolean
  | 6 => .array .boolean
  | 7 => .array .boolean
  | 8 => .array .int
  | 9 => .array .int
  | 10 => .array .int
  | 11 => .array .int
  | 12 => .array .boolean
  | 13 => .array .int
  | 14 => .array .int
  | 15 => .array .int
  | 16 => .array .int
  | 17 => .array .int
  | 18 => .array .int
  | 19 => .int
  | 20 => .int
  | 21 => .array .boolean
  | 22 => .int
  | 23 => .int
  | 24 => .array .int
  | 25 => .array .int
  | 26 => .array .int
  | 27 => .array .int
  | 28 => .array .int
  | 29 => .array .int
  | 30 => .array .int
  | 31 => .int
  | 32 => .int
  | 33 => .array .int
  | 34 => .array .int
  | 35 => .array .int
  | 36 => .array .int
  | 37 => .array .boolean
  | 38 => .int
  | 39 => .int
  | 40 => .int
  | 41 => .int
  | 42 => .int
  | 43 => .int
  | 44 => .int
  | 45 => .int
  | 46 => .array .int
  | 47 => .array .int
  | 48 => .array .int
  | 49 => .array .int
  | 50 => .array .int
  | _ => .array .int
theorem nq_MO : ∀ a, a < 52 → ∀ b, b < 52 → a ≠ b → (Tq_MO a).2.1 ≠ (Tq_MO b).2.1 := by decide +kernel
theorem tq_MO_ok : ∀ k, k < 52 → parseFieldDescriptor (Tq_MO k).2.2.1 = some (tq_MO k) := by decide +kernel
def fx_cl : List vw_C := [(Rq_FS, Tq_FS, 5), (Rq_RE, Tq_RE, 4), (Rq_PI, Tq_PI, 11), (Rq_PL, Tq_PL, 3), (Rq_DE, Tq_DE, 7), (Rq_MI, Tq_MI, 2), (Rq_ME, Tq_ME, 2), (Rq_PN, Tq_PN, 3), (Rq_CO, Tq_CO, 11), (Rq_BE, Tq_BE, 6), (Rq_MO, Tq_MO, 52)]
def fx_fkl : List (List Nat) := [[2, 2, 2, 2, 2], [0, 0, 0, 0], [1, 0, 0, 0, 0, 0, 0, 1, 2, 2, 2], [2, 2, 0], [2, 2, 2, 2, 2, 0, 0], [2, 0], [2, 2], [2, 2, 2], [2, 2, 2, 2, 2, 2, 0, 0, 0, 0, 0], [2, 2, 2, 0, 0, 0], [0, 2, 2, 2, 2, 2, 2, 2, 2, 2, 2, 2, 2, 2, 2, 2, 2, 2, 2, 0, 0, 2, 0, 0, 2, 2, 2, 2, 2, 2, 2, 0, 0, 2, 2, 2, 2, 2, 0, 0, 0, 0, 0, 0, 0, 0, 2, 2, 2, 2, 2, 2]]
/-- what the field k of the class ci holds: an int, a boolean, a reference -/
def fx_fk (ci k : Nat) : Nat := ((fx_fkl[ci]?).getD [])[k]?.getD 0
/-- the kinds of arrays: what they hold -/
def fx_tys : List FieldType := [.int, .boolean, .long, .object "FrameSwapper$Picture", .object "FrameSwapper$Rectangle", .array .int]
/-- words that the narrowing premise holds: statics that throwing reads, classes that are not castable -/
def fx_ex : List Cond := [.isRef (.static "java/lang/Throwable" "UNASSIGNED_STACK" "[Ljava/lang/StackTraceElement;"), .isRef (.static "java/lang/Throwable" "SUPPRESSED_SENTINEL" "Ljava/util/List;"), .not (.castable "java/lang/IllegalStateException" "java/lang/IllegalArgumentException"), .not (.castable "java/lang/IndexOutOfBoundsException" "java/lang/IllegalArgumentException")]
def fx_tb : List Cond := lw_tbl ++ fx_ex
end
section
/-! ===== ints without overflow ===== -/
theorem iz_rg (a : Int32) : -2147483648 ≤ a.toInt ∧ a.toInt < 2147483648 := ⟨Int32.le_toInt a, Int32.toInt_lt a⟩
theorem iz_bm {z : Int} (h : -2147483648 ≤ z ∧ z < 2147483648) : z.bmod (2 ^ 32) = z := by
  exact Int.bmod_eq_of_le (by omega) (by omega)
theorem iz_add {a b : Int32} (h : -2147483648 ≤ a.toInt + b.toInt ∧ a.toInt + b.toInt < 2147483648) : (a + b).toInt = a.toInt + b.toInt := by
  rw [Int32.toInt_add, iz_bm h]
theorem iz_sub {a b : Int32} (h : -2147483648 ≤ a.toInt - b.toInt ∧ a.toInt - b.toInt < 2147483648) : (a - b).toInt = a.toInt - b.toInt := by
  rw [Int32.toInt_sub, iz_bm h]
theorem iz_mul {a b : Int32} (h : -2147483648 ≤ a.toInt * b.toInt ∧ a.toInt * b.toInt < 2147483648) : (a * b).toInt = a.toInt * b.toInt := by
  rw [Int32.toInt_mul, iz_bm h]
theorem iz_eq {a b : Int32} : a = b ↔ a.toInt = b.toInt := ⟨fun h => by rw [h], fun h => Int32.toInt_inj.mp h⟩
theorem iz_lt {a b : Int32} : a < b ↔ a.toInt < b.toInt := Int32.lt_iff_toInt_lt
theorem iz_le {a b : Int32} : a ≤ b ↔ a.toInt ≤ b.toInt := Int32.le_iff_toInt_le
theorem iz_nn {a : Int32} (h : 0 ≤ a.toInt) : (a.toNatClampNeg : Int) = a.toInt := by
  show ((a.toInt.toNat : Nat) : Int) = a.toInt
  omega
theorem iz_in {a : Int32} {n : Nat} (h : 0 ≤ a.toInt) (h2 : a.toInt < n) : vp_in a n := vp_in_iff.mpr ⟨h, h2⟩
/-- the int of a number -/
def iz (z : Int) : Int32 := Int32.ofInt z
theorem iz_ti {z : Int} (h : -2147483648 ≤ z ∧ z < 2147483648) : (iz z).toInt = z := by
  exact Int32.toInt_ofInt_of_le (by omega) (by omega)
end
section
/-! ===== the heap as functions: ints, references, shapes, the next address ===== -/
abbrev fx_H : Type := (Nat → Nat → Int32) × (Nat → Nat → Option Nat) × (Nat → Option (Nat ⊕ (Nat × Nat))) × Nat
def fx_i (h : fx_H) (a k : Nat) : Int32 := h.1 a k
def fx_r (h : fx_H) (a k : Nat) : Option Nat := h.2.1 a k
def fx_s (h : fx_H) (a : Nat) : Option (Nat ⊕ (Nat × Nat)) := h.2.2.1 a
def fx_n (h : fx_H) : Nat := h.2.2.2
def fx_wi (h : fx_H) (a k : Nat) (v : Int32) : fx_H := (fun b j => if b = a ∧ j = k then v else h.1 b j, h.2.1, h.2.2.1, h.2.2.2)
def fx_wr (h : fx_H) (a k : Nat) (v : Option Nat) : fx_H := (h.1, fun b j => if b = a ∧ j = k then v else h.2.1 b j, h.2.2.1, h.2.2.2)
def fx_nw (h : fx_H) (x : Nat ⊕ (Nat × Nat)) : fx_H := (fun b j => if b = h.2.2.2 then 0 else h.1 b j, fun b j => if b = h.2.2.2 then none else h.2.1 b j, fun b => if b = h.2.2.2 then some x else h.2.2.1 b, h.2.2.2 + 1)
def fx_sk (h : fx_H) (n : Nat) : fx_H := (h.1, h.2.1, h.2.2.1, h.2.2.2 + n)
/-- System.arraycopy of ints -/
def fx_cp (h : fx_H) (a b sp dp n : Nat) : fx_H := (fun q j => if q = b then va_cpy (h.1 a) (h.1 b) sp dp n j else h.1 q j, h.2.1, h.2.2.1, h.2.2.2)
theorem fx_i_wi (h : fx_H) (a k b j : Nat) (v : Int32) : fx_i (fx_wi h a k v) b j = if b = a ∧ j = k then v else fx_i h b j := rfl
theorem fx_r_wi (h : fx_H) (a k b j : Nat) (v : Int32) : fx_r (fx_wi h a k v) b j = fx_r h b j := rfl
theorem fx_s_wi (h : fx_H) (a k b : Nat) (v : Int32) : fx_s (fx_wi h a k v) b = fx_s h b := rfl
theorem fx_n_wi (h : fx_H) (a k : Nat) (v : Int32) : fx_n (fx_wi h a k v) = fx_n h := rfl
theorem fx_r_wr (h : fx_H) (a k b j : Nat) (v : Option Nat) : fx_r (fx_wr h a k v) b j = if b = a ∧ j = k then v else fx_r h b j := rfl
theorem fx_i_wr (h : fx_H) (a k b j : Nat) (v : Option Nat) : fx_i (fx_wr h a k v) b j = fx_i h b j := rfl
theorem fx_s_wr (h : fx_H) (a k b : Nat) (v : Option Nat) : fx_s (fx_wr h a k v) b = fx_s h b := rfl
theorem fx_n_wr (h : fx_H) (a k : Nat) (v : Option Nat) : fx_n (fx_wr h a k v) = fx_n h := rfl
theorem fx_i_nw (h : fx_H) (x : Nat ⊕ (Nat × Nat)) (b j : Nat) : fx_i (fx_nw h x) b j = if b = fx_n h then 0 else fx_i h b j := rfl
theorem fx_r_nw (h : fx_H) (x : Nat ⊕ (Nat × Nat)) (b j : Nat) : fx_r (fx_nw h x) b j = if b = fx_n h then none else fx_r h b j := rfl
theorem fx_s_nw (h : fx_H) (x : Nat ⊕ (Nat × Nat)) (b : Nat) : fx_s (fx_nw h x) b = if b = fx_n h then some x else fx_s h b := rfl
theorem fx_n_nw (h : fx_H) (x : Nat ⊕ (Nat × Nat)) : fx_n (fx_nw h x) = fx_n h + 1 := rfl
theorem fx_i_sk (h : fx_H) (n b j : Nat) : fx_i (fx_sk h n) b j = fx_i h b j := rfl
theorem fx_r_sk (h : fx_H) (n b j : Nat) : fx_r (fx_sk h n) b j = fx_r h b j := rfl
theorem fx_s_sk (h : fx_H) (n b : Nat) : fx_s (fx_sk h n) b = fx_s h b := rfl
theorem fx_n_sk (h : fx_H) (n : Nat) : fx_n (fx_sk h n) = fx_n h + n := rfl
theorem fx_i_cp (h : fx_H) (a b sp dp n q j : Nat) : fx_i (fx_cp h a b sp dp n) q j = if q = b then va_cpy (fx_i h a) (fx_i h b) sp dp n j else fx_i h q j := rfl
theorem fx_r_cp (h : fx_H) (a b sp dp n q j : Nat) : fx_r (fx_cp h a b sp dp n) q j = fx_r h q j := rfl
theorem fx_s_cp (h : fx_H) (a b sp dp n q : Nat) : fx_s (fx_cp h a b sp dp n) q = fx_s h q := rfl
theorem fx_n_cp (h : fx_H) (a b sp dp n : Nat) : fx_n (fx_cp h a b sp dp n) = fx_n h := rfl
/-! ===== the fixed point of view: launch, the law's first state and arguments, the classes' numbers and slots, the arrays' classes ===== -/
abbrev fx_G : Type := Launch × State × Array Value × va_G × (Nat → ClassId)
abbrev fx_l (g : fx_G) : Launch := g.1
abbrev fx_s0 (g : fx_G) : State := g.2.1
abbrev fx_a0 (g : fx_G) : Array Value := g.2.2.1
abbrev fx_D (g : fx_G) : va_G := g.2.2.2.1
abbrev fx_dA (g : fx_G) : Nat → ClassId := g.2.2.2.2
abbrev fx_b (g : fx_G) : Nat := g.2.1.heap.size
/-- what a slot of an object holds -/
def fx_v (h : fx_H) (ci a k : Nat) : Value := if fx_fk ci k = 2 then va_rf (fx_r h a k) else .int (fx_i h a k)
def fx_ar (h : fx_H) (a ak : Nat) : (Nat → Int32) ⊕ (Nat → Int64) ⊕ (Nat → UInt32) ⊕ (Nat → UInt64) ⊕ (Nat → Option Nat) := if ak < 2 then .inl (fx_i h a) else if ak = 2 then .inr (.inl (fun j => (fx_i h a j).toInt64)) else .inr (.inr (.inr (.inr (fx_r h a))))
def fx_c (g : fx_G) (h : fx_H) (H : Heap) (a : Nat) (x : Nat ⊕ (Nat × Nat)) : Prop := match x with
  | .inl ci => (∃ r : vw_C, fx_cl[ci]? = some r ∧ t_OB a ((fx_D g).1 ci) r.2.2 ((fx_D g).2 ci) H (fx_v h ci a)) ∧ ∀ k, fx_fk ci k = 1 → fx_i h a k = 0 ∨ fx_i h a k = 1
  | .inr (ak, n) => H[a]? = some (vp_cell (fx_dA g ak) (n, fx_ar h a ak)) ∧ (ak = 1 → ∀ k, fx_i h a k = 0 ∨ fx_i h a k = 1)
/-- the machine's heap H is what h says -/
def fx_R (g : fx_G) (h : fx_H) (H : Heap) : Prop := H.size = fx_n h ∧ fx_b g ≤ fx_n h ∧ (∀ q : Nat, q < fx_b g → H[q]? = (fx_s0 g).heap[q]?) ∧ ∀ (a : Nat) (x : Nat ⊕ (Nat × Nat)), fx_s h a = some x → fx_b g ≤ a ∧ a < fx_n h ∧ fx_c g h H a x
/-- what is given of the start -/
def fx_ok (g : fx_G) : Prop := (fx_l g).stackTraces = false ∧ (∀ w ∈ fx_tb, w.before (fx_a0 g) (fx_s0 g) = true) ∧ (∀ (c : Nat) (q : vw_C), fx_cl[c]? = some q → u_Kn (fx_s0 g) q.1 q.2.1 q.2.2 ((fx_D g).1 c) ((fx_D g).2 c)) ∧ ∀ (ak : Nat) (ty : FieldType), fx_tys[ak]? = some ty → ArrOfT (fx_s0 g) (fx_dA g ak) ty ∧ va_RA (fx_s0 g) (fx_dA g ak) ty
/-- a method: its name, its bytes, its locals, its answer's type, how many frames its calls nest and how many words they take, its table of handlers -/
abbrev fx_M : Type := MethodName × ByteArray × Nat × Option FieldType × (Nat × Nat) × List (Nat × Nat × Nat × Nat)
abbrev fx_y (M : fx_M) : MethodName := M.1
abbrev fx_cc (M : fx_M) : ByteArray := M.2.1
abbrev fx_ml (M : fx_M) : Nat := M.2.2.1
abbrev fx_rt (M : fx_M) : Option FieldType := M.2.2.2.1
abbrev fx_lv (M : fx_M) : Nat := M.2.2.2.2.1.1
abbrev fx_lw (M : fx_M) : Nat := M.2.2.2.2.1.2
abbrev fx_hd (M : fx_M) : List (Nat × Nat × Nat × Nat) := M.2.2.2.2.2
def fx_cw (M : fx_M) : Cond := match fx_hd M with
  | [] => .code (fx_y M) (fx_cc M) (fx_ml M) (fx_rt M)
  | _ :: _ => .codeWith (fx_y M) (fx_cc M) (fx_ml M) (fx_rt M) (fx_hd M)
def fx_rows (c : Code) : List (Nat × Nat × Nat × Nat) := c.exceptionTable.toList.map (fun h => (h.startPc, h.endPc, h.handlerPc, h.catchType))
/-- how a method ends: an int, nothing, or an exception of the class of that name -/
abbrev fx_O : Type := Option Int32 ⊕ String
def fx_oc (U t : State) (o : Outcome) (o' : fx_O) : Prop := match o' with
  | .inl v => o = .returned (v.map Value.int)
  | .inr E => ∃ (q : Addr) (ce : Cell), o = .threw q ∧ t.heap[q]? = some ce ∧ ce.vm = .none ∧ U.vm.findClass E = some ce.cls
def fx_P (g : fx_G) (Q : fx_O → fx_H → Prop) (mc ms : Nat) (U : State) (o : Outcome) (t : State) : Prop :=
  ∃ L : List Loc, U.WarmedH t.vm ∧ U.sameButNew ({ t with vm := U.vm } : State) L mc ms ∧ (∀ z ∈ L, fx_b g ≤ z.base) ∧ ∃ (o' : fx_O) (h' : fx_H), Q o' h' ∧ fx_R g h' t.heap ∧ fx_oc U t o o'
def fx_rm (M : fx_M) (mc ms : Nat) : Room := { frames := fx_lv M, cells := mc, slots := ms, locals := fx_lw M }
/-- a method's contract: from the heap h, with the arguments as, it ends so that Q; at most mc cells of ms slots are new -/
def fx_C (g : fx_G) (M : fx_M) (as : List Value) (h : fx_H) (Q : fx_O → fx_H → Prop) (mc ms : Nat) : Prop :=
  MetFree (fx_l g) (fx_y M) (headSpec [fx_cw M] (fx_rm M mc ms)) (fun a U => a = as.toArray ∧ (fx_s0 g).WarmedH U.vm ∧ fx_R g h U.heap) (fun _ _ _ _ _ => True) (fun _ U o t => fx_P g Q mc ms U o t)
/-- what holds of a frame of the method M -/
def fx_F (g : fx_G) (M : fx_M) (p : Program) (R : Room) (s : State) (m : MethodId) (meth : Method) (c : Code) : Prop :=
  p.tables.exec = Jvm.exec ∧ c.code = fx_cc M ∧ c.maxLocals = fx_ml M ∧ meth.sig.returnType = fx_rt M ∧ meth.locks = false ∧ (fx_s0 g).WarmedH s.vm ∧ s.vm.findClass (fx_y M).cls = some m.cls ∧ meth.name = (fx_y M).name ∧ fx_rows c = fx_hd M ∧ fx_lv M ≤ R.frames ∧ fx_lw M ≤ R.locals
def fx_E (g : fx_G) (Q : fx_O → fx_H → Prop) (R : Room) (s : State) (below : List Frame) : State → Prop := fun t => ∃ o, t.status = .running ∧ Ended t below o ∧ fx_P g Q R.cells R.slots s o t
/-- the method M stands at pc with locals lv, stack st, heap h, and may still make mc cells of ms slots: it comes to its end with Q -/
def fx_X (g : fx_G) (M : fx_M) (pc : Nat) (lv : List (Nat × Value)) (st : List Value) (h : fx_H) (Q : fx_O → fx_H → Prop) (mc ms : Nat) : Prop :=
  ∀ (p : Program) (e : Env) (R : Room) (s : State) (m : MethodId) (args : Array Value) (below : List Frame) (meth : Method) (c : Code), fx_F g M p R s m meth c →
  ∀ (H : Heap) (locs : List Loc) (cells slots : Nat) (ls : Array Slot), fx_R g h H → (∀ z ∈ locs, fx_b g ≤ z.base) → cells + mc ≤ R.cells → slots + ms ≤ R.slots → lv_has ls (fx_ml M) lv →
  W p (fx_l g) e R s m args below meth c H locs cells slots (fx_E g Q R s below) (F0 m pc ls st)
/-! ===== words ===== -/
theorem fx_word {g : fx_G} (ok : fx_ok g) {w : Cond} (hw : w ∈ fx_tb) (hg : goodWord w = true) {args : Array Value} {s : State} (hW : (fx_s0 g).WarmedH s.vm) : w.before args s = true := word_at hW (good_of_word hg) (ok.2.1 w hw)
theorem fx_Kn {g : fx_G} (ok : fx_ok g) {s : State} (hW : (fx_s0 g).WarmedH s.vm) {ci : Nat} {q : vw_C} (hq : fx_cl[ci]? = some q) : u_Kn s q.1 q.2.1 q.2.2 ((fx_D g).1 ci) ((fx_D g).2 ci) := u_Kn_moved hW.alike (ok.2.2.1 ci q hq)
theorem fx_Ty {g : fx_G} (ok : fx_ok g) {s : State} (hW : (fx_s0 g).WarmedH s.vm) {ak : Nat} {ty : FieldType} (hq : fx_tys[ak]? = some ty) : ArrOfT s (fx_dA g ak) ty ∧ va_RA s (fx_dA g ak) ty := ⟨arrOfT_moved hW.alike (ok.2.2.2 ak ty hq).1, (ok.2.2.2 ak ty hq).2.moved hW.alike⟩
theorem fx_lay {C : String} {T : u_T} {N : Nat} {w : Cond} (h : w ∈ u_ws C T N) : goodWord w = true := by
  obtain ⟨k, -, rfl⟩ := List.mem_map.mp h
  unfold u_lay
  split <;> rfl
theorem fx_cw_spec {M : fx_M} {s : State} {args : Array Value} {m : MethodId} (hn : s.methodNamed? (fx_y M) = some m) (h : (fx_cw M).before args s = true) :
    ∃ meth c, s.vm.method? m = some meth ∧ meth.code = some c ∧ c.code = fx_cc M ∧ c.maxLocals = fx_ml M ∧ meth.sig.returnType = fx_rt M ∧ meth.locks = false ∧ fx_rows c = fx_hd M ∧ parseMethodDescriptor (fx_y M).desc = some meth.sig := by
  obtain ⟨y, cc, ml, rt, lev, hd⟩ := M
  cases hd with
  | nil =>
    obtain ⟨meth, c, h1, h2, h3, h4, h5, h6, h7, h8⟩ := Cond.code_spec hn (show (Cond.code y cc ml rt).before args s = true from h)
    refine ⟨meth, c, h1, h2, h3, h4, h5, h6, ?_, h8⟩
    have h9 : c.exceptionTable = #[] := Array.isEmpty_iff.mp h7
    show fx_rows c = []
    rw [fx_rows, h9]
    rfl
  | cons a l =>
    have h' : (Cond.codeWith y cc ml rt (a :: l)).before args s = true := h
    have hn' : s.methodNamed? y = some m := hn
    simp only [Cond.before, Cond.holds, Cond.value, hn', Option.bind_some] at h'
    cases hm : s.vm.method? m with
    | none => simp [hm] at h'
    | some meth =>
      simp only [hm, Option.map_some, beq_iff_eq, Option.some.injEq, Bool.and_eq_true, decide_eq_true_eq, Bool.not_eq_true'] at h'
      obtain ⟨⟨⟨hc, hr⟩, hl⟩, hsig⟩ := h'
      cases hcode : meth.code with
      | none => simp [hcode] at hc
      | some c =>
        simp only [hcode, Option.any_some, Bool.and_eq_true, decide_eq_true_eq, beq_iff_eq] at hc
        exact ⟨meth, c, rfl, hcode, hc.1.1.1, hc.1.1.2, hr, hl, hc.1.2, hsig⟩
/-! ===== a contract out of a walk ===== -/
theorem fx_body {g : fx_G} {M : fx_M} {as : List Value} {h : fx_H} {Q : fx_O → fx_H → Prop} {mc ms : Nat} (hp : plainName (fx_y M).cls = true) (ha : (lg_sl as).length ≤ fx_ml M)
    (k : fx_X g M 0 (lv_args 0 as) [] h Q mc ms) : fx_C g M as h Q mc ms := by
  refine MetFree.of_bodyS (code := fx_cc M) (maxLocals := fx_ml M) (ret := fx_rt M) hp ?_ ?_
  · intro args s m hpre hn
    have hw : (fx_cw M).before args s = true := atoms_spec (ws := [fx_cw M]) hpre _ List.mem_cons_self
    obtain ⟨meth, c, h1, h2, h3, h4, h5, h6, -, -⟩ := fx_cw_spec hn hw
    exact ⟨meth, c, h1, h2, h3, h4, h5, h6⟩
  · intro p e s m args below meth c s₁ B hml hP _
    obtain ⟨rfl, hW, hR⟩ := hP
    have X := Stand.of_body B
    have hw : (fx_cw M).before as.toArray s = true := atoms_spec (ws := [fx_cw M]) B.pre _ List.mem_cons_self
    obtain ⟨meth', c', h1, h2, -, -, -, -, h7, -⟩ := fx_cw_spec B.named hw
    cases h1.symm.trans B.method
    cases h2.symm.trans X.code
    have hh0 : s₁.heap = s.heap := by rw [B.state]; rfl
    have hl := lv_entry as ha
    have F : fx_F g M p (headSpec [fx_cw M] (fx_rm M mc ms)).room s m meth c :=
      ⟨B.exec, B.bytes, hml, B.returns, B.notSynchronized, hW, findClass_of_methodNamed B.named, (name_of_methodNamed B.named B.method).1, h7, Nat.le_refl _, Nat.le_refl _⟩
    obtain ⟨t, st, o, hrun, hend, hpost⟩ := k p e _ s m as.toArray below meth c F s.heap [] 0 0 _ hR (fun z hz => nomatch hz) (by rw [Nat.zero_add]; exact Nat.le_refl _) (by rw [Nat.zero_add]; exact Nat.le_refl _) hl s₁ hh0 X
    rw [← lg_entry_eq] at st
    exact ⟨t, o, st, hrun, hend, hpost⟩
theorem fx_C_mono {g : fx_G} {M : fx_M} {as : List Value} {h : fx_H} {Q Q' : fx_O → fx_H → Prop} {mc ms : Nat} (hC : fx_C g M as h Q mc ms) (hq : ∀ o k, Q o k → Q' o k) : fx_C g M as h Q' mc ms := by
  intro p e a1 a2 a3 s m args below a4 a5 a6 a7
  obtain ⟨n, o, b1, b2, b3, L, c1, c2, c3, o', h', c4, c5⟩ := hC p e a1 a2 a3 s m args below a4 a5 a6 a7
  exact ⟨n, o, b1, b2, b3, L, c1, c2, c3, o', h', hq _ _ c4, c5⟩
theorem fx_X_mono {g : fx_G} {M : fx_M} {pc : Nat} {lv : List (Nat × Value)} {st : List Value} {h : fx_H} {Q Q' : fx_O → fx_H → Prop} {mc ms : Nat} (hC : fx_X g M pc lv st h Q mc ms) (hq : ∀ o k, Q o k → Q' o k) : fx_X g M pc lv st h Q' mc ms := by
  intro p e R s m args below meth c F H locs cells slots ls hR hL hc hs hl T hT X
  obtain ⟨t, st, o, b2, b3, L, c1, c2, c3, o', h', c4, c5⟩ := hC p e R s m args below meth c F H locs cells slots ls hR hL hc hs hl T hT X
  exact ⟨t, st, o, b2, b3, L, c1, c2, c3, o', h', hq _ _ c4, c5⟩
end
section
/-! ===== locals, stack, arithmetic, branches ===== -/
def fx_st (i : Nat) (v : Value) (lv : List (Nat × Value)) : List (Nat × Value) := (i, v) :: lv.filter (fun q => !(q.1 == i) && !(q.1 + 1 == i && q.2.category == 2))
theorem fx_iconst {g : fx_G} {M : fx_M} {pc : Nat} {lv : List (Nat × Value)} {st : List Value} {h : fx_H} {Q : fx_O → fx_H → Prop} {mc ms : Nat} {n : Int} {v : Int32} (d : decode (fx_cc M) pc = .ok (.iconst n, 1)) (hv : Int32.ofInt n = v)
    (K : fx_X g M (pc + 1) lv (.int v :: st) h Q mc ms) : fx_X g M pc lv (st) h Q mc ms := by
  intro p e R s m args below meth c F H locs cells slots ls hR hL hc hs hl
  exact lv_iconst F.1 F.2.1 d hv (K p e R s m args below meth c F H locs cells slots ls hR hL hc hs hl)
theorem fx_bipush {g : fx_G} {M : fx_M} {pc : Nat} {lv : List (Nat × Value)} {st : List Value} {h : fx_H} {Q : fx_O → fx_H → Prop} {mc ms : Nat} {n : Int} {v : Int32} (d : decode (fx_cc M) pc = .ok (.bipush n, 2)) (hv : (Int8.ofInt n).toInt32 = v)
    (K : fx_X g M (pc + 2) lv (.int v :: st) h Q mc ms) : fx_X g M pc lv (st) h Q mc ms := by
  intro p e R s m args below meth c F H locs cells slots ls hR hL hc hs hl
  exact lv_bipush F.1 F.2.1 d hv (K p e R s m args below meth c F H locs cells slots ls hR hL hc hs hl)
theorem fx_sipush {g : fx_G} {M : fx_M} {pc : Nat} {lv : List (Nat × Value)} {st : List Value} {h : fx_H} {Q : fx_O → fx_H → Prop} {mc ms : Nat} {n : Int} {v : Int32} (d : decode (fx_cc M) pc = .ok (.sipush n, 3)) (hv : (Int16.ofInt n).toInt32 = v)
    (K : fx_X g M (pc + 3) lv (.int v :: st) h Q mc ms) : fx_X g M pc lv (st) h Q mc ms := by
  intro p e R s m args below meth c F H locs cells slots ls hR hL hc hs hl
  exact lv_sipush F.1 F.2.1 d hv (K p e R s m args below meth c F H locs cells slots ls hR hL hc hs hl)
theorem fx_iload_n {g : fx_G} {M : fx_M} {pc : Nat} {lv : List (Nat × Value)} {st : List Value} {h : fx_H} {Q : fx_O → fx_H → Prop} {mc ms : Nat} {j : Fin 4} {i : Nat} {x : Int32} (k : Nat) (d : decode (fx_cc M) pc = .ok (.iload_n j, 1)) (hi : (j : Nat) = i) (hk : lv[k]? = some (i, .int x))
    (K : fx_X g M (pc + 1) lv (.int x :: st) h Q mc ms) : fx_X g M pc lv (st) h Q mc ms := by
  intro p e R s m args below meth c F H locs cells slots ls hR hL hc hs hl
  exact lv_iload_n F.1 F.2.1 d hi (lv_at hl k hk) (K p e R s m args below meth c F H locs cells slots ls hR hL hc hs hl)
theorem fx_iload {g : fx_G} {M : fx_M} {pc : Nat} {lv : List (Nat × Value)} {st : List Value} {h : fx_H} {Q : fx_O → fx_H → Prop} {mc ms : Nat} {i : Nat} {x : Int32} (k : Nat) (d : decode (fx_cc M) pc = .ok (.iload i, 2)) (hk : lv[k]? = some (i, .int x))
    (K : fx_X g M (pc + 2) lv (.int x :: st) h Q mc ms) : fx_X g M pc lv (st) h Q mc ms := by
  intro p e R s m args below meth c F H locs cells slots ls hR hL hc hs hl
  exact lv_iload F.1 F.2.1 d (lv_at hl k hk) (K p e R s m args below meth c F H locs cells slots ls hR hL hc hs hl)
theorem fx_istore_n {g : fx_G} {M : fx_M} {pc : Nat} {lv : List (Nat × Value)} {st : List Value} {h : fx_H} {Q : fx_O → fx_H → Prop} {mc ms : Nat} {j : Fin 4} {i : Nat} {x : Int32} {lv' : List (Nat × Value)} (d : decode (fx_cc M) pc = .ok (.istore_n j, 1)) (hi : (j : Nat) = i) (hn : i < fx_ml M) (hv : fx_st i (Value.int x) lv = lv')
    (K : fx_X g M (pc + 1) lv' st h Q mc ms) : fx_X g M pc lv (.int x :: st) h Q mc ms := by
  intro p e R s m args below meth c F H locs cells slots ls hR hL hc hs hl
  exact lv_istore_n F.1 F.2.1 d hi hl hn hv (fun ls' hl' => (K p e R s m args below meth c F H locs cells slots ls' hR hL hc hs hl'))
theorem fx_istore {g : fx_G} {M : fx_M} {pc : Nat} {lv : List (Nat × Value)} {st : List Value} {h : fx_H} {Q : fx_O → fx_H → Prop} {mc ms : Nat} {i : Nat} {x : Int32} {lv' : List (Nat × Value)} (d : decode (fx_cc M) pc = .ok (.istore i, 2)) (hn : i < fx_ml M) (hv : fx_st i (Value.int x) lv = lv')
    (K : fx_X g M (pc + 2) lv' st h Q mc ms) : fx_X g M pc lv (.int x :: st) h Q mc ms := by
  intro p e R s m args below meth c F H locs cells slots ls hR hL hc hs hl
  exact lv_istore F.1 F.2.1 d hl hn hv (fun ls' hl' => (K p e R s m args below meth c F H locs cells slots ls' hR hL hc hs hl'))
theorem fx_aload_n {g : fx_G} {M : fx_M} {pc : Nat} {lv : List (Nat × Value)} {st : List Value} {h : fx_H} {Q : fx_O → fx_H → Prop} {mc ms : Nat} {j : Fin 4} {i : Nat} {x : Nat} (k : Nat) (d : decode (fx_cc M) pc = .ok (.aload_n j, 1)) (hi : (j : Nat) = i) (hk : lv[k]? = some (i, .ref x))
    (K : fx_X g M (pc + 1) lv (.ref x :: st) h Q mc ms) : fx_X g M pc lv (st) h Q mc ms := by
  intro p e R s m args below meth c F H locs cells slots ls hR hL hc hs hl
  exact lv_aload_n F.1 F.2.1 d hi (lv_at hl k hk) (K p e R s m args below meth c F H locs cells slots ls hR hL hc hs hl)
theorem fx_aload {g : fx_G} {M : fx_M} {pc : Nat} {lv : List (Nat × Value)} {st : List Value} {h : fx_H} {Q : fx_O → fx_H → Prop} {mc ms : Nat} {i : Nat} {x : Nat} (k : Nat) (d : decode (fx_cc M) pc = .ok (.aload i, 2)) (hk : lv[k]? = some (i, .ref x))
    (K : fx_X g M (pc + 2) lv (.ref x :: st) h Q mc ms) : fx_X g M pc lv (st) h Q mc ms := by
  intro p e R s m args below meth c F H locs cells slots ls hR hL hc hs hl
  exact lv_aload F.1 F.2.1 d (lv_at hl k hk) (K p e R s m args below meth c F H locs cells slots ls hR hL hc hs hl)
theorem fx_astore_n {g : fx_G} {M : fx_M} {pc : Nat} {lv : List (Nat × Value)} {st : List Value} {h : fx_H} {Q : fx_O → fx_H → Prop} {mc ms : Nat} {j : Fin 4} {i : Nat} {x : Nat} {lv' : List (Nat × Value)} (d : decode (fx_cc M) pc = .ok (.astore_n j, 1)) (hi : (j : Nat) = i) (hn : i < fx_ml M) (hv : fx_st i (Value.ref x) lv = lv')
    (K : fx_X g M (pc + 1) lv' st h Q mc ms) : fx_X g M pc lv (.ref x :: st) h Q mc ms := by
  intro p e R s m args below meth c F H locs cells slots ls hR hL hc hs hl
  exact lv_astore_n F.1 F.2.1 d hi hl hn hv (fun ls' hl' => (K p e R s m args below meth c F H locs cells slots ls' hR hL hc hs hl'))
theorem fx_astore {g : fx_G} {M : fx_M} {pc : Nat} {lv : List (Nat × Value)} {st : List Value} {h : fx_H} {Q : fx_O → fx_H → Prop} {mc ms : Nat} {i : Nat} {x : Nat} {lv' : List (Nat × Value)} (d : decode (fx_cc M) pc = .ok (.astore i, 2)) (hn : i < fx_ml M) (hv : fx_st i (Value.ref x) lv = lv')
    (K : fx_X g M (pc + 2) lv' st h Q mc ms) : fx_X g M pc lv (.ref x :: st) h Q mc ms := by
  intro p e R s m args below meth c F H locs cells slots ls hR hL hc hs hl
  exact lv_astore F.1 F.2.1 d hl hn hv (fun ls' hl' => (K p e R s m args below meth c F H locs cells slots ls' hR hL hc hs hl'))
theorem fx_iinc {g : fx_G} {M : fx_M} {pc : Nat} {lv : List (Nat × Value)} {st : List Value} {h : fx_H} {Q : fx_O → fx_H → Prop} {mc ms : Nat} {i : Nat} {n : Int} {x v : Int32} {lv' : List (Nat × Value)} (k : Nat) (d : decode (fx_cc M) pc = .ok (.iinc i n, 3)) (hk : lv[k]? = some (i, .int x)) (hx : x + Int32.ofInt n = v) (hn : i < fx_ml M) (hv : fx_st i (Value.int v) lv = lv')
    (K : fx_X g M (pc + 3) lv' st h Q mc ms) : fx_X g M pc lv st h Q mc ms := by
  intro p e R s m args below meth c F H locs cells slots ls hR hL hc hs hl
  exact lv_iinc F.1 F.2.1 d hl hk hx hn hv (fun ls' hl' => (K p e R s m args below meth c F H locs cells slots ls' hR hL hc hs hl'))
theorem fx_iadd {g : fx_G} {M : fx_M} {pc : Nat} {lv : List (Nat × Value)} {st : List Value} {h : fx_H} {Q : fx_O → fx_H → Prop} {mc ms : Nat} {x y : Int32} (d : decode (fx_cc M) pc = .ok (.iadd, 1))
    (K : fx_X g M (pc + 1) lv (.int (x + y) :: st) h Q mc ms) : fx_X g M pc lv (.int y :: .int x :: st) h Q mc ms := by
  intro p e R s m args below meth c F H locs cells slots ls hR hL hc hs hl
  exact lv_iadd F.1 F.2.1 d (K p e R s m args below meth c F H locs cells slots ls hR hL hc hs hl)
theorem fx_isub {g : fx_G} {M : fx_M} {pc : Nat} {lv : List (Nat × Value)} {st : List Value} {h : fx_H} {Q : fx_O → fx_H → Prop} {mc ms : Nat} {x y : Int32} (d : decode (fx_cc M) pc = .ok (.isub, 1))
    (K : fx_X g M (pc + 1) lv (.int (x - y) :: st) h Q mc ms) : fx_X g M pc lv (.int y :: .int x :: st) h Q mc ms := by
  intro p e R s m args below meth c F H locs cells slots ls hR hL hc hs hl
  exact lv_isub F.1 F.2.1 d (K p e R s m args below meth c F H locs cells slots ls hR hL hc hs hl)
theorem fx_imul {g : fx_G} {M : fx_M} {pc : Nat} {lv : List (Nat × Value)} {st : List Value} {h : fx_H} {Q : fx_O → fx_H → Prop} {mc ms : Nat} {x y : Int32} (d : decode (fx_cc M) pc = .ok (.imul, 1))
    (K : fx_X g M (pc + 1) lv (.int (x * y) :: st) h Q mc ms) : fx_X g M pc lv (.int y :: .int x :: st) h Q mc ms := by
  intro p e R s m args below meth c F H locs cells slots ls hR hL hc hs hl
  exact lv_imul F.1 F.2.1 d (K p e R s m args below meth c F H locs cells slots ls hR hL hc hs hl)
theorem fx_iand {g : fx_G} {M : fx_M} {pc : Nat} {lv : List (Nat × Value)} {st : List Value} {h : fx_H} {Q : fx_O → fx_H → Prop} {mc ms : Nat} {x y : Int32} (d : decode (fx_cc M) pc = .ok (.iand, 1))
    (K : fx_X g M (pc + 1) lv (.int (x &&& y) :: st) h Q mc ms) : fx_X g M pc lv (.int y :: .int x :: st) h Q mc ms := by
  intro p e R s m args below meth c F H locs cells slots ls hR hL hc hs hl
  exact lv_iand F.1 F.2.1 d (K p e R s m args below meth c F H locs cells slots ls hR hL hc hs hl)
theorem fx_ior {g : fx_G} {M : fx_M} {pc : Nat} {lv : List (Nat × Value)} {st : List Value} {h : fx_H} {Q : fx_O → fx_H → Prop} {mc ms : Nat} {x y : Int32} (d : decode (fx_cc M) pc = .ok (.ior, 1))
    (K : fx_X g M (pc + 1) lv (.int (x ||| y) :: st) h Q mc ms) : fx_X g M pc lv (.int y :: .int x :: st) h Q mc ms := by
  intro p e R s m args below meth c F H locs cells slots ls hR hL hc hs hl
  exact lv_ior F.1 F.2.1 d (K p e R s m args below meth c F H locs cells slots ls hR hL hc hs hl)
theorem fx_ishl {g : fx_G} {M : fx_M} {pc : Nat} {lv : List (Nat × Value)} {st : List Value} {h : fx_H} {Q : fx_O → fx_H → Prop} {mc ms : Nat} {x y : Int32} (d : decode (fx_cc M) pc = .ok (.ishl, 1))
    (K : fx_X g M (pc + 1) lv (.int (x <<< (y &&& 31)) :: st) h Q mc ms) : fx_X g M pc lv (.int y :: .int x :: st) h Q mc ms := by
  intro p e R s m args below meth c F H locs cells slots ls hR hL hc hs hl
  exact lv_ishl F.1 F.2.1 d (K p e R s m args below meth c F H locs cells slots ls hR hL hc hs hl)
theorem fx_ishr {g : fx_G} {M : fx_M} {pc : Nat} {lv : List (Nat × Value)} {st : List Value} {h : fx_H} {Q : fx_O → fx_H → Prop} {mc ms : Nat} {x y : Int32} (d : decode (fx_cc M) pc = .ok (.ishr, 1))
    (K : fx_X g M (pc + 1) lv (.int (x >>> (y &&& 31)) :: st) h Q mc ms) : fx_X g M pc lv (.int y :: .int x :: st) h Q mc ms := by
  intro p e R s m args below meth c F H locs cells slots ls hR hL hc hs hl
  exact lv_ishr F.1 F.2.1 d (K p e R s m args below meth c F H locs cells slots ls hR hL hc hs hl)
theorem fx_idiv {g : fx_G} {M : fx_M} {pc : Nat} {lv : List (Nat × Value)} {st : List Value} {h : fx_H} {Q : fx_O → fx_H → Prop} {mc ms : Nat} {x y : Int32} (d : decode (fx_cc M) pc = .ok (.idiv, 1)) (hne : ¬ y = 0)
    (K : fx_X g M (pc + 1) lv (.int (x / y) :: st) h Q mc ms) : fx_X g M pc lv (.int y :: .int x :: st) h Q mc ms := by
  intro p e R s m args below meth c F H locs cells slots ls hR hL hc hs hl
  exact lv_idiv F.1 F.2.1 d hne (K p e R s m args below meth c F H locs cells slots ls hR hL hc hs hl)
theorem fx_irem {g : fx_G} {M : fx_M} {pc : Nat} {lv : List (Nat × Value)} {st : List Value} {h : fx_H} {Q : fx_O → fx_H → Prop} {mc ms : Nat} {x y : Int32} (d : decode (fx_cc M) pc = .ok (.irem, 1)) (hne : ¬ y = 0)
    (K : fx_X g M (pc + 1) lv (.int (x - x / y * y) :: st) h Q mc ms) : fx_X g M pc lv (.int y :: .int x :: st) h Q mc ms := by
  intro p e R s m args below meth c F H locs cells slots ls hR hL hc hs hl
  exact lv_irem F.1 F.2.1 d hne (K p e R s m args below meth c F H locs cells slots ls hR hL hc hs hl)
theorem fx_i2l {g : fx_G} {M : fx_M} {pc : Nat} {lv : List (Nat × Value)} {st : List Value} {h : fx_H} {Q : fx_O → fx_H → Prop} {mc ms : Nat} {x : Int32} (d : decode (fx_cc M) pc = .ok (.i2l, 1))
    (K : fx_X g M (pc + 1) lv (.long x.toInt64 :: st) h Q mc ms) : fx_X g M pc lv (.int x :: st) h Q mc ms := by
  intro p e R s m args below meth c F H locs cells slots ls hR hL hc hs hl
  exact lv_i2l F.1 F.2.1 d rfl (K p e R s m args below meth c F H locs cells slots ls hR hL hc hs hl)
theorem fx_dup {g : fx_G} {M : fx_M} {pc : Nat} {lv : List (Nat × Value)} {st : List Value} {h : fx_H} {Q : fx_O → fx_H → Prop} {mc ms : Nat} {a : Value} (d : decode (fx_cc M) pc = .ok (.dup, 1)) (ha : a.category = 1)
    (K : fx_X g M (pc + 1) lv (a :: a :: st) h Q mc ms) : fx_X g M pc lv (a :: st) h Q mc ms := by
  intro p e R s m args below meth c F H locs cells slots ls hR hL hc hs hl
  exact lv_dup F.1 F.2.1 d ha (K p e R s m args below meth c F H locs cells slots ls hR hL hc hs hl)
theorem fx_pop {g : fx_G} {M : fx_M} {pc : Nat} {lv : List (Nat × Value)} {st : List Value} {h : fx_H} {Q : fx_O → fx_H → Prop} {mc ms : Nat} {a : Value} (d : decode (fx_cc M) pc = .ok (.pop, 1)) (ha : a.category = 1)
    (K : fx_X g M (pc + 1) lv (st) h Q mc ms) : fx_X g M pc lv (a :: st) h Q mc ms := by
  intro p e R s m args below meth c F H locs cells slots ls hR hL hc hs hl
  exact lv_pop F.1 F.2.1 d ha (K p e R s m args below meth c F H locs cells slots ls hR hL hc hs hl)
theorem fx_dup_x1 {g : fx_G} {M : fx_M} {pc : Nat} {lv : List (Nat × Value)} {st : List Value} {h : fx_H} {Q : fx_O → fx_H → Prop} {mc ms : Nat} {a b : Value} (d : decode (fx_cc M) pc = .ok (.dup_x1, 1)) (ha : a.category = 1) (hb : b.category = 1)
    (K : fx_X g M (pc + 1) lv (a :: b :: a :: st) h Q mc ms) : fx_X g M pc lv (a :: b :: st) h Q mc ms := by
  intro p e R s m args below meth c F H locs cells slots ls hR hL hc hs hl
  exact lv_dup_x1 F.1 F.2.1 d ha hb (K p e R s m args below meth c F H locs cells slots ls hR hL hc hs hl)
theorem fx_dup_x2 {g : fx_G} {M : fx_M} {pc : Nat} {lv : List (Nat × Value)} {st : List Value} {h : fx_H} {Q : fx_O → fx_H → Prop} {mc ms : Nat} {a b e : Value} (d : decode (fx_cc M) pc = .ok (.dup_x2, 1)) (ha : a.category = 1) (hb : b.category = 1) (he : e.category = 1)
    (K : fx_X g M (pc + 1) lv (a :: b :: e :: a :: st) h Q mc ms) : fx_X g M pc lv (a :: b :: e :: st) h Q mc ms := by
  intro p e R s m args below meth c F H locs cells slots ls hR hL hc hs hl
  exact lv_dup_x2 F.1 F.2.1 d ha hb he (K p e R s m args below meth c F H locs cells slots ls hR hL hc hs hl)
theorem fx_dup2 {g : fx_G} {M : fx_M} {pc : Nat} {lv : List (Nat × Value)} {st : List Value} {h : fx_H} {Q : fx_O → fx_H → Prop} {mc ms : Nat} {a b : Value} (d : decode (fx_cc M) pc = .ok (.dup2, 1)) (ha : a.category = 1) (hb : b.category = 1)
    (K : fx_X g M (pc + 1) lv (a :: b :: a :: b :: st) h Q mc ms) : fx_X g M pc lv (a :: b :: st) h Q mc ms := by
  intro p e R s m args below meth c F H locs cells slots ls hR hL hc hs hl
  exact lv_dup2_11 F.1 F.2.1 d ha hb (K p e R s m args below meth c F H locs cells slots ls hR hL hc hs hl)
theorem fx_if_eq {g : fx_G} {M : fx_M} {pc : Nat} {lv : List (Nat × Value)} {st : List Value} {h : fx_H} {Q : fx_O → fx_H → Prop} {mc ms : Nat} {x : Int32} {off : Int} {tgt : Nat} (d : decode (fx_cc M) pc = .ok (.ifCond .eq off, 3)) (ht : (pc : Int) + off = (tgt : Int))
    (Kt : x = 0 → fx_X g M tgt lv st h Q mc ms) (Kf : ¬ x = 0 → fx_X g M (pc + 3) lv st h Q mc ms) : fx_X g M pc lv (.int x :: st) h Q mc ms := by
  intro p e R s m args below meth c F H locs cells slots ls hR hL hc hs hl
  exact lv_if_eq F.1 F.2.1 d ht (fun hcc => Kt hcc p e R s m args below meth c F H locs cells slots ls hR hL hc hs hl) (fun hcc => Kf hcc p e R s m args below meth c F H locs cells slots ls hR hL hc hs hl)
theorem fx_icmp_eq {g : fx_G} {M : fx_M} {pc : Nat} {lv : List (Nat × Value)} {st : List Value} {h : fx_H} {Q : fx_O → fx_H → Prop} {mc ms : Nat} {x y : Int32} {off : Int} {tgt : Nat} (d : decode (fx_cc M) pc = .ok (.if_icmp .eq off, 3)) (ht : (pc : Int) + off = (tgt : Int))
    (Kt : x = y → fx_X g M tgt lv st h Q mc ms) (Kf : ¬ x = y → fx_X g M (pc + 3) lv st h Q mc ms) : fx_X g M pc lv (.int y :: .int x :: st) h Q mc ms := by
  intro p e R s m args below meth c F H locs cells slots ls hR hL hc hs hl
  exact lv_icmp_eq F.1 F.2.1 d ht (fun hcc => Kt hcc p e R s m args below meth c F H locs cells slots ls hR hL hc hs hl) (fun hcc => Kf hcc p e R s m args below meth c F H locs cells slots ls hR hL hc hs hl)
theorem fx_if_ne {g : fx_G} {M : fx_M} {pc : Nat} {lv : List (Nat × Value)} {st : List Value} {h : fx_H} {Q : fx_O → fx_H → Prop} {mc ms : Nat} {x : Int32} {off : Int} {tgt : Nat} (d : decode (fx_cc M) pc = .ok (.ifCond .ne off, 3)) (ht : (pc : Int) + off = (tgt : Int))
    (Kt : ¬ x = 0 → fx_X g M tgt lv st h Q mc ms) (Kf : x = 0 → fx_X g M (pc + 3) lv st h Q mc ms) : fx_X g M pc lv (.int x :: st) h Q mc ms := by
  intro p e R s m args below meth c F H locs cells slots ls hR hL hc hs hl
  exact lv_if_ne F.1 F.2.1 d ht (fun hcc => Kt hcc p e R s m args below meth c F H locs cells slots ls hR hL hc hs hl) (fun hcc => Kf hcc p e R s m args below meth c F H locs cells slots ls hR hL hc hs hl)
theorem fx_icmp_ne {g : fx_G} {M : fx_M} {pc : Nat} {lv : List (Nat × Value)} {st : List Value} {h : fx_H} {Q : fx_O → fx_H → Prop} {mc ms : Nat} {x y : Int32} {off : Int} {tgt : Nat} (d : decode (fx_cc M) pc = .ok (.if_icmp .ne off, 3)) (ht : (pc : Int) + off = (tgt : Int))
    (Kt : ¬ x = y → fx_X g M tgt lv st h Q mc ms) (Kf : x = y → fx_X g M (pc + 3) lv st h Q mc ms) : fx_X g M pc lv (.int y :: .int x :: st) h Q mc ms := by
  intro p e R s m args below meth c F H locs cells slots ls hR hL hc hs hl
  exact lv_icmp_ne F.1 F.2.1 d ht (fun hcc => Kt hcc p e R s m args below meth c F H locs cells slots ls hR hL hc hs hl) (fun hcc => Kf hcc p e R s m args below meth c F H locs cells slots ls hR hL hc hs hl)
theorem fx_if_lt {g : fx_G} {M : fx_M} {pc : Nat} {lv : List (Nat × Value)} {st : List Value} {h : fx_H} {Q : fx_O → fx_H → Prop} {mc ms : Nat} {x : Int32} {off : Int} {tgt : Nat} (d : decode (fx_cc M) pc = .ok (.ifCond .lt off, 3)) (ht : (pc : Int) + off = (tgt : Int))
    (Kt : x < 0 → fx_X g M tgt lv st h Q mc ms) (Kf : ¬ x < 0 → fx_X g M (pc + 3) lv st h Q mc ms) : fx_X g M pc lv (.int x :: st) h Q mc ms := by
  intro p e R s m args below meth c F H locs cells slots ls hR hL hc hs hl
  exact lv_if_lt F.1 F.2.1 d ht (fun hcc => Kt hcc p e R s m args below meth c F H locs cells slots ls hR hL hc hs hl) (fun hcc => Kf hcc p e R s m args below meth c F H locs cells slots ls hR hL hc hs hl)
theorem fx_icmp_lt {g : fx_G} {M : fx_M} {pc : Nat} {lv : List (Nat × Value)} {st : List Value} {h : fx_H} {Q : fx_O → fx_H → Prop} {mc ms : Nat} {x y : Int32} {off : Int} {tgt : Nat} (d : decode (fx_cc M) pc = .ok (.if_icmp .lt off, 3)) (ht : (pc : Int) + off = (tgt : Int))
    (Kt : x < y → fx_X g M tgt lv st h Q mc ms) (Kf : ¬ x < y → fx_X g M (pc + 3) lv st h Q mc ms) : fx_X g M pc lv (.int y :: .int x :: st) h Q mc ms := by
  intro p e R s m args below meth c F H locs cells slots ls hR hL hc hs hl
  exact lv_icmp_lt F.1 F.2.1 d ht (fun hcc => Kt hcc p e R s m args below meth c F H locs cells slots ls hR hL hc hs hl) (fun hcc => Kf hcc p e R s m args below meth c F H locs cells slots ls hR hL hc hs hl)
theorem fx_if_ge {g : fx_G} {M : fx_M} {pc : Nat} {lv : List (Nat × Value)} {st : List Value} {h : fx_H} {Q : fx_O → fx_H → Prop} {mc ms : Nat} {x : Int32} {off : Int} {tgt : Nat} (d : decode (fx_cc M) pc = .ok (.ifCond .ge off, 3)) (ht : (pc : Int) + off = (tgt : Int))
    (Kt : 0 ≤ x → fx_X g M tgt lv st h Q mc ms) (Kf : ¬ 0 ≤ x → fx_X g M (pc + 3) lv st h Q mc ms) : fx_X g M pc lv (.int x :: st) h Q mc ms := by
  intro p e R s m args below meth c F H locs cells slots ls hR hL hc hs hl
  exact lv_if_ge F.1 F.2.1 d ht (fun hcc => Kt hcc p e R s m args below meth c F H locs cells slots ls hR hL hc hs hl) (fun hcc => Kf hcc p e R s m args below meth c F H locs cells slots ls hR hL hc hs hl)
theorem fx_icmp_ge {g : fx_G} {M : fx_M} {pc : Nat} {lv : List (Nat × Value)} {st : List Value} {h : fx_H} {Q : fx_O → fx_H → Prop} {mc ms : Nat} {x y : Int32} {off : Int} {tgt : Nat} (d : decode (fx_cc M) pc = .ok (.if_icmp .ge off, 3)) (ht : (pc : Int) + off = (tgt : Int))
    (Kt : y ≤ x → fx_X g M tgt lv st h Q mc ms) (Kf : ¬ y ≤ x → fx_X g M (pc + 3) lv st h Q mc ms) : fx_X g M pc lv (.int y :: .int x :: st) h Q mc ms := by
  intro p e R s m args below meth c F H locs cells slots ls hR hL hc hs hl
  exact lv_icmp_ge F.1 F.2.1 d ht (fun hcc => Kt hcc p e R s m args below meth c F H locs cells slots ls hR hL hc hs hl) (fun hcc => Kf hcc p e R s m args below meth c F H locs cells slots ls hR hL hc hs hl)
theorem fx_if_gt {g : fx_G} {M : fx_M} {pc : Nat} {lv : List (Nat × Value)} {st : List Value} {h : fx_H} {Q : fx_O → fx_H → Prop} {mc ms : Nat} {x : Int32} {off : Int} {tgt : Nat} (d : decode (fx_cc M) pc = .ok (.ifCond .gt off, 3)) (ht : (pc : Int) + off = (tgt : Int))
    (Kt : 0 < x → fx_X g M tgt lv st h Q mc ms) (Kf : ¬ 0 < x → fx_X g M (pc + 3) lv st h Q mc ms) : fx_X g M pc lv (.int x :: st) h Q mc ms := by
  intro p e R s m args below meth c F H locs cells slots ls hR hL hc hs hl
  exact lv_if_gt F.1 F.2.1 d ht (fun hcc => Kt hcc p e R s m args below meth c F H locs cells slots ls hR hL hc hs hl) (fun hcc => Kf hcc p e R s m args below meth c F H locs cells slots ls hR hL hc hs hl)
theorem fx_icmp_gt {g : fx_G} {M : fx_M} {pc : Nat} {lv : List (Nat × Value)} {st : List Value} {h : fx_H} {Q : fx_O → fx_H → Prop} {mc ms : Nat} {x y : Int32} {off : Int} {tgt : Nat} (d : decode (fx_cc M) pc = .ok (.if_icmp .gt off, 3)) (ht : (pc : Int) + off = (tgt : Int))
    (Kt : y < x → fx_X g M tgt lv st h Q mc ms) (Kf : ¬ y < x → fx_X g M (pc + 3) lv st h Q mc ms) : fx_X g M pc lv (.int y :: .int x :: st) h Q mc ms := by
  intro p e R s m args below meth c F H locs cells slots ls hR hL hc hs hl
  exact lv_icmp_gt F.1 F.2.1 d ht (fun hcc => Kt hcc p e R s m args below meth c F H locs cells slots ls hR hL hc hs hl) (fun hcc => Kf hcc p e R s m args below meth c F H locs cells slots ls hR hL hc hs hl)
theorem fx_if_le {g : fx_G} {M : fx_M} {pc : Nat} {lv : List (Nat × Value)} {st : List Value} {h : fx_H} {Q : fx_O → fx_H → Prop} {mc ms : Nat} {x : Int32} {off : Int} {tgt : Nat} (d : decode (fx_cc M) pc = .ok (.ifCond .le off, 3)) (ht : (pc : Int) + off = (tgt : Int))
    (Kt : x ≤ 0 → fx_X g M tgt lv st h Q mc ms) (Kf : ¬ x ≤ 0 → fx_X g M (pc + 3) lv st h Q mc ms) : fx_X g M pc lv (.int x :: st) h Q mc ms := by
  intro p e R s m args below meth c F H locs cells slots ls hR hL hc hs hl
  exact lv_if_le F.1 F.2.1 d ht (fun hcc => Kt hcc p e R s m args below meth c F H locs cells slots ls hR hL hc hs hl) (fun hcc => Kf hcc p e R s m args below meth c F H locs cells slots ls hR hL hc hs hl)
theorem fx_icmp_le {g : fx_G} {M : fx_M} {pc : Nat} {lv : List (Nat × Value)} {st : List Value} {h : fx_H} {Q : fx_O → fx_H → Prop} {mc ms : Nat} {x y : Int32} {off : Int} {tgt : Nat} (d : decode (fx_cc M) pc = .ok (.if_icmp .le off, 3)) (ht : (pc : Int) + off = (tgt : Int))
    (Kt : x ≤ y → fx_X g M tgt lv st h Q mc ms) (Kf : ¬ x ≤ y → fx_X g M (pc + 3) lv st h Q mc ms) : fx_X g M pc lv (.int y :: .int x :: st) h Q mc ms := by
  intro p e R s m args below meth c F H locs cells slots ls hR hL hc hs hl
  exact lv_icmp_le F.1 F.2.1 d ht (fun hcc => Kt hcc p e R s m args below meth c F H locs cells slots ls hR hL hc hs hl) (fun hcc => Kf hcc p e R s m args below meth c F H locs cells slots ls hR hL hc hs hl)
theorem fx_goto {g : fx_G} {M : fx_M} {pc : Nat} {lv : List (Nat × Value)} {st : List Value} {h : fx_H} {Q : fx_O → fx_H → Prop} {mc ms : Nat} {off : Int} {tgt : Nat} (d : decode (fx_cc M) pc = .ok (.goto off, 3)) (ht : (pc : Int) + off = (tgt : Int)) (K : fx_X g M tgt lv st h Q mc ms) : fx_X g M pc lv st h Q mc ms := by
  intro p e R s m args below meth c F H locs cells slots ls hR hL hc hs hl
  exact lv_goto F.1 F.2.1 d ht (K p e R s m args below meth c F H locs cells slots ls hR hL hc hs hl)
theorem fx_sub {g : fx_G} {M : fx_M} {pc : Nat} {lv : List (Nat × Value)} {st : List Value} {h : fx_H} {Q : fx_O → fx_H → Prop} {mc ms : Nat} (ks : List Nat) {lv' : List (Nat × Value)} (hv : lv_pick lv ks = lv') (K : fx_X g M pc lv' st h Q mc ms) : fx_X g M pc lv st h Q mc ms := by
  intro p e R s m args below meth c F H locs cells slots ls hR hL hc hs hl
  exact K p e R s m args below meth c F H locs cells slots ls hR hL hc hs (lv_sub hl ks hv)
end
section
/-! ===== fields and arrays ===== -/
/-- the own'th class's pool entry idx is the field k of the class ci; final or not -/
def fx_fw (own : String) (idx ci k : Nat) (fin : Bool) : Prop := ∃ (C : String) (T : u_T) (N : Nat) (ty : Nat → FieldType), fx_cl[ci]? = some (C, T, N) ∧ (∀ w ∈ u_ws C T N, w ∈ fx_tb) ∧ k < N ∧ Cond.fieldLink own idx (T k).1 (T k).2.1 (T k).2.2.1 ∈ fx_tb ∧
  (∀ j, j < N → parseFieldDescriptor (T j).2.2.1 = some (ty j)) ∧ (∀ a, a < N → ∀ b, b < N → a ≠ b → (T a).2.1 ≠ (T b).2.1) ∧ (T k).2.2.2 = fin ∧ (fin = true → (T k).1 = own) ∧ (fx_fk ci k = 0 → ty k = .int) ∧ (fx_fk ci k = 1 → ty k = .boolean) ∧ (fx_fk ci k = 2 → (ty k).isReference = true) ∧ fx_fk ci k < 3
def fx_fg (own : String) (idx ci k : Nat) : Prop := ∃ (C : String) (T : u_T) (N : Nat), fx_cl[ci]? = some (C, T, N) ∧ (∀ w ∈ u_ws C T N, w ∈ fx_tb) ∧ k < N ∧ Cond.fieldLink own idx (T k).1 (T k).2.1 (T k).2.2.1 ∈ fx_tb
theorem fx_fg_of {own : String} {idx ci k : Nat} {fin : Bool} (h : fx_fw own idx ci k fin) : fx_fg own idx ci k := by
  obtain ⟨C, T, N, ty, h1, h2, h3, h4, -⟩ := h
  exact ⟨C, T, N, h1, h2, h3, h4⟩
theorem fx_c_kept {g : fx_G} {h h' : fx_H} {H H' : Heap} {b : Nat} {x : Nat ⊕ (Nat × Nat)} (hc : fx_c g h H b x) (hi : ∀ k, fx_i h' b k = fx_i h b k) (hr : ∀ k, fx_r h' b k = fx_r h b k) (hH : H'[b]? = H[b]?) : fx_c g h' H' b x := by
  have e1 : fx_i h' b = fx_i h b := funext hi
  have e2 : fx_r h' b = fx_r h b := funext hr
  cases x with
  | inl ci =>
    obtain ⟨⟨r, h1, h2⟩, h3⟩ := hc
    have ev : fx_v h' ci b = fx_v h ci b := by
      funext k
      simp only [fx_v, hi, hr]
    refine ⟨⟨r, h1, ?_⟩, fun k hk => by rw [hi]; exact h3 k hk⟩
    rw [ev]
    exact h2.kept hH
  | inr q =>
    obtain ⟨ak, n⟩ := q
    obtain ⟨h1, h2⟩ := hc
    have ea : fx_ar h' b ak = fx_ar h b ak := by
      unfold fx_ar
      rw [e1, e2]
    exact ⟨by rw [hH, ea]; exact h1, fun hk k => by rw [hi]; exact h2 hk k⟩
theorem fx_R_upd {g : fx_G} {h h' : fx_H} {H H' : Heap} {a : Nat} (hR : fx_R g h H) (hn : fx_n h' = fx_n h) (hs : ∀ b, fx_s h' b = fx_s h b) (hi : ∀ b, b ≠ a → ∀ k, fx_i h' b k = fx_i h b k) (hr : ∀ b, b ≠ a → ∀ k, fx_r h' b k = fx_r h b k)
    (hb : fx_b g ≤ a) (e2 : H'.size = H.size) (e3 : ∀ q, q ≠ a → H'[q]? = H[q]?) (hx : ∀ x, fx_s h a = some x → fx_c g h' H' a x) : fx_R g h' H' := by
  obtain ⟨r1, r2, r3, r4⟩ := hR
  refine ⟨by rw [e2, hn]; exact r1, by rw [hn]; exact r2, fun q hq => ?_, fun b x hbx => ?_⟩
  · rw [e3 q (Nat.ne_of_lt (Nat.lt_of_lt_of_le hq hb))]
    exact r3 q hq
  · rw [hs] at hbx
    obtain ⟨k1, k2, k3⟩ := r4 b x hbx
    refine ⟨k1, by rw [hn]; exact k2, ?_⟩
    by_cases hba : b = a
    · subst hba
      exact hx x hbx
    · exact fx_c_kept k3 (hi b hba) (hr b hba) (e3 b hba)
theorem fx_R_new {g : fx_G} {h : fx_H} {H H' : Heap} {x : Nat ⊕ (Nat × Nat)} (hR : fx_R g h H) (e2 : H'.size = H.size + 1) (e3 : ∀ q, q < H.size → H'[q]? = H[q]?) (hx : fx_c g (fx_nw h x) H' (fx_n h) x) : fx_R g (fx_nw h x) H' := by
  obtain ⟨r1, r2, r3, r4⟩ := hR
  refine ⟨by rw [e2, r1]; rfl, Nat.le_trans r2 (Nat.le_succ _), fun q hq => ?_, fun b y hby => ?_⟩
  · rw [e3 q (by rw [r1]; exact Nat.lt_of_lt_of_le hq r2)]
    exact r3 q hq
  · rw [fx_s_nw] at hby
    by_cases hb : b = fx_n h
    · rw [if_pos hb] at hby
      cases hby
      subst hb
      exact ⟨r2, Nat.lt_succ_self _, hx⟩
    · rw [if_neg hb] at hby
      obtain ⟨k1, k2, k3⟩ := r4 b y hby
      refine ⟨k1, Nat.lt_succ_of_lt k2, fx_c_kept k3 (fun k => ?_) (fun k => ?_) (e3 b (by rw [r1]; exact k2))⟩
      · rw [fx_i_nw, if_neg hb]
      · rw [fx_r_nw, if_neg hb]
theorem fx_R_skip {g : fx_G} {h : fx_H} {H H' : Heap} {n : Nat} (hR : fx_R g h H) (e2 : H'.size = H.size + n) (e3 : ∀ q, q < H.size → H'[q]? = H[q]?) : fx_R g (fx_sk h n) H' := by
  obtain ⟨r1, r2, r3, r4⟩ := hR
  refine ⟨by rw [e2, r1]; rfl, Nat.le_trans r2 (Nat.le_add_right _ _), fun q hq => ?_, fun b y hby => ?_⟩
  · rw [e3 q (by rw [r1]; exact Nat.lt_of_lt_of_le hq r2)]
    exact r3 q hq
  · obtain ⟨k1, k2, k3⟩ := r4 b y hby
    exact ⟨k1, Nat.lt_of_lt_of_le k2 (Nat.le_add_right _ _), fx_c_kept k3 (fun _ => rfl) (fun _ => rfl) (e3 b (by rw [r1]; exact k2))⟩
section FXH
variable {g : fx_G} {M : fx_M} {pc : Nat} {lv : List (Nat × Value)} {st : List Value} {h : fx_H} {Q : fx_O → fx_H → Prop} {mc ms : Nat}
theorem fx_getv (ok : fx_ok g) {idx ci a k : Nat} (hf : fx_fg (fx_y M).cls idx ci k) (hs : fx_s h a = some (.inl ci)) (d : decode (fx_cc M) pc = .ok (.getfield idx, 3)) (K : fx_X g M (pc + 3) lv (fx_v h ci a k :: st) h Q mc ms) : fx_X g M pc lv (.ref a :: st) h Q mc ms := by
  intro p e R s m args below meth c F H locs cells slots ls hR hL hc hs' hl
  obtain ⟨C, T, N, hcl, hin, hk, hlk⟩ := hf
  have hW := F.2.2.2.2.2.1
  obtain ⟨⟨r, h1, cell, q1, q2, q3, q4⟩, -⟩ := (hR.2.2.2 a _ hs).2.2
  have hr : r = (C, T, N) := Option.some.inj (h1.symm.trans hcl)
  subst hr
  have hts : ∀ w ∈ u_ws C T N, w.before args s = true := fun w hw => fx_word ok (hin w hw) (fx_lay hw) hW
  obtain ⟨hS, hfc, kC, hkC, hkind⟩ := fx_Kn ok hW hcl
  obtain ⟨cf, kf, fi, f, hi, hsl⟩ := hS k hk
  refine W.getf F.1 F.2.1 F.2.2.2.2.2.2.1 (fx_word ok hlk rfl hW) hi (u_facts hfc hkC (u_lays hts (fun w hw => hw) hk) hi).1 q1 (by rw [q3]; exact fun h => by cases h) (v := fx_v h ci a k) ?_ rfl rfl d (K p e R s m args below meth c F H locs cells slots ls hR hL hc hs' hl)
  rw [hsl, q4 k hk]
theorem fx_geti (ok : fx_ok g) {idx ci a k : Nat} (hf : fx_fg (fx_y M).cls idx ci k) (hs : fx_s h a = some (.inl ci)) (d : decode (fx_cc M) pc = .ok (.getfield idx, 3)) (hk : fx_fk ci k ≠ 2) (K : fx_X g M (pc + 3) lv (.int (fx_i h a k) :: st) h Q mc ms) : fx_X g M pc lv (.ref a :: st) h Q mc ms := by
  refine fx_getv ok hf hs d ?_
  rw [fx_v, if_neg hk]
  exact K
theorem fx_getr (ok : fx_ok g) {idx ci a k b : Nat} (hf : fx_fg (fx_y M).cls idx ci k) (hs : fx_s h a = some (.inl ci)) (d : decode (fx_cc M) pc = .ok (.getfield idx, 3)) (hk : fx_fk ci k = 2) (hb : fx_r h a k = some b) (K : fx_X g M (pc + 3) lv (.ref b :: st) h Q mc ms) : fx_X g M pc lv (.ref a :: st) h Q mc ms := by
  refine fx_getv ok hf hs d ?_
  rw [fx_v, if_pos hk, hb]
  exact K
/-- a store into a field, in general: h' says what is there then -/
theorem fx_putv (ok : fx_ok g) {idx ci a k : Nat} {fin : Bool} {v : Value} {h' : fx_H} (hf : fx_fw (fx_y M).cls idx ci k fin) (hs : fx_s h a = some (.inl ci)) (hfin : fin = true → (fx_y M).name = "<init>") (d : decode (fx_cc M) pc = .ok (.putfield idx, 3))
    (hty : ∀ ty : FieldType, (fx_fk ci k = 0 → ty = .int) → (fx_fk ci k = 1 → ty = .boolean) → (fx_fk ci k = 2 → ty.isReference = true) → narrow ty v = v ∧ fits ty v = true)
    (hn' : fx_n h' = fx_n h) (hs' : ∀ b, fx_s h' b = fx_s h b) (hi' : ∀ b, b ≠ a → ∀ j, fx_i h' b j = fx_i h b j) (hr' : ∀ b, b ≠ a → ∀ j, fx_r h' b j = fx_r h b j) (hv : fx_v h' ci a k = v) (hv' : ∀ j, j ≠ k → fx_v h' ci a j = fx_v h ci a j) (hb' : (∀ j, fx_fk ci j = 1 → fx_i h a j = 0 ∨ fx_i h a j = 1) → ∀ j, fx_fk ci j = 1 → fx_i h' a j = 0 ∨ fx_i h' a j = 1)
    (K : fx_X g M (pc + 3) lv st h' Q mc ms) : fx_X g M pc lv (v :: .ref a :: st) h Q mc ms := by
  intro p e R s m args below meth c F H locs cells slots ls hR hL hc hs9 hl
  obtain ⟨C, T, N, ty, hcl, hin, hk, hlk, hty0, hnm, hfl, hdecl, ht0, ht1, ht2, -⟩ := hf
  have hW := F.2.2.2.2.2.1
  obtain ⟨hba, -, hcell⟩ := hR.2.2.2 a _ hs
  obtain ⟨⟨r, h1, cell, q1, q2, q3, q4⟩, hbool⟩ := hcell
  have hr : r = (C, T, N) := Option.some.inj (h1.symm.trans hcl)
  subst hr
  have hts : ∀ w ∈ u_ws C T N, w.before args s = true := fun w hw => fx_word ok (hin w hw) (fx_lay hw) hW
  have hKn := fx_Kn ok hW hcl
  have hap : ∀ x y, x < N → y < N → x ≠ y → ((fx_D g).2 ci) x ≠ ((fx_D g).2 ci) y := by
    intro x y hx hy hne
    obtain ⟨_, _, _, fa, hia, ea⟩ := hKn.1 x hx
    obtain ⟨_, _, _, fb, hib, eb⟩ := hKn.1 y hy
    rw [← ea, ← eb]
    refine u_apart (u_lays hts (fun w hw => hw) hx) (u_lays hts (fun w hw => hw) hy) hia hib ?_
    rw [(State.fieldFound?_type hia (hty0 x hx)).1, (State.fieldFound?_type hib (hty0 y hy)).1]
    exact hnm x hx y hy hne
  obtain ⟨hS, hfc, kC, hkC, hkind⟩ := hKn
  obtain ⟨cf, kf, fi, f, hi, hsl⟩ := hS k hk
  obtain ⟨hnar, hfit⟩ := hty (ty k) ht0 ht1 ht2
  have hlay := hts _ (u_in_lay hk)
  unfold u_lay at hlay
  have hst := (u_facts hfc hkC (u_lays hts (fun w hw => hw) hk) hi).1
  have fin9 : ∀ H' : Heap, H'[a]? = some (cell.setSlot f.slot v) → H'.size = H.size → (∀ q, q ≠ a → H'[q]? = H[q]?) → W p (fx_l g) e R s m args below meth c H' (locs ++ [⟨a, f.slot⟩]) cells slots (fx_E g Q R s below) (F0 m (pc + 3) ls st) := by
    intro H' e1 e2 e3
    refine K p e R s m args below meth c F H' _ cells slots ls ?_ (t_lc hL hba) hc hs9 hl
    refine fx_R_upd hR hn' hs' hi' hr' hba e2 e3 (fun x hx => ?_)
    cases hs.symm.trans hx
    rw [hsl] at e1
    refine ⟨⟨(C, T, N), hcl, t_OB.to (V := updV (fx_v h ci a) k v) ⟨_, e1, q2, q3, t_set q4 hap hk v⟩ (fun j _ => ?_)⟩, hb' hbool⟩
    by_cases hj : j = k
    · subst hj
      simp only [updV, if_pos]
      exact hv.symm
    · simp only [updV, if_neg hj]
      exact (hv' j hj).symm
  cases fin with
  | false =>
    rw [if_neg (by rw [hfl]; decide)] at hlay
    have h6 := u_store hfc hkC hkind hlay hi (hty0 k hk) hnar hfit
    exact W.putK F.1 F.2.1 (f := f) ⟨F.2.2.2.2.2.2.1, fx_word ok hlk rfl hW, ⟨_, _, _, hi⟩, hst⟩ (by rw [q2]; exact h6) q1 q3 (by rw [hsl]; exact k2_hasslot (q4 k hk)) rfl rfl d fin9
  | true =>
    rw [if_pos hfl] at hlay
    have hcf : m.cls = cf := by
      obtain ⟨_, _, c', _, _, _, -, -, hf', -, -, -, hown2, -⟩ := Cond.laysFinal_spec hlay
      have e1 : c' = cf := by have := hi.symm.trans hf'; simp at this; exact this.1.symm
      rw [hdecl rfl] at hown2
      rw [← e1]; exact Option.some.inj (F.2.2.2.2.2.2.1.symm.trans hown2)
    have h6 := u_fits hfc hkC hkind (Or.inr hlay) hi (hty0 k hk) hnar hfit
    exact W.putFinK F.1 F.2.1 F.2.2.2.2.2.2.1 (fx_word ok hlk rfl hW) hi hst hcf (F.2.2.2.2.2.2.2.1.trans (hfin rfl)) (by rw [q2]; exact h6) q1 q3 (by rw [hsl]; exact k2_hasslot (q4 k hk)) rfl rfl d fin9
theorem fx_nb {x : Int32} (h : x = 0 ∨ x = 1) : narrow .boolean (.int x) = .int x ∧ fits .boolean (.int x) = true := by
  rcases h with rfl | rfl <;> decide
theorem fx_puti (ok : fx_ok g) {idx ci a k : Nat} {fin : Bool} {x : Int32} (hf : fx_fw (fx_y M).cls idx ci k fin) (hs : fx_s h a = some (.inl ci)) (hfin : fin = true → (fx_y M).name = "<init>") (d : decode (fx_cc M) pc = .ok (.putfield idx, 3)) (hk : fx_fk ci k = 0 ∨ (fx_fk ci k = 1 ∧ (x = 0 ∨ x = 1)))
    (K : fx_X g M (pc + 3) lv st (fx_wi h a k x) Q mc ms) : fx_X g M pc lv (.int x :: .ref a :: st) h Q mc ms := by
  have hk2 : fx_fk ci k ≠ 2 := by omega
  refine fx_putv ok (h' := fx_wi h a k x) hf hs hfin d (fun ty t0 t1 _ => ?_) rfl (fun _ => rfl) (fun b hb j => ?_) (fun _ _ _ => rfl) ?_ (fun j hj => ?_) (fun hb j hj => ?_) K
  · rcases hk with hk | ⟨hk, hx⟩
    · rw [t0 hk]
      exact ⟨rfl, rfl⟩
    · rw [t1 hk]
      exact fx_nb hx
  · rw [fx_i_wi, if_neg (fun z => hb z.1)]
  · rw [fx_v, if_neg hk2, fx_i_wi, if_pos ⟨rfl, rfl⟩]
  · have e9 : fx_i (fx_wi h a k x) a j = fx_i h a j := by rw [fx_i_wi, if_neg (fun z => hj z.2)]
    simp only [fx_v, e9, fx_r_wi]
  · rw [fx_i_wi]
    by_cases hjk : j = k
    · rw [if_pos ⟨rfl, hjk⟩]
      subst hjk
      rcases hk with hk | ⟨_, hx⟩
      · omega
      · exact hx
    · rw [if_neg (fun z => hjk z.2)]
      exact hb j hj
theorem fx_putr (ok : fx_ok g) {idx ci a k b : Nat} {fin : Bool} (hf : fx_fw (fx_y M).cls idx ci k fin) (hs : fx_s h a = some (.inl ci)) (hfin : fin = true → (fx_y M).name = "<init>") (d : decode (fx_cc M) pc = .ok (.putfield idx, 3)) (hk : fx_fk ci k = 2)
    (K : fx_X g M (pc + 3) lv st (fx_wr h a k (some b)) Q mc ms) : fx_X g M pc lv (.ref b :: .ref a :: st) h Q mc ms := by
  refine fx_putv ok (h' := fx_wr h a k (some b)) hf hs hfin d (fun ty _ _ t2 => ?_) rfl (fun _ => rfl) (fun _ _ _ => rfl) (fun b hb j => ?_) ?_ (fun j hj => ?_) (fun hb j hj => hb j hj) K
  · have := t2 hk
    cases ty <;> first | exact ⟨rfl, rfl⟩ | cases this
  · rw [fx_r_wr, if_neg (fun z => hb z.1)]
  · rw [fx_v, if_pos hk, fx_r_wr, if_pos ⟨rfl, rfl⟩]
    rfl
  · have e9 : fx_r (fx_wr h a k (some b)) a j = fx_r h a j := by rw [fx_r_wr, if_neg (fun z => hj z.2)]
    simp only [fx_v, e9, fx_i_wr]
theorem fx_in {i : Int32} {n : Nat} (hin : vp_in i n) : i.toNatClampNeg < n := Nat.not_le.mp fun q => hin (Or.inr q)
theorem fx_iaload (ok : fx_ok g) {a n : Nat} {i : Int32} (hs : fx_s h a = some (.inr (0, n))) (hin : vp_in i n) (d : decode (fx_cc M) pc = .ok (.iaload, 1)) (K : fx_X g M (pc + 1) lv (.int (fx_i h a i.toNatClampNeg) :: st) h Q mc ms) : fx_X g M pc lv (.int i :: .ref a :: st) h Q mc ms := by
  intro p e R s m args below meth c F H locs cells slots ls hR hL hc hs' hl
  obtain ⟨hcell, -⟩ := (hR.2.2.2 a _ hs).2.2
  exact W.iald (v := .int (fx_i h a i.toNatClampNeg)) F.1 F.2.1 hcell ((fx_Ty ok F.2.2.2.2.2.1 (ak := 0) rfl).1 n (fun j => .int (fx_i h a j))) (fun q => by cases q) (by show ¬ (i < 0 ∨ (arrV _ _ _).slots.size ≤ _); rw [arrV_size]; exact hin) (by show (arrV _ _ _).slots[_]? = _; rw [arrV_read _ _ (fx_in hin)]) rfl rfl d (K p e R s m args below meth c F H locs cells slots ls hR hL hc hs' hl)
theorem fx_baload (ok : fx_ok g) {a n : Nat} {i : Int32} (hs : fx_s h a = some (.inr (1, n))) (hin : vp_in i n) (d : decode (fx_cc M) pc = .ok (.baload, 1)) (K : fx_X g M (pc + 1) lv (.int (fx_i h a i.toNatClampNeg) :: st) h Q mc ms) : fx_X g M pc lv (.int i :: .ref a :: st) h Q mc ms := by
  intro p e R s m args below meth c F H locs cells slots ls hR hL hc hs' hl
  obtain ⟨hcell, -⟩ := (hR.2.2.2 a _ hs).2.2
  exact W.zald (v := .int (fx_i h a i.toNatClampNeg)) F.1 F.2.1 hcell ((fx_Ty ok F.2.2.2.2.2.1 (ak := 1) rfl).1 n (fun j => .int (fx_i h a j))) (fun q => by cases q) (by show ¬ (i < 0 ∨ (arrV _ _ _).slots.size ≤ _); rw [arrV_size]; exact hin) (by show (arrV _ _ _).slots[_]? = _; rw [arrV_read _ _ (fx_in hin)]) rfl rfl d (K p e R s m args below meth c F H locs cells slots ls hR hL hc hs' hl)
theorem fx_laload (ok : fx_ok g) {a n : Nat} {i : Int32} (hs : fx_s h a = some (.inr (2, n))) (hin : vp_in i n) (d : decode (fx_cc M) pc = .ok (.laload, 1)) (K : fx_X g M (pc + 1) lv (.long (fx_i h a i.toNatClampNeg).toInt64 :: st) h Q mc ms) : fx_X g M pc lv (.int i :: .ref a :: st) h Q mc ms := by
  intro p e R s m args below meth c F H locs cells slots ls hR hL hc hs' hl
  obtain ⟨hcell, -⟩ := (hR.2.2.2 a _ hs).2.2
  exact W.lald (v := .long (fx_i h a i.toNatClampNeg).toInt64) F.1 F.2.1 hcell ((fx_Ty ok F.2.2.2.2.2.1 (ak := 2) rfl).1 n (fun j => .long (fx_i h a j).toInt64)) (fun q => by cases q) (by show ¬ (i < 0 ∨ (arrV _ _ _).slots.size ≤ _); rw [arrV_size]; exact hin) (by show (arrV _ _ _).slots[_]? = _; rw [arrV_read _ _ (fx_in hin)]) rfl rfl d (K p e R s m args below meth c F H locs cells slots ls hR hL hc hs' hl)
theorem fx_aaload (ok : fx_ok g) {a n ak b : Nat} {ty : FieldType} {i : Int32} (hs : fx_s h a = some (.inr (ak, n))) (hak : 3 ≤ ak) (hty : fx_tys[ak]? = some ty) (hrf : ty.isReference = true) (hin : vp_in i n) (hb : fx_r h a i.toNatClampNeg = some b) (d : decode (fx_cc M) pc = .ok (.aaload, 1)) (K : fx_X g M (pc + 1) lv (.ref b :: st) h Q mc ms) : fx_X g M pc lv (.int i :: .ref a :: st) h Q mc ms := by
  intro p e R s m args below meth c F H locs cells slots ls hR hL hc hs' hl
  obtain ⟨hcell, -⟩ := (hR.2.2.2 a _ hs).2.2
  have ea : fx_ar h a ak = .inr (.inr (.inr (.inr (fx_r h a)))) := by
    rw [fx_ar, if_neg (by omega), if_neg (by omega)]
  rw [ea] at hcell
  exact W.aald (v := .ref b) F.1 F.2.1 hcell ((fx_Ty ok F.2.2.2.2.2.1 hty).1 n (fun j => va_rf (fx_r h a j))) hrf (fun q => by cases q) (by show ¬ (i < 0 ∨ (arrV _ _ _).slots.size ≤ _); rw [arrV_size]; exact hin) (by show (arrV _ _ _).slots[_]? = _; rw [arrV_read _ _ (fx_in hin), hb]; rfl) rfl rfl d (K p e R s m args below meth c F H locs cells slots ls hR hL hc hs' hl)
theorem fx_alen (ok : fx_ok g) {a n ak : Nat} {ty : FieldType} {v : Int32} (hs : fx_s h a = some (.inr (ak, n))) (hty : fx_tys[ak]? = some ty) (hv : Int32.ofNat n = v) (d : decode (fx_cc M) pc = .ok (.arraylength, 1)) (K : fx_X g M (pc + 1) lv (.int v :: st) h Q mc ms) : fx_X g M pc lv (.ref a :: st) h Q mc ms := by
  intro p e R s m args below meth c F H locs cells slots ls hR hL hc hs' hl
  subst hv
  obtain ⟨hcell, -⟩ := (hR.2.2.2 a _ hs).2.2
  have h1 := (fx_Ty ok F.2.2.2.2.2.1 hty).1 n
  have hk := K p e R s m args below meth c F H locs cells slots ls hR hL hc hs' hl
  rcases hx : fx_ar h a ak with f | f | f | f | f
  · rw [hx, vp_cell_i] at hcell
    exact W.alen (n := Int32.ofNat n) F.1 F.2.1 hcell (h1 _) (by rw [arrV_size] <;> rfl) rfl rfl d hk
  · rw [hx, vp_cell_l] at hcell
    exact W.alen (n := Int32.ofNat n) F.1 F.2.1 hcell (h1 _) (by rw [arrV_size] <;> rfl) rfl rfl d hk
  · rw [hx, vp_cell_f] at hcell
    exact W.alen (n := Int32.ofNat n) F.1 F.2.1 hcell (h1 _) (by rw [arrV_size] <;> rfl) rfl rfl d hk
  · rw [hx, vp_cell_d] at hcell
    exact W.alen (n := Int32.ofNat n) F.1 F.2.1 hcell (h1 _) (by rw [arrV_size] <;> rfl) rfl rfl d hk
  · rw [hx, vp_cell_q] at hcell
    exact W.alen (n := Int32.ofNat n) F.1 F.2.1 hcell (h1 _) (by rw [arrV_size] <;> rfl) rfl rfl d hk
/-- an array's cell behind a store of an int -/
theorem fx_R_ast {H H' : Heap} {a n j : Nat} {x : Int32} {ak : Nat} (hR : fx_R g h H) (hs : fx_s h a = some (.inr (ak, n))) (hak : ak < 2) (hx : ak = 1 → x = 0 ∨ x = 1) (e1 : H'[a]? = some ((arrV (fx_dA g ak) n (fun i => .int (fx_i h a i))).setSlot j (.int x))) (e2 : H'.size = H.size) (e3 : ∀ q, q ≠ a → H'[q]? = H[q]?) : fx_R g (fx_wi h a j x) H' := by
  obtain ⟨hba, -, -, hbool⟩ := hR.2.2.2 a _ hs
  refine fx_R_upd hR rfl (fun _ => rfl) (fun b hb k => ?_) (fun _ _ _ => rfl) hba e2 e3 (fun y hy => ?_)
  · rw [fx_i_wi, if_neg (fun z => hb z.1)]
  · cases hs.symm.trans hy
    have ei : ∀ k, fx_i (fx_wi h a j x) a k = if k = j then x else fx_i h a k := by
      intro k
      rw [fx_i_wi]
      by_cases hk : k = j
      · rw [if_pos ⟨rfl, hk⟩, if_pos hk]
      · rw [if_neg (fun z => hk z.2), if_neg hk]
    refine ⟨?_, fun h1 k => ?_⟩
    · rw [e1, fx_ar, if_pos hak, vp_cell_i, arrV_store]
      congr 2
      funext k
      rw [ei]
      by_cases hk : k = j
      · simp [updV, hk]
      · simp [updV, hk]
    · rw [ei]
      by_cases hk : k = j
      · rw [if_pos hk]; exact hx h1
      · rw [if_neg hk]; exact hbool h1 k
theorem fx_iastore (ok : fx_ok g) {a n : Nat} {i x : Int32} (hs : fx_s h a = some (.inr (0, n))) (hin : vp_in i n) (d : decode (fx_cc M) pc = .ok (.iastore, 1)) (K : fx_X g M (pc + 1) lv st (fx_wi h a i.toNatClampNeg x) Q mc ms) : fx_X g M pc lv (.int x :: .int i :: .ref a :: st) h Q mc ms := by
  intro p e R s m args below meth c F H locs cells slots ls hR hL hc hs' hl
  obtain ⟨hba, -, hcell, -⟩ := hR.2.2.2 a _ hs
  refine W.iast F.1 F.2.1 hcell ((fx_Ty ok F.2.2.2.2.2.1 (ak := 0) rfl).1 n (fun j => .int (fx_i h a j))) (fun q => by cases q) (by show ¬ (i < 0 ∨ (arrV _ _ _).slots.size ≤ _); rw [arrV_size]; exact hin) rfl rfl d fun H1 e1 z oq => ?_
  exact K p e R s m args below meth c F H1 _ cells slots ls (fx_R_ast hR hs (by decide) (fun q => by cases q) e1 z oq) (t_lc hL hba) hc hs' hl
theorem fx_bastore (ok : fx_ok g) {a n : Nat} {i x : Int32} (hs : fx_s h a = some (.inr (1, n))) (hx : x = 0 ∨ x = 1) (hin : vp_in i n) (d : decode (fx_cc M) pc = .ok (.bastore, 1)) (K : fx_X g M (pc + 1) lv st (fx_wi h a i.toNatClampNeg x) Q mc ms) : fx_X g M pc lv (.int x :: .int i :: .ref a :: st) h Q mc ms := by
  intro p e R s m args below meth c F H locs cells slots ls hR hL hc hs' hl
  obtain ⟨hba, -, hcell, -⟩ := hR.2.2.2 a _ hs
  refine W.zast F.1 F.2.1 hcell ((fx_Ty ok F.2.2.2.2.2.1 (ak := 1) rfl).1 n (fun j => .int (fx_i h a j))) (fun q => by cases q) (by show ¬ (i < 0 ∨ (arrV _ _ _).slots.size ≤ _); rw [arrV_size]; exact hin) rfl rfl d fun H1 e1 z oq => ?_
  rw [(fx_nb hx).1] at e1
  exact K p e R s m args below meth c F H1 _ cells slots ls (fx_R_ast hR hs (by decide) (fun _ => hx) e1 z oq) (t_lc hL hba) hc hs' hl
theorem fx_lastore (ok : fx_ok g) {a n : Nat} {i x : Int32} (hs : fx_s h a = some (.inr (2, n))) (hin : vp_in i n) (d : decode (fx_cc M) pc = .ok (.lastore, 1)) (K : fx_X g M (pc + 1) lv st (fx_wi h a i.toNatClampNeg x) Q mc ms) : fx_X g M pc lv (.long x.toInt64 :: .int i :: .ref a :: st) h Q mc ms := by
  intro p e R s m args below meth c F H locs cells slots ls hR hL hc hs' hl
  obtain ⟨hba, -, hcell, -⟩ := hR.2.2.2 a _ hs
  refine W.last F.1 F.2.1 hcell ((fx_Ty ok F.2.2.2.2.2.1 (ak := 2) rfl).1 n (fun j => .long (fx_i h a j).toInt64)) (fun q => by cases q) (by show ¬ (i < 0 ∨ (arrV _ _ _).slots.size ≤ _); rw [arrV_size]; exact hin) rfl rfl d fun H1 e1 z oq => ?_
  refine K p e R s m args below meth c F H1 _ cells slots ls (fx_R_upd hR rfl (fun _ => rfl) (fun b hb k => ?_) (fun _ _ _ => rfl) hba z oq (fun y hy => ?_)) (t_lc hL hba) hc hs' hl
  · rw [fx_i_wi, if_neg (fun z => hb z.1)]
  · cases hs.symm.trans hy
    refine ⟨?_, fun q => by cases q⟩
    rw [e1]
    show some ((arrV (fx_dA g 2) n (fun j => .long (fx_i h a j).toInt64)).setSlot _ _) = some (arrV (fx_dA g 2) n (fun j => .long (fx_i (fx_wi h a i.toNatClampNeg x) a j).toInt64))
    rw [arrV_store]
    congr 2
    funext k
    rw [fx_i_wi]
    by_cases hk : k = i.toNatClampNeg
    · simp [updV, hk]
    · simp [updV, hk]
end FXH
end
section
/-! ===== how a method ends; calls ===== -/
section FXC
variable {g : fx_G} {M M' : fx_M} {pc : Nat} {lv : List (Nat × Value)} {st : List Value} {h : fx_H} {Q : fx_O → fx_H → Prop} {mc ms : Nat}
theorem fx_of_MQ {p : Program} {e : Env} {R : Room} {s : State} {m : MethodId} {args : Array Value} {below : List Frame} {meth : Method} {c : Code} {H : Heap} {locs : List Loc} {cells slots : Nat} {gf : JFrame}
    (hw : W p (fx_l g) e R s m args below meth c H locs R.cells R.slots (MQ below (fun _ U o t => ∃ (o' : fx_O) (h' : fx_H), Q o' h' ∧ fx_R g h' t.heap ∧ fx_oc U t o o') args s R.cells R.slots (fun q => fx_b g ≤ q)) gf) (hc : cells ≤ R.cells) (hs : slots ≤ R.slots) :
    W p (fx_l g) e R s m args below meth c H locs cells slots (fx_E g Q R s below) gf := by
  intro T hT X
  obtain ⟨t, st, o, h1, h2, h3, L, ⟨h4, h5, h6⟩, h7⟩ := W.widen hc hs hw T hT X
  exact ⟨t, st, o, h1, h2, L, h5, h6, h7, h3⟩
theorem fx_ireturn {x : Int32} (hr : fx_rt M = some .int) (d : decode (fx_cc M) pc = .ok (.ireturn, 1)) (hq : Q (.inl (some x)) h) : fx_X g M pc lv [.int x] h Q mc ms := by
  intro p e R s m args below meth c F H locs cells slots ls hR hL hc hs hl
  exact fx_of_MQ (W.iret F.1 F.2.1 (F.2.2.2.1.trans hr) (fun t ht _ => ⟨.inl (some x), h, hq, by rw [ht]; exact hR, rfl⟩) hL d F.2.2.2.2.1) (Nat.le_trans (Nat.le_add_right _ _) hc) (Nat.le_trans (Nat.le_add_right _ _) hs)
theorem fx_zreturn {x : Int32} (hr : fx_rt M = some .boolean) (hx : x = 0 ∨ x = 1) (d : decode (fx_cc M) pc = .ok (.ireturn, 1)) (hq : Q (.inl (some x)) h) : fx_X g M pc lv [.int x] h Q mc ms := by
  intro p e R s m args below meth c F H locs cells slots ls hR hL hc hs hl
  exact fx_of_MQ (W.zret F.1 F.2.1 (F.2.2.2.1.trans hr) (fx_nb hx).1 (fun t ht _ => ⟨.inl (some x), h, hq, by rw [ht]; exact hR, rfl⟩) hL d F.2.2.2.2.1) (Nat.le_trans (Nat.le_add_right _ _) hc) (Nat.le_trans (Nat.le_add_right _ _) hs)
theorem fx_vreturn (hr : fx_rt M = none) (d : decode (fx_cc M) pc = .ok (.return_, 1)) (hq : Q (.inl none) h) : fx_X g M pc lv [] h Q mc ms := by
  intro p e R s m args below meth c F H locs cells slots ls hR hL hc hs hl
  exact fx_of_MQ (W.vret F.1 F.2.1 (F.2.2.2.1.trans hr) (fun t ht _ => ⟨.inl none, h, hq, by rw [ht]; exact hR, rfl⟩) hL d F.2.2.2.2.1) (Nat.le_trans (Nat.le_add_right _ _) hc) (Nat.le_trans (Nat.le_add_right _ _) hs)
theorem fx_ldc (ok : fx_ok g) {idx : Nat} {v : Int32} (hk : Cond.constant (fx_y M).cls idx v ∈ fx_tb) (d : decode (fx_cc M) pc = .ok (.ldc idx, 2)) (K : fx_X g M (pc + 2) lv (.int v :: st) h Q mc ms) : fx_X g M pc lv st h Q mc ms := by
  intro p e R s m args below meth c F H locs cells slots ls hR hL hc hs hl
  exact W.ldc F.1 F.2.1 F.2.2.2.2.2.2.1 (fx_word ok hk (by first | rfl | simp [goodWord, Cond.onTables, Cond.keeps, Cond.steady]) F.2.2.2.2.2.1) rfl d (K p e R s m args below meth c F H locs cells slots ls hR hL hc hs hl)
theorem fx_lcmp {x y : Int64} (d : decode (fx_cc M) pc = .ok (.lcmp, 1)) (K : fx_X g M (pc + 1) lv (.int (lg_cmp x y) :: st) h Q mc ms) : fx_X g M pc lv (.long y :: .long x :: st) h Q mc ms := by
  intro p e R s m args below meth c F H locs cells slots ls hR hL hc hs hl
  exact W.lcmp F.1 F.2.1 d (K p e R s m args below meth c F H locs cells slots ls hR hL hc hs hl)
/-- an exception of the class E has come over the frame of M at pc -/
def fx_T (g : fx_G) (M : fx_M) (pc : Nat) (lv : List (Nat × Value)) (E : String) (h : fx_H) (Q : fx_O → fx_H → Prop) (mc ms : Nat) : Prop :=
  ∀ (p : Program) (e : Env) (R : Room) (s : State) (m : MethodId) (args : Array Value) (below : List Frame) (meth : Method) (c : Code), fx_F g M p R s m meth c →
  ∀ (H : Heap) (locs : List Loc) (cells slots : Nat) (ls : Array Slot) (rest : List Value) (q : Addr) (ce : Cell), fx_R g h H → (∀ z ∈ locs, fx_b g ≤ z.base) → cells + mc ≤ R.cells → slots + ms ≤ R.slots → lv_has ls (fx_ml M) lv →
  H[q]? = some ce → ce.vm = .none → s.vm.findClass E = some ce.cls → ∀ T : State, T.heap = H → Stand p (fx_l g) e R s m args below meth c T locs cells slots →
  ∃ t, Steps p.tables e below ((T.setTop (F0 m pc ls rest)).pushFrame (.throwing q)) t ∧ fx_E g Q R s below t
theorem fx_T_out {E : String} (hh : fx_hd M = []) (hq : Q (.inr E) h) : fx_T g M pc lv E h Q mc ms := by
  intro p e R s m args below meth c F H locs cells slots ls rest q ce hR hL hc hs hl hce hv hcl T hT X
  have hrows : fx_rows c = [] := F.2.2.2.2.2.2.2.2.1.trans hh
  have hout : ∀ x ∈ c.exceptionTable.toList, covers x pc = false := by
    intro x hx
    have h9 : (x.startPc, x.endPc, x.handlerPc, x.catchType) ∈ fx_rows c := List.mem_map.mpr ⟨x, hx, rfl⟩
    rw [hrows] at h9
    exact nomatch h9
  obtain ⟨st1, hrun, hend, hW, hsm⟩ := X.leaveThrown q (g := F0 m pc ls rest) rfl rfl rfl hout F.2.2.2.2.1
  refine ⟨_, st1, .threw q, hrun, hend, locs, hW, hsm.mono (Nat.le_trans (Nat.le_add_right _ _) hc) (Nat.le_trans (Nat.le_add_right _ _) hs), hL, .inr E, h, hq, ?_, q, ce, rfl, ?_, hv, hcl⟩
  · show fx_R g h T.heap
    rw [hT]; exact hR
  · show T.heap[q]? = some ce
    rw [hT]; exact hce
/-- the instruction at pc calls M' with as, and leaves rest of the stack st -/
def fx_Site (g : fx_G) (M M' : fx_M) (pc : Nat) (h : fx_H) (as rest st : List Value) : Prop :=
  ∀ (p : Program) (e : Env) (R : Room) (s : State) (m : MethodId) (args : Array Value) (below : List Frame) (meth : Method) (c : Code), fx_F g M p R s m meth c →
  ∀ (H : Heap) (locs : List Loc) (cells slots : Nat) (ls : Array Slot), fx_R g h H → ls.size = c.maxLocals → ∀ T : State, T.heap = H → Stand p (fx_l g) e R s m args below meth c T locs cells slots →
  ∃ (vm₁ : Vm) (mk : MethodId) (ig : Instr), Stand p (fx_l g) e R s m args below meth c (T.setVm vm₁) locs cells slots ∧ (T.setVm vm₁).methodNamed? (fx_y M') = some mk ∧ decode c.code pc = .ok (ig, 3) ∧
    ∀ target, Steps p.tables e below (doInvoke e ((T.setVm vm₁).setTop (F0 m pc ls rest)) [] mk as.toArray).1 target → Steps p.tables e below (T.setTop (F0 m pc ls st)) target
theorem fx_named {s : State} {args : Array Value} (hw : (fx_cw M).before args s = true) : ∃ m, s.methodNamed? (fx_y M) = some m := by
  obtain ⟨y, cc, ml, rt, lev, hd⟩ := M
  cases hd with
  | nil => exact Cond.code_named (show (Cond.code y cc ml rt).before args s = true from hw)
  | cons a l =>
    have hw' : (Cond.codeWith y cc ml rt (a :: l)).before args s = true := hw
    show ∃ m, s.methodNamed? y = some m
    cases hn : s.methodNamed? y with
    | some m => exact ⟨m, rfl⟩
    | none => simp [Cond.before, Cond.holds, Cond.value, hn] at hw'
theorem fx_gcw : goodWord (fx_cw M) = true := by
  obtain ⟨y, cc, ml, rt, lev, hd⟩ := M
  cases hd <;> first | rfl | simp [fx_cw, goodWord, Cond.onTables, Cond.keeps, Cond.steady]
/-- the call itself: it comes back, or throws -/
theorem fx_back (ok : fx_ok g) {as : List Value} {Q' : fx_O → fx_H → Prop} {mc' ms' : Nat} (hC : fx_C g M' as h Q' mc' ms') (hcw : fx_cw M' ∈ fx_tb) (hini : Cond.initialized (fx_y M').cls ∈ fx_tb)
    {p : Program} {e : Env} {R : Room} {s : State} {m : MethodId} {sargs : Array Value} {below : List Frame} {meth : Method} {c : Code} {T : State} {locs : List Loc} {cells slots : Nat} (X : Stand p (fx_l g) e R s m sargs below meth c T locs cells slots) (hWs : (fx_s0 g).WarmedH s.vm) (hR : fx_R g h T.heap)
    {gf : JFrame} (hg : gf.method = m) (hsz : gf.locals.size = c.maxLocals) {ig : Instr} {len : Nat} (hd : decode c.code gf.pc = .ok (ig, len)) {mk : MethodId} (hn : T.methodNamed? (fx_y M') = some mk)
    (hfr : fx_lv M' + 1 ≤ R.frames) (hlo : 2 * gf.monitorRoom + (gf.stack.map fun v => v.category).sum + (fx_ml M' + 11) + fx_lw M' ≤ R.locals) (hc : cells + mc' ≤ R.cells) (hs : slots + ms' ≤ R.slots) :
    ∃ (B : State) (L : List Loc), Stand p (fx_l g) e R s m sargs below meth c B (locs ++ L) (cells + mc') (slots + ms') ∧ (∀ z ∈ L, fx_b g ≤ z.base) ∧ ∃ (o' : fx_O) (h' : fx_H), Q' o' h' ∧ fx_R g h' B.heap ∧
      ((∃ v : Option Int32, o' = .inl v ∧ Steps p.tables e below (doInvoke e (T.setTop gf) [] mk as.toArray).1 (B.setTop { gf with pc := gf.pc + len, stack := (v.map Value.int).toList ++ gf.stack })) ∨
       (∃ (E : String) (q : Addr) (ce : Cell), o' = .inr E ∧ B.heap[q]? = some ce ∧ ce.vm = .none ∧ s.vm.findClass E = some ce.cls ∧ Steps p.tables e below (doInvoke e (T.setTop gf) [] mk as.toArray).1 ((B.setTop gf).pushFrame (.throwing q)))) := by
  have hWT : (fx_s0 g).WarmedH T.vm := State.WarmedH.trans hWs X.warmed
  have hcode : (fx_cw M').before as.toArray T = true := fx_word ok hcw fx_gcw hWT
  have hpre : (headSpec [fx_cw M'] (fx_rm M' mc' ms')).pre.before as.toArray T = true := atoms_intro fun w hw => by
    rw [List.mem_singleton.mp hw]
    exact hcode
  obtain ⟨methY, cY, hmY, hcY, -, hlY, -, -, -, -⟩ := fx_cw_spec hn hcode
  obtain ⟨kY, hkY, -⟩ := className_of_methodNamed hn
  have hinitY : kY.init = .initialized := Cond.initialized_spec (args := as.toArray) (findClass_of_methodNamed hn) hkY (fx_word ok hini (by first | rfl | simp [goodWord, Cond.onTables, Cond.keeps, Cond.steady]) hWT)
  have hh : At T gf.method c below := by rw [hg]; exact X.here
  have happ : (headSpec [fx_cw M'] (fx_rm M' mc' ms')).appliesLoose (fx_y M') e.platform (T.calling gf mk as.toArray) = true :=
    Spec.appliesLoose_calling (g := gf) hh hd hn hkY hinitY
      (X.room_calling (g := gf) (R' := (headSpec [fx_cw M'] (fx_rm M' mc' ms')).room) hsz hmY hcY hfr (by rw [hlY]; exact hlo) hc hs) hpre
  obtain ⟨mid, hmid⟩ := hh.above
  have hfr9 : (T.setTop gf).frames = (.java gf :: mid) ++ below := by rw [State.frames_setTop' gf hh.top, hmid]; rfl
  obtain ⟨o, s₂, hsteps, -, hend, hq⟩ := Steps.callFree hC p X.admits X.cas X.clock (acts := []) hfr9 happ ⟨rfl, hWT, hR⟩ trivial
  have hq' : fx_P g Q' mc' ms' (T.calling gf mk as.toArray) o s₂ := hq
  obtain ⟨L, hW₂, hsm, hL, o', h', hQ, hR', hoc⟩ := hq'
  rw [State.frames_setTop' gf hh.top] at hend
  obtain ⟨g₀, hg0⟩ := Option.isSome_iff_exists.mp hh.top
  obtain ⟨r, hr⟩ := State.topJava?_eq_some.mp hg0
  have hr' : (({ T with heap := s₂.heap, slotsUsed := s₂.slotsUsed } : State).setVm s₂.vm).frames = .java g₀ :: r := hr
  obtain ⟨e2, q2, q3, q4, q5, q6⟩ := id hsm
  have e3 : s₂ = ({ (T.calling gf mk as.toArray).setFrames s₂.frames with heap := s₂.heap, slotsUsed := s₂.slotsUsed } : State).setVm s₂.vm := by
    have : s₂ = ({ s₂ with vm := (T.calling gf mk as.toArray).vm } : State).setVm s₂.vm := rfl
    rw [e2] at this
    exact this
  have hW' : T.WarmedH s₂.vm := hW₂
  have hsame : T.sameButNew ({ T with heap := s₂.heap, slotsUsed := s₂.slotsUsed } : State) L mc' ms' := by
    refine ⟨?_, q2, q3, q4, q5, q6⟩
    obtain ⟨t, ht, -⟩ := State.frames_cons hr
    show ({ T with heap := s₂.heap, slotsUsed := s₂.slotsUsed } : State) = { T.setFrames T.frames with heap := s₂.heap, slotsUsed := s₂.slotsUsed }
    rw [State.setFrames_self ht]
  have XB : Stand p (fx_l g) e R s m sargs below meth c (({ T with heap := s₂.heap, slotsUsed := s₂.slotsUsed } : State).setVm s₂.vm) (locs ++ L) (cells + mc') (slots + ms') :=
    ⟨X.admits, X.cas, X.clock, X.frames, X.room, X.hears, X.method, X.code, (X.here.setHeapUsed s₂.heap s₂.slotsUsed).setVm hW'.alike, X.tail, State.WarmedH.trans X.warmed hW', X.limits, X.bytes, X.same.trans (hsame.setVm s.vm)⟩
  refine ⟨_, L, XB, hL, o', h', hQ, hR', ?_⟩
  cases o' with
  | inl v =>
    refine Or.inl ⟨v, rfl, ?_⟩
    have hoc' : o = .returned (v.map Value.int) := hoc
    subst hoc'
    obtain ⟨c₂, i₂, len₂, hc₂, hd₂, hf₂⟩ := hend
    have hcc : c₂ = c := by
      have h1 : s₂.code? gf.method = T.code? gf.method := by
        rw [State.code?_eq, State.code?_eq, hW'.alike.method?]
      exact Option.some.inj (hc₂.symm.trans (h1.trans hh.code))
    subst hcc
    have hlen : len₂ = len := by rw [hd] at hd₂; cases hd₂; rfl
    subst hlen
    have hs₂ : s₂ = (({ T with heap := s₂.heap, slotsUsed := s₂.slotsUsed } : State).setVm s₂.vm).setTop { gf with pc := gf.pc + len₂, stack := (v.map Value.int).toList ++ gf.stack } := by
      refine e3.trans ?_
      rw [hf₂, State.calling_eq hh.top, State.setFrames_setFrames, State.setTop_of_frames _ hr', hr]
      rfl
    rw [← hs₂]
    exact hsteps
  | inr E =>
    obtain ⟨q, ce, rfl, hce, hcv, hcl⟩ := hoc
    have hcl' : s.vm.findClass E = some ce.cls := by
      have h1 : T.vm.findClass E = some ce.cls := hcl
      rw [X.warmed.alike.findClass] at h1
      exact h1
    refine Or.inr ⟨E, q, ce, rfl, hce, hcv, hcl', ?_⟩
    have hf₂ : s₂.frames = .throwing q :: .java gf :: T.frames.tail := hend
    have hs₂ : s₂ = ((({ T with heap := s₂.heap, slotsUsed := s₂.slotsUsed } : State).setVm s₂.vm).setTop gf).pushFrame (.throwing q) := by
      refine e3.trans ?_
      rw [hf₂, State.calling_eq hh.top, State.setFrames_setFrames, State.pushFrame, State.frames_setTop _ hr', State.setTop_of_frames _ hr', State.setFrames_setFrames, hr]
      rfl
    rw [← hs₂]
    exact hsteps
theorem fx_call (ok : fx_ok g) {as st' : List Value} {Q' : fx_O → fx_H → Prop} {mc' ms' : Nat} (hC : fx_C g M' as h Q' mc' ms') (S : fx_Site g M M' pc h as st st') (hcw : fx_cw M' ∈ fx_tb) (hini : Cond.initialized (fx_y M').cls ∈ fx_tb)
    (hlev : fx_lv M' + 1 ≤ fx_lv M) (hlo : (st.map fun v => v.category).sum + (fx_ml M' + 11) + fx_lw M' ≤ fx_lw M)
    (kr : ∀ (v : Option Int32) (h' : fx_H), Q' (.inl v) h' → fx_X g M (pc + 3) lv ((v.map Value.int).toList ++ st) h' Q mc ms) (kx : ∀ (E : String) (h' : fx_H), Q' (.inr E) h' → fx_T g M pc lv E h' Q mc ms) : fx_X g M pc lv st' h Q (mc' + mc) (ms' + ms) := by
  intro p e R s m args below meth c F H locs cells slots ls hR hL hc hs hl T hT X
  have hsz : ls.size = c.maxLocals := hl.1.trans F.2.2.1.symm
  have hF1 := F.2.2.2.2.2.2.2.2.2.1
  have hF2 := F.2.2.2.2.2.2.2.2.2.2
  obtain ⟨vm₁, mk, ig, X₁, hn, hd, hgo⟩ := S p e R s m args below meth c F H locs cells slots ls hR hsz T hT X
  obtain ⟨B, L, XB, hLB, o', h', hQ, hRB, hend⟩ := fx_back ok hC hcw hini X₁ F.2.2.2.2.2.1 (show fx_R g h T.heap by rw [hT]; exact hR) (gf := F0 m pc ls st) rfl hsz hd hn (by omega) (by show 2 * 0 + (st.map fun v => v.category).sum + _ + _ ≤ _; omega) (by omega) (by omega)
  have hL' : ∀ z ∈ locs ++ L, fx_b g ≤ z.base := fun z hz => (List.mem_append.mp hz).elim (hL z) (hLB z)
  rcases hend with ⟨v, rfl, st9⟩ | ⟨E, q, ce, rfl, hce, hcv, hcl, st9⟩
  · obtain ⟨t, a1, b1⟩ := kr v h' hQ p e R s m args below meth c F B.heap (locs ++ L) (cells + mc') (slots + ms') ls hRB hL' (by omega) (by omega) hl B rfl XB
    exact ⟨t, hgo _ (st9.trans a1), b1⟩
  · obtain ⟨t, a1, b1⟩ := kx E h' hQ p e R s m args below meth c F B.heap (locs ++ L) (cells + mc') (slots + ms') ls st q ce hRB hL' (by omega) (by omega) hl hce hcv hcl B rfl XB
    exact ⟨t, hgo _ (st9.trans a1), b1⟩
/-- the words of a call -/
def fx_mw (own : String) (idx n : Nat) (M' : fx_M) : Prop := fx_cw M' ∈ fx_tb ∧ Cond.initialized (fx_y M').cls ∈ fx_tb ∧ ((fx_y M').cls ≠ "java/lang/invoke/MethodHandle" ∧ (fx_y M').cls ≠ "java/lang/invoke/VarHandle") ∧ (parseMethodDescriptor (fx_y M').desc).map (fun d => d.parameters.length) = some n ∧ Cond.methodLink own idx (fx_y M') ∈ fx_tb
theorem fx_siteS (ok : fx_ok g) {idx : Nat} {as : List Value} (hm : fx_mw (fx_y M).cls idx as.length M') (hst : Cond.static (fx_y M') ∈ fx_tb) (d : decode (fx_cc M) pc = .ok (.invokestatic idx, 3)) : fx_Site g M M' pc h as st (as.reverse ++ st) := by
  intro p e R s m args below meth c F H locs cells slots ls hR hsz T hT X
  obtain ⟨hcw, hini, hy, hlen, hlk⟩ := hm
  have hW := F.2.2.2.2.2.1
  have hcode : (fx_cw M').before args s = true := fx_word ok hcw fx_gcw hW
  obtain ⟨mk, hnamed⟩ := fx_named hcode
  obtain ⟨methM, cM, hmethM, -, -, -, -, -, -, hsigM⟩ := fx_cw_spec hnamed hcode
  have hstatic : methM.isStatic = true := Cond.static_spec (args := args) hnamed hmethM (fx_word ok hst (by first | rfl | simp [goodWord, Cond.onTables, Cond.keeps, Cond.steady]) hW)
  obtain ⟨kP, hkP, -⟩ := className_of_methodNamed hnamed
  have hinitP : kP.init = .initialized := Cond.initialized_spec (args := args) (findClass_of_methodNamed hnamed) hkP (fx_word ok hini (by first | rfl | simp [goodWord, Cond.onTables, Cond.keeps, Cond.steady]) hW)
  have hlen' : as.length = methM.sig.parameters.length := by
    rw [hsigM] at hlen
    exact (Option.some.inj hlen).symm
  have d' : decode c.code pc = .ok (.invokestatic idx, 3) := by rw [F.2.1]; exact d
  obtain ⟨vm₁, X₁, hstep₁⟩ := X.invokestatic F.1 F.2.2.2.2.2.2.1 (fx_word ok hlk (by first | rfl | simp [goodWord, Cond.onTables, Cond.keeps, Cond.steady]) hW) hnamed hmethM hstatic hkP hinitP hy (g := F0 m pc ls (as.reverse ++ st)) rfl (argsL := as) (rest := st) hlen' rfl d'
  exact ⟨vm₁, mk, _, X₁, X₁.named hnamed, d', fun target h => hstep₁ _ fun acts => by rw [doInvoke_state]; exact h⟩
theorem fx_siteV (ok : fx_ok g) {idx b ci : Nat} {as : List Value} {q : vw_C} (hm : fx_mw (fx_y M).cls idx as.length M') (hin : Cond.instanceMethod (fx_y M') ∈ fx_tb) (hse : Cond.selects (fx_y M').cls (fx_y M') (fx_y M') ∈ fx_tb) (hs : fx_s h b = some (.inl ci)) (hq : fx_cl[ci]? = some q) (hqc : q.1 = (fx_y M').cls)
    (d : decode (fx_cc M) pc = .ok (.invokevirtual idx, 3)) : fx_Site g M M' pc h (.ref b :: as) st (as.reverse ++ .ref b :: st) := by
  intro p e R s m args below meth c F H locs cells slots ls hR hsz T hT X
  obtain ⟨hcw, hini, hy, hlen, hlk⟩ := hm
  have hW := F.2.2.2.2.2.1
  have hcode : (fx_cw M').before args s = true := fx_word ok hcw fx_gcw hW
  obtain ⟨mk, methM, hnamed, hmethM, hstM, habM⟩ := Cond.instanceMethod_spec (args := args) (fx_word ok hin (by first | rfl | simp [goodWord, Cond.onTables, Cond.keeps, Cond.steady]) hW)
  obtain ⟨methM', cM, hmethM', -, -, -, -, -, -, hsigM⟩ := fx_cw_spec hnamed hcode
  cases hmethM.symm.trans hmethM'
  obtain ⟨⟨r, h1, cellB, q1, q2, q3, -⟩, -⟩ := (hR.2.2.2 b _ hs).2.2
  cases Option.some.inj (h1.symm.trans hq)
  have hKn := fx_Kn ok hW hq
  have hcls : s.vm.findClass (fx_y M').cls = some cellB.cls := by
    rw [q2, ← hqc]
    exact hKn.2.1
  obtain ⟨c2, r2, m2, p1, p2, p3, p4, kP, hkP, hkPi⟩ := Cond.selects_spec (args := args) (fx_word ok hse (by first | rfl | simp [goodWord, Cond.onTables, Cond.keeps, Cond.steady]) hW)
  cases hcls.symm.trans p1
  cases (State.methodFound?_of_named hnamed hy).symm.trans p2
  cases hnamed.symm.trans p3
  have hselP : selectMethod e.platform s.vm cellB.cls mk = .method mk := by rw [Launch.admits_selectMethod X.admits]; exact p4
  have hlen' : as.length = methM.sig.parameters.length := by
    rw [hsigM] at hlen
    exact (Option.some.inj hlen).symm
  have d' : decode c.code pc = .ok (.invokevirtual idx, 3) := by rw [F.2.1]; exact d
  obtain ⟨vm₁, X₁, hstep₁⟩ := X.invokevirtual F.1 F.2.2.2.2.2.2.1 (fx_word ok hlk (by first | rfl | simp [goodWord, Cond.onTables, Cond.keeps, Cond.steady]) hW) hnamed hmethM hstM hkP hkPi hy (a := b) (cell := cellB) (by rw [hT]; exact q1)
    (fun z hz => by rw [q3] at hz; cases hz) hselP hmethM habM hkP hkPi (g := F0 m pc ls (as.reverse ++ .ref b :: st)) rfl (argsL := as) (rest := st) hlen' rfl d'
  exact ⟨vm₁, mk, _, X₁, X₁.named hnamed, d', fun target h => hstep₁ _ fun acts => by rw [doInvoke_state]; exact h⟩
theorem fx_siteI (ok : fx_ok g) {idx b : Nat} {as : List Value} (hm : fx_mw (fx_y M).cls idx as.length M') (hin : Cond.instanceMethod (fx_y M') ∈ fx_tb) (hnm : (fx_y M').name = "<init>") (hh : fx_hd M' = []) (hrt : fx_rt M' = none)
    (d : decode (fx_cc M) pc = .ok (.invokespecial idx, 3)) : fx_Site g M M' pc h (.ref b :: as) st (as.reverse ++ .ref b :: st) := by
  intro p e R s m args below meth c F H locs cells slots ls hR hsz T hT X
  obtain ⟨hcw, hini, hy, hlen, hlk⟩ := hm
  have hW := F.2.2.2.2.2.1
  have hcode : (Cond.code (fx_y M') (fx_cc M') (fx_ml M') none).before args s = true := by
    have h9 : (fx_cw M').before args s = true := fx_word ok hcw fx_gcw hW
    rw [fx_cw, hh] at h9
    rw [← hrt]
    exact h9
  have hpl : e.platform.magicAccessors = ({} : Platform).magicAccessors := by rw [X.admits.platform]
  have d' : decode c.code pc = .ok (.invokespecial idx, 3) := by rw [F.2.1]; exact d
  obtain ⟨mk, methM, cM, kP, vm₁, hnamed, hmethM, hcodeM, -, hlocalsM, -, hkP, -, hW₁, hstep₁⟩ := Steps.initColdArgs (e := e) X.here F.1 X.warmed hpl F.2.2.2.2.2.2.1 hnm hy (fx_word ok hlk (by first | rfl | simp [goodWord, Cond.onTables, Cond.keeps, Cond.steady]) hW) (fx_word ok hin (by first | rfl | simp [goodWord, Cond.onTables, Cond.keeps, Cond.steady]) hW) hcode (f := F0 m pc ls (as.reverse ++ .ref b :: st)) rfl
    (argsL := as) (rest := st) (fun sig hsig => by rw [hsig] at hlen; exact (Option.some.inj hlen).symm) rfl d'
  have X₁ := X.noted hW₁
  exact ⟨vm₁, mk, _, X₁, X₁.named hnamed, d', fun target h => hstep₁ _ fun acts => by rw [doInvoke_state]; exact h⟩
end FXC
end
section
/-! ===== what is made: objects, arrays, exceptions ===== -/
section FXN
variable {g : fx_G} {M M' : fx_M} {pc : Nat} {lv : List (Nat × Value)} {st : List Value} {h : fx_H} {Q : fx_O → fx_H → Prop} {mc ms : Nat}
theorem fx_new (ok : fx_ok g) {idx ci N : Nat} {C : String} {T : u_T} {ty : Nat → FieldType} (hcl : fx_cl[ci]? = some (C, T, N)) (hin : ∀ w ∈ u_ws C T N, w ∈ fx_tb) (hty : ∀ j, j < N → parseFieldDescriptor (T j).2.2.1 = some (ty j))
    (hfk : ∀ j, j < N → (fx_fk ci j ≠ 2 → defaultValue (ty j) = .int 0) ∧ (fx_fk ci j = 2 → defaultValue (ty j) = .null)) (hlk : Cond.classLink (fx_y M).cls idx C ∈ fx_tb) (hinst : Cond.instantiable C N ∈ fx_tb) (hini : Cond.initialized C ∈ fx_tb)
    (d : decode (fx_cc M) pc = .ok (.new idx, 3)) (K : fx_X g M (pc + 3) lv (.ref (fx_n h) :: st) (fx_nw h (.inl ci)) Q mc ms) : fx_X g M pc lv st h Q (mc + 1) (ms + N) := by
  intro p e R s m args below meth c F H locs cells slots ls hR hL hc hs hl
  have hW := F.2.2.2.2.2.1
  have hKn := fx_Kn ok hW hcl
  have hts : ∀ w ∈ u_ws C T N, w.before args s = true := fun w hw => fx_word ok (hin w hw) (fx_lay hw) hW
  refine W.newcK F.1 F.2.1 F.2.2.2.2.2.2.1 (fx_word ok hlk (by first | rfl | simp [goodWord, Cond.onTables, Cond.keeps, Cond.steady]) hW) (fx_word ok hinst (by first | rfl | simp [goodWord, Cond.onTables, Cond.keeps, Cond.steady]) hW) (fx_word ok hini (by first | rfl | simp [goodWord, Cond.onTables, Cond.keeps, Cond.steady]) hW) rfl d (by omega) (by omega) hKn.2.1 hR.1 fun H1 kC hkC e1 z1 o1 => ?_
  refine K p e R s m args below meth c F H1 locs (cells + 1) (slots + N) ls ?_ hL (by omega) (by omega) hl
  refine fx_R_new hR (by rw [z1, hR.1]) (fun q hq => o1 q (by rw [← hR.1]; exact hq)) ⟨⟨(C, T, N), hcl, (u_born ty hts (fun w hw => hw) hKn hkC e1 hty).to (fun j hj => ?_)⟩, fun k _ => Or.inl ?_⟩
  · rw [fx_v, fx_i_nw, fx_r_nw, if_pos rfl, if_pos rfl]
    by_cases h2 : fx_fk ci j = 2
    · rw [if_pos h2]
      exact (hfk j hj).2 h2
    · rw [if_neg h2]
      exact (hfk j hj).1 h2
  · rw [fx_i_nw, if_pos rfl]
theorem fx_newa (ok : fx_ok g) {atype : ArrayType} {ak N : Nat} {n : Int32} (hak : fx_tys[ak]? = some (newarray.typeOf atype)) (hak3 : ak < 3) (hdf : ak < 2 → defaultValue (newarray.typeOf atype) = .int 0) (hdl : ak = 2 → defaultValue (newarray.typeOf atype) = .long 0) (hprim : ∀ C, newarray.typeOf atype ≠ .object C) (harr : Cond.arrayClass (newarray.typeOf atype) ∈ fx_tb)
    (hn : ¬ n < 0) (hN : n.toNatClampNeg = N) (hby : N * componentBytes (newarray.typeOf atype) ≤ 536870912) (d : decode (fx_cc M) pc = .ok (.newarray atype, 2)) (K : fx_X g M (pc + 2) lv (.ref (fx_n h) :: st) (fx_nw h (.inr (ak, N))) Q mc ms) : fx_X g M pc lv (.int n :: st) h Q (mc + 1) (ms + N) := by
  intro p e R s m args below meth c F H locs cells slots ls hR hL hc hs hl
  have hW := F.2.2.2.2.2.1
  refine va_newaK F.1 F.2.1 (fx_word ok harr rfl hW) rfl d rfl hn hN hby (by omega) (by omega) hR.1 fun H1 cA e1 z1 o1 _ hNm => ?_
  have hcA : cA = fx_dA g ak := by
    have h2 := (fx_Ty ok hW hak).2
    cases hx : newarray.typeOf atype with
    | object C => exact absurd hx (hprim C)
    | _ => rw [hx] at h2 hNm; exact Option.some.inj (hNm.symm.trans h2)
  subst hcA
  refine K p e R s m args below meth c F H1 locs (cells + 1) (slots + N) ls ?_ hL (by omega) (by omega) hl
  refine fx_R_new hR (by rw [z1, hR.1]) (fun q hq => o1 q (by rw [← hR.1]; exact hq)) ⟨?_, fun _ k => Or.inl (by rw [fx_i_nw, if_pos rfl])⟩
  rw [e1]
  by_cases h2 : ak < 2
  · rw [fx_ar, if_pos h2, vp_cell_i, hdf h2]
    congr 2
    funext k
    rw [fx_i_nw, if_pos rfl]
  · have h3 : ak = 2 := by omega
    rw [fx_ar, if_neg h2, if_pos h3, vp_cell_l, hdl h3]
    congr 2
    funext k
    rw [fx_i_nw, if_pos rfl]
    rfl
theorem fx_anew (ok : fx_ok g) {idx ak N : Nat} {C : String} {n : Int32} (hak : fx_tys[ak]? = some (.object C)) (hak3 : 3 ≤ ak) (hlk : Cond.classLink (fx_y M).cls idx C ∈ fx_tb) (hov : ∀ (args : Array Value) (s : State), (fx_s0 g).WarmedH s.vm → (Cond.arrayOver (.object C)).before args s = true)
    (hn : ¬ n < 0) (hN : n.toNatClampNeg = N) (hby : N * 4 ≤ 536870912) (d : decode (fx_cc M) pc = .ok (.anewarray idx, 3)) (K : fx_X g M (pc + 3) lv (.ref (fx_n h) :: st) (fx_nw h (.inr (ak, N))) Q mc ms) : fx_X g M pc lv (.int n :: st) h Q (mc + 1) (ms + N) := by
  intro p e R s m args below meth c F H locs cells slots ls hR hL hc hs hl
  have hW := F.2.2.2.2.2.1
  subst hN
  refine W.anew F.1 F.2.1 F.2.2.2.2.2.2.1 (fx_word ok hlk (by first | rfl | simp [goodWord, Cond.onTables, Cond.keeps, Cond.steady]) hW) (hov _ _ hW) rfl d rfl hn hby (by omega) (by omega) fun cA kA comp h1 h2 h3 h4 => ?_
  have hcA : cA = fx_dA g ak := by
    obtain ⟨kA', comp', -, -, -, h9⟩ := (fx_Ty ok hW hak).2
    exact Option.some.inj (h1.symm.trans h9)
  subst hcA
  rw [hR.1]
  refine K p e R s m args below meth c F _ locs (cells + 1) (slots + n.toNatClampNeg) ls ?_ hL (by omega) (by omega) hl
  refine fx_R_new hR (by simp) (fun q hq => by rw [Array.getElem?_push, if_neg (Nat.ne_of_lt hq)]) ⟨?_, fun z => by omega⟩
  rw [fx_ar, if_neg (by omega), if_neg (by omega), vp_cell_q, ← hR.1, Array.getElem?_push, if_pos rfl, arrV_new]
  congr 2
  funext k
  rw [fx_r_nw, if_pos hR.1]
  rfl
theorem fx_aastore (ok : fx_ok g) {a b n ak ci : Nat} {q : vw_C} {i : Int32} (hs : fx_s h a = some (.inr (ak, n))) (hak3 : 3 ≤ ak) (hty : fx_tys[ak]? = some (.object q.1)) (hb : fx_s h b = some (.inl ci)) (hq : fx_cl[ci]? = some q) (hin : vp_in i n) (d : decode (fx_cc M) pc = .ok (.aastore, 1))
    (K : fx_X g M (pc + 1) lv st (fx_wr h a i.toNatClampNeg (some b)) Q mc ms) : fx_X g M pc lv (.ref b :: .int i :: .ref a :: st) h Q mc ms := by
  intro p e R s m args below meth c F H locs cells slots ls hR hL hc hs' hl
  have hW := F.2.2.2.2.2.1
  obtain ⟨hba, -, hcell, -⟩ := hR.2.2.2 a _ hs
  have ea : fx_ar h a ak = .inr (.inr (.inr (.inr (fx_r h a)))) := by
    rw [fx_ar, if_neg (by omega), if_neg (by omega)]
  rw [ea] at hcell
  obtain ⟨⟨r, r1, cellV, g1, g2, g3, -⟩, -⟩ := (hR.2.2.2 b _ hb).2.2
  have hcls := (fx_Kn ok hW hq).2
  obtain ⟨kA, comp, k1, k2, k3, -⟩ := (fx_Ty ok hW hty).2
  have hcomp : comp = (fx_D g).1 ci := Option.some.inj (k3.symm.trans hcls.1)
  subst hcomp
  obtain ⟨kC, hkC, -⟩ := hcls.2
  have h0 : ¬ i < 0 := fun q => hin (Or.inl q)
  refine W.aast F.1 F.2.1 hcell (fun q h => by cases h) (fun h => by cases h) k1 k2 rfl hkC ⟨h0, by show _ < (arrV _ _ _).slots.size; rw [arrV_size]; exact fx_in hin⟩ g1 (fun q h => by rw [g3] at h; cases h) (by rw [g2]; exact hkC) (by rw [g2]; exact va_assign hcls) rfl rfl d fun H1 e1 z oq => ?_
  refine K p e R s m args below meth c F H1 _ cells slots ls (fx_R_upd hR rfl (fun _ => rfl) (fun _ _ _ => rfl) (fun b' hb' k => ?_) hba z oq (fun y hy => ?_)) (t_lc hL hba) hc hs' hl
  · rw [fx_r_wr, if_neg (fun z => hb' z.1)]
  · cases hs.symm.trans hy
    refine ⟨?_, fun z => by omega⟩
    rw [e1, fx_ar, if_neg (by omega), if_neg (by omega), vp_cell_q, vp_cell_q, arrV_store]
    congr 2
    funext k
    rw [fx_r_wr]
    by_cases hk : k = i.toNatClampNeg
    · simp [updV, hk, va_rf]
    · simp [updV, hk]
/-! words that speak of statics -/
theorem fx_laysS (ok : fx_ok g) {C n d : String} (hw : Cond.laysStatic C n d ∈ fx_tb) {s : State} (hW : (fx_s0 g).WarmedH s.vm) (hH : ∀ q : Nat, q < fx_b g → s.heap[q]? = (fx_s0 g).heap[q]?) {args : Array Value} : (Cond.laysStatic C n d).before args s = true := by
  obtain ⟨c, k, i, f, a, cell, hc, hi, hst, ha, hcell, hs, hcls, hlt, hty⟩ := Cond.laysStatic_spec (ok.2.1 _ hw)
  obtain ⟨k', hi', hek⟩ := State.fieldFound?_setVm hW.alike hi
  have hlt9 : a < fx_b g := (Array.getElem?_eq_some_iff.mp hcell).1
  exact Cond.laysStatic_of (s := s) (by rw [hW.alike.findClass]; exact hc) hi' hst (by rw [hek]; exact ha) (by rw [hH a hlt9]; exact hcell) hs hcls hlt (by rw [hek]; exact hty)
theorem fx_isRef {C n d : String} {v : Value} {A : Nat → Prop} {s : State} {args : Array Value} (hz : va_Z C n d v A s s.heap) (hv : v.isRef = true) : (Cond.isRef (.static C n d)).before args s = true := by
  obtain ⟨cf, kf, fi, f, a, cell, h1, h2, h3, h4, h5, h6, h7, -⟩ := hz
  have he : (Term.static C n d).eval args s none [] s = some v := by
    simp [Term.eval, State.fieldNamed?, h1, h2, h4, h5, h6, h7]
  simp only [Cond.before, Cond.holds, Cond.value, he]
  cases v <;> simp_all [Value.isRef]
theorem fx_isRefS (ok : fx_ok g) {C n d : String} (hl : Cond.laysStatic C n d ∈ fx_tb) (hi : Cond.initialized C ∈ fx_tb) (hw : Cond.isRef (.static C n d) ∈ fx_tb) {s : State} (hW : (fx_s0 g).WarmedH s.vm) (hH : ∀ q : Nat, q < fx_b g → s.heap[q]? = (fx_s0 g).heap[q]?) {args : Array Value} : (Cond.isRef (.static C n d)).before args s = true := by
  have h0 : va_Zq C n d (fun q => fx_b g ≤ q) (fx_s0 g) (fx_s0 g).heap := va_Zqof (ok.2.1 _ hl) (ok.2.1 _ hi) (ok.2.1 _ hw) (fun a ha => Nat.not_le.mpr ha)
  have h1 : va_Zq C n d (fun q => fx_b g ≤ q) s s.heap := (h0.moved hW.alike).kept (fun a ha _ => hH a ha)
  rcases h1 with h1 | ⟨t, h1⟩
  · exact fx_isRef h1 rfl
  · exact fx_isRef h1 rfl
theorem fx_cast (ok : fx_ok g) {A B : String} (hw : Cond.castable A B ∈ fx_tb) {s : State} (hW : (fx_s0 g).WarmedH s.vm) {args : Array Value} : (Cond.castable A B).before args s = true := by
  obtain ⟨c3, c4, hc3, hc4, hasg⟩ := Cond.castable_spec (ok.2.1 _ hw)
  have h1 : s.vm.findClass A = some c3 := by rw [hW.alike.findClass]; exact hc3
  have h2 : s.vm.findClass B = some c4 := by rw [hW.alike.findClass]; exact hc4
  have h3 : s.vm.assignable c3 c4 = true := by rw [hW.alike.assignable]; exact hasg
  simp [Cond.before, Cond.holds, Cond.value, h1, h2, h3]
/-- the words of 'throw new E()', each in the tables, and how it is carried to a later state -/
def fx_tw (w : Cond) : Prop := w ∈ fx_tb ∧ (goodWord w = true ∨ (∃ A B, w = .castable A B) ∨ (∃ C n d, w = .laysStatic C n d) ∨ ∃ C n d, w = .isRef (.static C n d) ∧ Cond.laysStatic C n d ∈ fx_tb ∧ Cond.initialized C ∈ fx_tb)
theorem fx_tw_at (ok : fx_ok g) {w : Cond} (hw : fx_tw w) {s : State} (hW : (fx_s0 g).WarmedH s.vm) (hH : ∀ q : Nat, q < fx_b g → s.heap[q]? = (fx_s0 g).heap[q]?) {args : Array Value} : w.before args s = true := by
  obtain ⟨h1, h2 | ⟨A, B, rfl⟩ | ⟨C, n, d, rfl⟩ | ⟨C, n, d, rfl, h3, h4⟩⟩ := hw
  · exact fx_word ok h1 h2 hW
  · exact fx_cast ok h1 hW
  · exact fx_laysS ok h1 hW hH
  · exact fx_isRefS ok h3 h4 h1 hW hH
/-- the same frame, as if its method had been called in the heap of now -/
theorem fx_here {p : Program} {l : Launch} {e : Env} {R R' : Room} {s T : State} {m : MethodId} {args : Array Value} {below : List Frame} {meth : Method} {c : Code} {locs : List Loc} {cells slots : Nat} (X : Stand p l e R s m args below meth c T locs cells slots)
    (h1 : R'.frames ≤ R.frames) (h2 : R'.locals ≤ R.locals) (h3 : cells + R'.cells ≤ R.cells) (h4 : slots + R'.slots ≤ R.slots) : Stand p l e R' ((T.setVm s.vm).setFrames (.invoking m args :: below)) m args below meth c T [] 0 0 := by
  have htop : (T.setVm s.vm).topJava?.isSome := X.here.top
  have hF : ((T.setVm s.vm).setFrames (.invoking m args :: below)).frames = .invoking m args :: below := State.frames_setFrames _ (State.cur_lt_of_top htop)
  obtain ⟨g0, hg0⟩ := Option.isSome_iff_exists.mp htop
  obtain ⟨r, hr⟩ := State.topJava?_eq_some.mp hg0
  have hlim : e.platform.stackLimits (T.setVm s.vm).me = e.platform.stackLimits s.me := X.limits
  have hbyt : (T.setVm s.vm).me.stackBytes = s.me.stackBytes := X.bytes
  have hnil : T.heap.toList.drop T.heap.size = [] := List.drop_eq_nil_of_le (Nat.le_of_eq Array.length_toList)
  refine ⟨X.admits, X.cas, X.clock, hF, ?_, X.hears, X.method, X.code, X.here, X.tail, X.warmed, by rw [State.stackLimits_setFrames]; rfl, by rw [State.stackBytes_setFrames]; rfl, ?_⟩
  · have hU : ((T.setVm s.vm).setFrames (.invoking m args :: below)).localsInUse = s.localsInUse := by
      rw [State.localsInUse_invoking hF (meth := meth) (c := c) X.method X.code, State.localsInUse_invoking X.frames X.method X.code]
    have hroom := X.room
    simp only [State.hasRoom, Bool.and_eq_true, decide_eq_true_eq] at hroom ⊢
    obtain ⟨⟨⟨⟨k1, k2, k3, k4, k5, k6⟩, k7⟩, k8⟩, k9⟩ := hroom
    rw [X.frames, List.length_cons] at k2 k3
    have q1 := X.heapSize
    have q2 := X.used
    simp only [hF, hU, List.length_cons, State.stackLimits_setFrames, State.stackBytes_setFrames, hlim, hbyt]
    refine ⟨⟨⟨⟨by omega, by omega, by omega, by omega, by omega, k6⟩, ?_⟩, ?_⟩, X.book⟩
    · show T.heap.size + R'.cells ≤ e.platform.maxCells
      omega
    · show T.slotsUsed + R'.slots ≤ e.platform.maxSlots
      omega
  · refine ⟨?_, Nat.le_refl _, Nat.le_refl _, ?_, ?_, fun a c9 h9 => ⟨c9, h9, rfl, rfl, fun _ _ => rfl⟩⟩
    · obtain ⟨t, ht, -⟩ := State.frames_cons hr
      show T.setVm s.vm = { ((T.setVm s.vm).setFrames (.invoking m args :: below)).setFrames (T.setVm s.vm).frames with heap := T.heap, slotsUsed := T.slotsUsed }
      rw [State.setFrames_setFrames, State.setFrames_self ht]
      rfl
    · show T.slotsUsed = T.slotsUsed + ((T.heap.toList.drop T.heap.size).map (·.slots.size)).sum
      rw [hnil]; rfl
    · show ((T.heap.toList.drop T.heap.size).map (·.slots.size)).sum ≤ 0
      rw [hnil]; exact Nat.le_refl _
theorem fx_same0 {s U : State} {k n : Nat} (h : s.sameButNew ({ U with vm := s.vm } : State) [] k n) : ∀ q : Nat, q < s.heap.size → U.heap[q]? = s.heap[q]? := by
  obtain ⟨-, -, -, -, -, h6⟩ := h
  intro q hq
  obtain ⟨c9, e1, e2, e3, e4⟩ := h6 q _ (Array.getElem?_eq_getElem hq)
  have hs : c9.slots = (s.heap[q]).slots := Array.ext_getElem? fun i => e4 i (fun hm => nomatch hm)
  have h9 : c9 = s.heap[q] := by
    rw [hs] at e2
    exact e2
  have e5 : U.heap[q]? = some c9 := e1
  rw [e5, h9, Array.getElem?_eq_getElem hq]
theorem fx_throw0 (ok : fx_ok g) {ik ic : Nat} {cls : String} {names : List String} (hcls : Bundle.fit cls = true) (hnames : ∀ n ∈ names, Bundle.fit n = true) (hk : Cond.classLink (fx_y M).cls ik cls ∈ fx_tb) (hini : Cond.initialized cls ∈ fx_tb)
    (hat : ∀ w ∈ Bundle.ownAtoms0 (fx_y M).cls ic cls names, fx_tw w) (d0 : decode (fx_cc M) pc = .ok (.new ik, 3)) (d3 : decode (fx_cc M) (pc + 3) = .ok (.dup, 1)) (d4 : decode (fx_cc M) (pc + 4) = .ok (.invokespecial ic, 3)) (d7 : decode (fx_cc M) (pc + 7) = .ok (.athrow, 1))
    (hfr : names.length + 3 < fx_lv M) (hlo : (st.map fun v => v.category).sum + (13 * (names.length + 1) + 42) ≤ fx_lw M) (hh : fx_hd M = []) (hq : Q (.inr cls) (fx_sk h 1)) : fx_X g M pc lv st h Q (mc + 1) (ms + 6) := by
  intro p e R s m args below meth c F H locs cells slots ls hR hL hc hs hl T hT X
  have hW := F.2.2.2.2.2.1
  have hF1 := F.2.2.2.2.2.2.2.2.2.1
  have hF2 := F.2.2.2.2.2.2.2.2.2.2
  have hown := F.2.2.2.2.2.2.1
  have htr : e.platform.stackTraces = false := (show e.platform.stackTraces = (fx_l g).stackTraces by rw [X.admits.platform]).trans ok.1
  have Y := fx_here X (R' := { frames := R.frames, cells := 1, slots := 6, locals := R.locals }) (Nat.le_refl _) (Nat.le_refl _) (show cells + 1 ≤ R.cells by omega) (show slots + 6 ≤ R.slots by omega)
  obtain ⟨s', hA⟩ : ∃ z, z = (T.setVm s.vm).setFrames (.invoking m args :: below) := ⟨_, rfl⟩
  rw [← hA] at Y
  have hvm : s'.vm = s.vm := by rw [hA]; rfl
  have hhp : s'.heap = H := by rw [hA]; exact hT
  have hW' : (fx_s0 g).WarmedH s'.vm := by rw [hvm]; exact hW
  have hH' : ∀ q : Nat, q < fx_b g → s'.heap[q]? = (fx_s0 g).heap[q]? := by rw [hhp]; exact hR.2.2.1
  have hwd : ∀ w ∈ Bundle.ownAtoms0 (fx_y M).cls ic cls names, w.before args s' = true := fun w hw => fx_tw_at ok (hat w hw) hW' hH'
  have hown' : s'.vm.findClass (fx_y M).cls = some m.cls := by rw [hvm]; exact hown
  have hins : (Cond.instantiable cls 6).before args s' = true := hwd _ (by simp [Bundle.ownAtoms0])
  obtain ⟨vm₁, cX, kX, hfX, hkX, -, -, X₁, st1⟩ := Y.newCold F.1 (own := (fx_y M).cls) (C := cls) (index := ik) (n := 6) hown' (fx_word ok hk (by first | rfl | simp [goodWord, Cond.onTables, Cond.keeps, Cond.steady]) hW') hins (fx_word ok hini (by first | rfl | simp [goodWord, Cond.onTables, Cond.keeps, Cond.steady]) hW')
    (g := F0 m pc ls st) rfl (by rw [F.2.1]; exact d0) (Nat.le_refl _) (Nat.le_refl _)
  generalize hT1 : (T.setVm vm₁).pushCell { cls := cX, slots := kX.instanceTypes.map defaultValue, vm := .none } = T1 at X₁ st1
  have hcellA : T1.heap[T.heap.size]? = some (freshCell cX kX) := by rw [← hT1]; exact State.heap_pushCell_size _ _
  have d3' : decode c.code (pc + 3) = .ok (.dup, 1) := by rw [F.2.1]; exact d3
  have hcat : (Value.ref T.heap.size).category = 1 := rfl
  have hrows : fx_rows c = [] := F.2.2.2.2.2.2.2.2.1.trans hh
  have hout : ∀ x ∈ c.exceptionTable.toList, covers x (pc + 7) = false := by
    intro x hx
    have h9 : (x.startPc, x.endPc, x.handlerPc, x.catchType) ∈ fx_rows c := List.mem_map.mpr ⟨x, hx, rfl⟩
    rw [hrows] at h9
    exact nomatch h9
  have hsz : ls.size = c.maxLocals := hl.1.trans F.2.2.1.symm
  obtain ⟨U, hsteps, hrun, hend, hW9, hsame, ce, hce, hO⟩ := X₁.ctorThrow0 F.1 htr (own := (fx_y M).cls) (cls := cls) (names := names) (ic := ic) hown' hcls hnames hwd (fun x hx => nomatch hx) hfX hkX hcellA (by rw [hhp, hT]; exact Nat.le_refl _)
    (g := { method := m, pc := pc + 4, locals := ls, stack := .ref T.heap.size :: .ref T.heap.size :: st, locked := none }) rfl hsz rfl rfl (rest := st) rfl
    (by rw [F.2.1]; exact d4) (by rw [F.2.1]; exact d7) hout (show names.length + 3 < R.frames by omega) (by simp only [List.map_cons, List.sum_cons, hcat]; show 2 * 0 + _ + _ ≤ R.locals; omega) F.2.2.2.2.1
  have f2 := fx_same0 hsame
  have f1 : U.heap.size = H.size + 1 := by
    have a1 : U.heap.size ≤ s'.heap.size + (0 + 1) := hsame.2.2.1
    have a2 : T.heap.size < U.heap.size := (Array.getElem?_eq_some_iff.mp hce).1
    rw [hhp] at a1
    rw [hT] at a2
    omega
  rw [hhp] at f2
  have hWs : s.WarmedH U.vm := by
    have h9 : s'.WarmedH U.vm := hW9
    have h8 : s.WarmedH s'.vm := by rw [hvm]; exact State.WarmedH.refl s
    exact State.WarmedH.trans h8 h9
  have hcl : s.vm.findClass cls = some ce.cls := by
    have h9 := hO.cls
    rw [hvm] at h9
    exact h9
  have hall : s.sameButNew ({ U with vm := s.vm } : State) locs R.cells R.slots := by
    subst hA
    obtain ⟨e1, e2⟩ := hsame
    rw [State.setFrames_setFrames] at e1
    have h2 : (T.setVm s.vm).sameButNew ({ U with vm := s.vm } : State) [] (0 + 1) (0 + 6) := ⟨e1, e2⟩
    have h3 := X.same.trans h2
    rw [List.append_nil] at h3
    exact h3.mono (by omega) (by omega)
  refine ⟨U, ?_, .threw T.heap.size, hrun, hend, locs, hWs, hall, hL, .inr cls, fx_sk h 1, hq, fx_R_skip hR f1 f2, T.heap.size, ce, rfl, hce, hO.vm, hcl⟩
  refine st1 _ ?_
  show Steps p.tables e below (T1.setTop { method := m, pc := pc + 3, locals := ls, stack := .ref T.heap.size :: st, locked := none }) _
  jvm_step X₁.here [X₁.here.top, F.1, d3', Value.category]
  exact hsteps
end FXN
end
section
/-! ===== Object(), Math, System.arraycopy; calls across the nest ===== -/
section FXO
variable {g : fx_G} {M M' : fx_M} {pc : Nat} {lv : List (Nat × Value)} {st : List Value} {h : fx_H} {Q : fx_O → fx_H → Prop} {mc ms : Nat}
theorem fx_objInit (ok : fx_ok g) {idx a : Nat} (hlk : Cond.methodLink (fx_y M).cls idx Lib.objectInit ∈ fx_tb) (hin : Cond.instanceMethod Lib.objectInit ∈ fx_tb) (hcd : Cond.code Lib.objectInit ⟨#[0xb1]⟩ 1 none ∈ fx_tb) (hlev : 1 ≤ fx_lv M) (hlo : (st.map fun v => v.category).sum + 12 ≤ fx_lw M)
    (d : decode (fx_cc M) pc = .ok (.invokespecial idx, 3)) (K : fx_X g M (pc + 3) lv st h Q mc ms) : fx_X g M pc lv (.ref a :: st) h Q mc ms := by
  intro p e R s m args below meth c F H locs cells slots ls hR hL hc hs hl
  have hW := F.2.2.2.2.2.1
  have hF1 := F.2.2.2.2.2.2.2.2.2.1
  have hF2 := F.2.2.2.2.2.2.2.2.2.2
  exact W.objInit F.1 F.2.1 F.2.2.2.2.2.2.1 (fx_word ok hlk (by first | rfl | simp [goodWord, Cond.onTables, Cond.keeps, Cond.steady]) hW) (fx_word ok hin (by first | rfl | simp [goodWord, Cond.onTables, Cond.keeps, Cond.steady]) hW) (fx_word ok hcd (by first | rfl | simp [goodWord, Cond.onTables, Cond.keeps, Cond.steady]) hW) rfl (hl.1.trans F.2.2.1.symm) rfl d (by omega) (by show 2 * 0 + _ + 12 ≤ _; omega) (K p e R s m args below meth c F H locs cells slots ls hR hL hc hs hl)
theorem fx_mmax (ok : fx_ok g) {idx : Nat} {x y : Int32} (hlk : Cond.methodLink (fx_y M).cls idx Lib.Math.max.name ∈ fx_tb) (hst : Cond.static Lib.Math.max.name ∈ fx_tb) (hini : Cond.initialized "java/lang/Math" ∈ fx_tb) (hcd : Cond.code Lib.Math.max.name Lib.Math.max.code 2 (some .int) ∈ fx_tb) (hlev : 1 ≤ fx_lv M) (hlo : (st.map fun v => v.category).sum + 13 ≤ fx_lw M)
    (d : decode (fx_cc M) pc = .ok (.invokestatic idx, 3)) (K : fx_X g M (pc + 3) lv (.int (if x < y then y else x) :: st) h Q mc ms) : fx_X g M pc lv (.int y :: .int x :: st) h Q mc ms := by
  intro p e R s m args below meth c F H locs cells slots ls hR hL hc hs hl
  have hW := F.2.2.2.2.2.1
  have hF1 := F.2.2.2.2.2.2.2.2.2.1
  have hF2 := F.2.2.2.2.2.2.2.2.2.2
  exact va_mmax F.1 F.2.1 (F.2.2.1.trans hl.1.symm) F.2.2.2.2.2.2.1 (fx_word ok hlk (by first | rfl | simp [goodWord, Cond.onTables, Cond.keeps, Cond.steady]) hW) (fx_word ok hst (by first | rfl | simp [goodWord, Cond.onTables, Cond.keeps, Cond.steady]) hW) (fx_word ok hini (by first | rfl | simp [goodWord, Cond.onTables, Cond.keeps, Cond.steady]) hW) (fx_word ok hcd (by first | rfl | simp [goodWord, Cond.onTables, Cond.keeps, Cond.steady]) hW) (by omega) (by omega) (by omega) (by omega) d (K p e R s m args below meth c F H locs cells slots ls hR hL hc hs hl)
theorem fx_mmin (ok : fx_ok g) {idx : Nat} {x y : Int32} (hlk : Cond.methodLink (fx_y M).cls idx Lib.Math.min.name ∈ fx_tb) (hst : Cond.static Lib.Math.min.name ∈ fx_tb) (hini : Cond.initialized "java/lang/Math" ∈ fx_tb) (hcd : Cond.code Lib.Math.min.name Lib.Math.min.code 2 (some .int) ∈ fx_tb) (hlev : 1 ≤ fx_lv M) (hlo : (st.map fun v => v.category).sum + 13 ≤ fx_lw M)
    (d : decode (fx_cc M) pc = .ok (.invokestatic idx, 3)) (K : fx_X g M (pc + 3) lv (.int (if y < x then y else x) :: st) h Q mc ms) : fx_X g M pc lv (.int y :: .int x :: st) h Q mc ms := by
  intro p e R s m args below meth c F H locs cells slots ls hR hL hc hs hl
  have hW := F.2.2.2.2.2.1
  have hF1 := F.2.2.2.2.2.2.2.2.2.1
  have hF2 := F.2.2.2.2.2.2.2.2.2.2
  exact va_mmin F.1 F.2.1 (F.2.2.1.trans hl.1.symm) F.2.2.2.2.2.2.1 (fx_word ok hlk (by first | rfl | simp [goodWord, Cond.onTables, Cond.keeps, Cond.steady]) hW) (fx_word ok hst (by first | rfl | simp [goodWord, Cond.onTables, Cond.keeps, Cond.steady]) hW) (fx_word ok hini (by first | rfl | simp [goodWord, Cond.onTables, Cond.keeps, Cond.steady]) hW) (fx_word ok hcd (by first | rfl | simp [goodWord, Cond.onTables, Cond.keeps, Cond.steady]) hW) (by omega) (by omega) (by omega) (by omega) d (K p e R s m args below meth c F H locs cells slots ls hR hL hc hs hl)
theorem fx_nn {z : Int32} (hz : ¬ z < 0) : z.toInt = (z.toNatClampNeg : Int) := by
  have hz0 : (0 : Int) ≤ z.toInt := by
    have := Int32.not_lt.mp hz
    simpa using Int32.le_iff_toInt_le.mp this
  show z.toInt = ((z.toInt.toNat : Nat) : Int)
  omega
theorem fx_copy (ok : fx_ok g) {idx a b n0 n1 : Nat} {sp dp n : Int32} (hlk : Cond.methodLink (fx_y M).cls idx arraycopyName ∈ fx_tb) (hnat : Cond.native arraycopyName ∈ fx_tb) (hst : Cond.static arraycopyName ∈ fx_tb) (hini : Cond.initialized "java/lang/System" ∈ fx_tb)
    (ha : fx_s h a = some (.inr (0, n0))) (hb : fx_s h b = some (.inr (0, n1))) (h1 : ¬ sp < 0) (h2 : ¬ dp < 0) (h3 : ¬ n < 0) (h4 : sp.toNatClampNeg + n.toNatClampNeg ≤ n0) (h5 : dp.toNatClampNeg + n.toNatClampNeg ≤ n1) (hlev : 1 ≤ fx_lv M) (hlo : (st.map fun v => v.category).sum + (nativeFrameWords "java/lang/System" "arraycopy" 5 + 11) ≤ fx_lw M)
    (d : decode (fx_cc M) pc = .ok (.invokestatic idx, 3)) (K : fx_X g M (pc + 3) lv st (fx_cp h a b sp.toNatClampNeg dp.toNatClampNeg n.toNatClampNeg) Q mc ms) : fx_X g M pc lv (.int n :: .int dp :: .ref b :: .int sp :: .ref a :: st) h Q mc ms := by
  intro p e R s m args below meth c F H locs cells slots ls hR hL hc hs hl T hT X
  have hW := F.2.2.2.2.2.1
  have hF1 := F.2.2.2.2.2.2.2.2.2.1
  have hF2 := F.2.2.2.2.2.2.2.2.2.2
  have hc0 : H[a]? = some (vp_cell (fx_dA g 0) (n0, .inl (fx_i h a))) := (hR.2.2.2 a _ ha).2.2.1
  have hc1 : H[b]? = some (vp_cell (fx_dA g 0) (n1, .inl (fx_i h b))) := (hR.2.2.2 b _ hb).2.2.1
  have hbb := (hR.2.2.2 b _ hb).1
  obtain ⟨-, k0, hk0, cm0, hkk0⟩ := (fx_Ty ok hW (ak := 0) rfl).1 n0 (fun j => .int (fx_i h a j))
  obtain ⟨-, k1, hk1, cm1, hkk1⟩ := (fx_Ty ok hW (ak := 0) rfl).1 n1 (fun j => .int (fx_i h b j))
  obtain ⟨vm', X', step⟩ := X.arraycopy F.1 F.2.2.2.2.2.2.1 (fx_word ok hlk (by first | rfl | simp [goodWord, Cond.onTables, Cond.keeps, Cond.steady]) hW) (fx_word ok hnat (by first | rfl | simp [goodWord, Cond.onTables, Cond.keeps, Cond.steady]) hW) (fx_word ok hst (by first | rfl | simp [goodWord, Cond.onTables, Cond.keeps, Cond.steady]) hW) (fx_word ok hini (by first | rfl | simp [goodWord, Cond.onTables, Cond.keeps, Cond.steady]) hW)
    (src := a) (dst := b) (cs := vp_cell (fx_dA g 0) (n0, .inl (fx_i h a))) (cd := vp_cell (fx_dA g 0) (n1, .inl (fx_i h b))) (srcPos := sp) (destPos := dp) (n := n) (by rw [hT]; exact hc0) (by rw [hT]; exact hc1)
    (fun _ h => by cases h) (fun _ h => by cases h) (fun h => by cases h) (fun h => by cases h) hk0 hk1 hkk0 hkk1 (by simp [refKind]) h1 h2 h3
    (by rw [fx_nn h1, fx_nn h3]; show ¬ _ > ((arrV (fx_dA g 0) n0 (fun j => .int (fx_i h a j))).slots.size : Int); rw [arrV_size]; omega)
    (by rw [fx_nn h2, fx_nn h3]; show ¬ _ > ((arrV (fx_dA g 0) n1 (fun j => .int (fx_i h b j))).slots.size : Int); rw [arrV_size]; omega)
    (fun vm₁ _ i hi => by
      have e9 : (vp_cell (fx_dA g 0) (n0, .inl (fx_i h a))).slots.getD (sp.toNatClampNeg + i) .null = .int (fx_i h a (sp.toNatClampNeg + i)) := by
        show (arrV (fx_dA g 0) n0 (fun j => .int (fx_i h a j))).slots.getD _ _ = _
        rw [Array.getD_eq_getD_getElem?, arrV_read _ _ (by omega)]
        rfl
      refine ⟨?_, ?_⟩
      · rw [e9]
        rfl
      · rw [e9]
        exact trivial)
    (g := F0 m pc ls (.int n :: .int dp :: .ref b :: .int sp :: .ref a :: st)) rfl (hl.1.trans F.2.2.1.symm) (rest := st) rfl (by rw [F.2.1]; exact d) (by omega) (by show 2 * 0 + _ + _ ≤ _; omega)
  have e1 : copied (vp_cell (fx_dA g 0) (n0, .inl (fx_i h a))) (vp_cell (fx_dA g 0) (n1, .inl (fx_i h b))) sp dp n = vp_cell (fx_dA g 0) (n1, .inl (va_cpy (fx_i h a) (fx_i h b) sp.toNatClampNeg dp.toNatClampNeg n.toNatClampNeg)) := va_copied (fun z => .int z) (fx_dA g 0) (fx_dA g 0) (fx_i h a) (fx_i h b) h4
  rw [e1] at X' step
  have hlt : b < H.size := (Array.getElem?_eq_some_iff.mp hc1).1
  have hheap : ((T.setVm vm').setCell b (vp_cell (fx_dA g 0) (n1, .inl (va_cpy (fx_i h a) (fx_i h b) sp.toNatClampNeg dp.toNatClampNeg n.toNatClampNeg)))).heap = H.setIfInBounds b (vp_cell (fx_dA g 0) (n1, .inl (va_cpy (fx_i h a) (fx_i h b) sp.toNatClampNeg dp.toNatClampNeg n.toNatClampNeg))) := by rw [← hT]; rfl
  have hR' : fx_R g (fx_cp h a b sp.toNatClampNeg dp.toNatClampNeg n.toNatClampNeg) (H.setIfInBounds b (vp_cell (fx_dA g 0) (n1, .inl (va_cpy (fx_i h a) (fx_i h b) sp.toNatClampNeg dp.toNatClampNeg n.toNatClampNeg)))) := by
    refine fx_R_upd hR rfl (fun _ => rfl) (fun q hq k => ?_) (fun _ _ _ => rfl) hbb (by simp) (fun q hq => by simp [Array.getElem?_setIfInBounds, Ne.symm hq]) (fun x hx => ?_)
    · rw [fx_i_cp, if_neg hq]
    · cases hb.symm.trans hx
      refine ⟨?_, fun z => by cases z⟩
      have e2 : fx_ar (fx_cp h a b sp.toNatClampNeg dp.toNatClampNeg n.toNatClampNeg) b 0 = .inl (va_cpy (fx_i h a) (fx_i h b) sp.toNatClampNeg dp.toNatClampNeg n.toNatClampNeg) := by
        rw [fx_ar, if_pos (by decide)]
        congr 1
        funext k
        rw [fx_i_cp, if_pos rfl]
      rw [e2]
      simp [Array.getElem?_setIfInBounds, hlt]
  obtain ⟨t, a1, b1⟩ := K p e R s m args below meth c F _ _ cells slots ls hR' (fun z hz => by
      rcases List.mem_append.mp hz with h | h
      · exact hL z h
      · obtain ⟨y, -, hy⟩ := List.mem_map.mp h
        rw [← hy]
        exact hbb) hc hs hl _ hheap X'
  exact ⟨t, step t a1, b1⟩
/-- the words of a call across the nest -/
def fx_mn (own : String) (idx n : Nat) (M' : fx_M) (host : String) : Prop := fx_cw M' ∈ fx_tb ∧ Cond.initialized (fx_y M').cls ∈ fx_tb ∧ ((fx_y M').cls ≠ "java/lang/invoke/MethodHandle" ∧ (fx_y M').cls ≠ "java/lang/invoke/VarHandle") ∧ (parseMethodDescriptor (fx_y M').desc).map (fun d => d.parameters.length) = some n ∧ Cond.methodLinkNest own idx (fx_y M') host ∈ fx_tb
theorem fx_nest (ok : fx_ok g) {own host : String} {idx : Nat} {y : MethodName} (hlk : Cond.methodLinkNest own idx y host ∈ fx_tb) {s : State} (hW : (fx_s0 g).WarmedH s.vm) {args : Array Value} : (Cond.methodLinkNest own idx y host).before args s = true := va_Nw.use rfl (va_Nw.warmM hW (va_Nw.of rfl (ok.2.1 _ hlk)))
theorem fx_siteSN (ok : fx_ok g) {idx : Nat} {host : String} {as : List Value} (hm : fx_mn (fx_y M).cls idx as.length M' host) (hst : Cond.static (fx_y M') ∈ fx_tb) (d : decode (fx_cc M) pc = .ok (.invokestatic idx, 3)) : fx_Site g M M' pc h as st (as.reverse ++ st) := by
  intro p e R s m args below meth c F H locs cells slots ls hR hsz T hT X
  obtain ⟨hcw, hini, hy, hlen, hlk⟩ := hm
  have hW := F.2.2.2.2.2.1
  have hcode : (fx_cw M').before args s = true := fx_word ok hcw fx_gcw hW
  obtain ⟨mk, hnamed⟩ := fx_named hcode
  obtain ⟨methM, cM, hmethM, -, -, -, -, -, -, hsigM⟩ := fx_cw_spec hnamed hcode
  have hstatic : methM.isStatic = true := Cond.static_spec (args := args) hnamed hmethM (fx_word ok hst (by first | rfl | simp [goodWord, Cond.onTables, Cond.keeps, Cond.steady]) hW)
  obtain ⟨kP, hkP, -⟩ := className_of_methodNamed hnamed
  have hinitP : kP.init = .initialized := Cond.initialized_spec (args := args) (findClass_of_methodNamed hnamed) hkP (fx_word ok hini (by first | rfl | simp [goodWord, Cond.onTables, Cond.keeps, Cond.steady]) hW)
  have hlen' : as.length = methM.sig.parameters.length := by
    rw [hsigM] at hlen
    exact (Option.some.inj hlen).symm
  have d' : decode c.code pc = .ok (.invokestatic idx, 3) := by rw [F.2.1]; exact d
  obtain ⟨vm₁, X₁, hstep₁⟩ := X.invokestaticNest F.1 F.2.2.2.2.2.2.1 (fx_nest ok hlk hW) hnamed hmethM hstatic hkP hinitP hy (g := F0 m pc ls (as.reverse ++ st)) rfl (argsL := as) (rest := st) hlen' rfl d'
  exact ⟨vm₁, mk, _, X₁, X₁.named hnamed, d', fun target h => hstep₁ _ fun acts => by rw [doInvoke_state]; exact h⟩
theorem fx_siteVN (ok : fx_ok g) {idx b ci : Nat} {host : String} {as : List Value} {q : vw_C} (hm : fx_mn (fx_y M).cls idx as.length M' host) (hin : Cond.instanceMethod (fx_y M') ∈ fx_tb) (hse : Cond.selects (fx_y M').cls (fx_y M') (fx_y M') ∈ fx_tb) (hs : fx_s h b = some (.inl ci)) (hq : fx_cl[ci]? = some q) (hqc : q.1 = (fx_y M').cls)
    (d : decode (fx_cc M) pc = .ok (.invokevirtual idx, 3)) : fx_Site g M M' pc h (.ref b :: as) st (as.reverse ++ .ref b :: st) := by
  intro p e R s m args below meth c F H locs cells slots ls hR hsz T hT X
  obtain ⟨hcw, hini, hy, hlen, hlk⟩ := hm
  have hW := F.2.2.2.2.2.1
  have hcode : (fx_cw M').before args s = true := fx_word ok hcw fx_gcw hW
  obtain ⟨mk, methM, hnamed, hmethM, hstM, habM⟩ := Cond.instanceMethod_spec (args := args) (fx_word ok hin (by first | rfl | simp [goodWord, Cond.onTables, Cond.keeps, Cond.steady]) hW)
  obtain ⟨methM', cM, hmethM', -, -, -, -, -, -, hsigM⟩ := fx_cw_spec hnamed hcode
  cases hmethM.symm.trans hmethM'
  obtain ⟨⟨r, h1, cellB, q1, q2, q3, -⟩, -⟩ := (hR.2.2.2 b _ hs).2.2
  cases Option.some.inj (h1.symm.trans hq)
  have hKn := fx_Kn ok hW hq
  have hcls : s.vm.findClass (fx_y M').cls = some cellB.cls := by
    rw [q2, ← hqc]
    exact hKn.2.1
  obtain ⟨c2, r2, m2, p1, p2, p3, p4, kP, hkP, hkPi⟩ := Cond.selects_spec (args := args) (fx_word ok hse (by first | rfl | simp [goodWord, Cond.onTables, Cond.keeps, Cond.steady]) hW)
  cases hcls.symm.trans p1
  cases (State.methodFound?_of_named hnamed hy).symm.trans p2
  cases hnamed.symm.trans p3
  have hselP : selectMethod e.platform s.vm cellB.cls mk = .method mk := by rw [Launch.admits_selectMethod X.admits]; exact p4
  have hlen' : as.length = methM.sig.parameters.length := by
    rw [hsigM] at hlen
    exact (Option.some.inj hlen).symm
  have d' : decode c.code pc = .ok (.invokevirtual idx, 3) := by rw [F.2.1]; exact d
  obtain ⟨vm₁, X₁, hstep₁⟩ := X.invokevirtualNest F.1 F.2.2.2.2.2.2.1 (fx_nest ok hlk hW) hnamed hmethM hstM hkP hkPi hy (a := b) (cell := cellB) (by rw [hT]; exact q1)
    (fun z hz => by rw [q3] at hz; cases hz) hselP hmethM habM hkP hkPi (g := F0 m pc ls (as.reverse ++ .ref b :: st)) rfl (argsL := as) (rest := st) hlen' rfl d'
  exact ⟨vm₁, mk, _, X₁, X₁.named hnamed, d', fun target h => hstep₁ _ fun acts => by rw [doInvoke_state]; exact h⟩
theorem fx_siteIN (ok : fx_ok g) {idx b : Nat} {host : String} {as : List Value} (hm : fx_mn (fx_y M).cls idx as.length M' host) (hin : Cond.instanceMethod (fx_y M') ∈ fx_tb) (hnm : (fx_y M').name = "<init>") (hh : fx_hd M' = []) (hrt : fx_rt M' = none)
    (d : decode (fx_cc M) pc = .ok (.invokespecial idx, 3)) : fx_Site g M M' pc h (.ref b :: as) st (as.reverse ++ .ref b :: st) := by
  intro p e R s m args below meth c F H locs cells slots ls hR hsz T hT X
  obtain ⟨hcw, hini, hy, hlen, hlk⟩ := hm
  have hW := F.2.2.2.2.2.1
  have hcode : (Cond.code (fx_y M') (fx_cc M') (fx_ml M') none).before args s = true := by
    have h9 : (fx_cw M').before args s = true := fx_word ok hcw fx_gcw hW
    rw [fx_cw, hh] at h9
    rw [← hrt]
    exact h9
  have hpl : e.platform.magicAccessors = ({} : Platform).magicAccessors := by rw [X.admits.platform]
  have d' : decode c.code pc = .ok (.invokespecial idx, 3) := by rw [F.2.1]; exact d
  obtain ⟨mk, methM, cM, kP, vm₁, hnamed, hmethM, hcodeM, -, hlocalsM, -, hkP, -, hW₁, hstep₁⟩ := Steps.initColdArgsNest (e := e) X.here F.1 X.warmed hpl F.2.2.2.2.2.2.1 hnm hy (fx_nest ok hlk hW) (fx_word ok hin (by first | rfl | simp [goodWord, Cond.onTables, Cond.keeps, Cond.steady]) hW) hcode (f := F0 m pc ls (as.reverse ++ .ref b :: st)) rfl
    (argsL := as) (rest := st) (fun sig hsig => by rw [hsig] at hlen; exact (Option.some.inj hlen).symm) rfl d'
  have X₁ := X.noted hW₁
  exact ⟨vm₁, mk, _, X₁, X₁.named hnamed, d', fun target h => hstep₁ _ fun acts => by rw [doInvoke_state]; exact h⟩
end FXO
end
section
/-! ===== an exception that a caller's table catches, the table's classes resolved there and then ===== -/
section FXK
variable {g : fx_G} {M M' : fx_M} {pc : Nat} {lv : List (Nat × Value)} {st : List Value} {h : fx_H} {Q : fx_O → fx_H → Prop} {mc ms : Nat}
/-- what a row of a table does with an object of the class cx -/
def fx_rowNo (e : Env) (s : State) (d : ClassId) (pc : Nat) (cx : ClassId) (y : ExceptionTableEntry) : Prop := covers y pc = false ∨ (y.catchType ≠ 0 ∧ ∃ c, s.vm.ClassLinks e.platform d y.catchType c ∧ s.vm.assignable cx c = false)
theorem fx_goRow {e : Env} {S : State} {f : JFrame} {a : Addr} {x : ExceptionTableEntry} {t : List ExceptionTableEntry} {c : ClassId} {cell : Cell} (hx : covers x f.pc = true) (h0 : x.catchType ≠ 0) (hl : S.vm.ClassLinks e.platform f.method.cls x.catchType c)
    (hcell : S.heap[a]? = some cell) (hobj : ∀ k, cell.vm ≠ .statics k) (hk : ∃ k, S.vm.classes[cell.cls]? = some k) (hc : ∃ k, S.vm.classes[c]? = some k) (Q9 : Handler → Pre) (E : CtlPost) (d : Bool) (acts : List Action) :
    (S.vm.assignable cell.cls c = true → (wp (findHandler.go f a (x :: t)) Q9 E e d acts S ↔ Q9 (.found x.handlerPc) d acts (S.setVm (S.vm.noted f.method.cls x.catchType (.cls c))))) ∧
    (S.vm.assignable cell.cls c = false → (wp (findHandler.go f a (x :: t)) Q9 E e d acts S ↔ wp (findHandler.go f a t) Q9 E e d acts (S.setVm (S.vm.noted f.method.cls x.catchType (.cls c))))) := by
  simp only [covers] at hx
  obtain ⟨ha, ht⟩ := (resolveClass_links e.toSetting hl).op (op := VmOp.resolveClass f.method.cls x.catchType) rfl
  have hal : S.vm.Alike (S.vm.noted f.method.cls x.catchType (.cls c)) := (Vm.Alike.refl S.vm).noted _ _ _
  obtain ⟨k1, hk1⟩ := hk
  obtain ⟨k2, hk2⟩ := hc
  obtain ⟨k1', hk1', -⟩ := hal.2.2 _ _ hk1
  obtain ⟨k2', hk2', -⟩ := hal.2.2 _ _ hk2
  refine ⟨fun hf => ?_, fun hf => ?_⟩
  · have hf' : (S.vm.noted f.method.cls x.catchType (.cls c)).assignable cell.cls c = true := by rw [hal.assignable]; exact hf
    simp [findHandler.go, hx, h0, ha, ht, hcell, hobj, hk1', hk2', hf', VmOp.dirties, VmOp.acts]
  · have hf' : (S.vm.noted f.method.cls x.catchType (.cls c)).assignable cell.cls c = false := by rw [hal.assignable]; exact hf
    simp [findHandler.go, hx, h0, ha, ht, hcell, hobj, hk1', hk2', hf', VmOp.dirties, VmOp.acts]
theorem fx_goAll {e : Env} {s : State} {f : JFrame} {a : Addr} {cell : Cell} (hobj : ∀ k, cell.vm ≠ .statics k) (hk0 : ∃ k, s.vm.classes[cell.cls]? = some k) (x : ExceptionTableEntry) (rest : List ExceptionTableEntry) (hx : covers x f.pc = true) (h0 : x.catchType ≠ 0)
    {c : ClassId} (hl : s.vm.ClassLinks e.platform f.method.cls x.catchType c) (hfit : s.vm.assignable cell.cls c = true) : ∀ (pre : List ExceptionTableEntry) (S : State), s.WarmedH S.vm → S.heap[a]? = some cell → (∀ y ∈ pre, fx_rowNo e s f.method.cls f.pc cell.cls y) →
      ∃ vm', s.WarmedH vm' ∧ ∀ (Q9 : Handler → Pre) (E : CtlPost) (d : Bool) (acts : List Action), wp (findHandler.go f a (pre ++ x :: rest)) Q9 E e d acts S ↔ Q9 (.found x.handlerPc) d acts (S.setVm vm') := by
  obtain ⟨k0, hk0⟩ := hk0
  intro pre
  induction pre with
  | nil =>
    intro S hW hcell _
    obtain ⟨k0', hk0', -⟩ := hW.alike.2.2 _ _ hk0
    obtain ⟨dk, _, _, kt, hd, _, _, _, _, hkt, _, hopen⟩ := hl.here
    obtain ⟨kt', hkt', -⟩ := hW.alike.2.2 _ _ hkt
    exact ⟨_, hW.noted hd hopen (State.rightAt_cls hl), fun Q9 E d acts => (fx_goRow (t := rest) hx h0 (hW.classLinks hl) hcell hobj ⟨k0', hk0'⟩ ⟨kt', hkt'⟩ Q9 E d acts).1 (by rw [hW.alike.assignable]; exact hfit)⟩
  | cons y ys ih =>
    intro S hW hcell hno
    obtain ⟨k0', hk0', -⟩ := hW.alike.2.2 _ _ hk0
    have hrest : ∀ z ∈ ys, fx_rowNo e s f.method.cls f.pc cell.cls z := fun z hz => hno z (List.mem_cons_of_mem _ hz)
    by_cases hcov : covers y f.pc = true
    · rcases hno y List.mem_cons_self with h1 | ⟨h1, c1, hl1, hn1⟩
      · rw [h1] at hcov; cases hcov
      · obtain ⟨dk, _, _, kt, hd, _, _, _, _, hkt, _, hopen⟩ := hl1.here
        obtain ⟨kt', hkt', -⟩ := hW.alike.2.2 _ _ hkt
        obtain ⟨vm', hW', hq⟩ := ih (S.setVm (S.vm.noted f.method.cls y.catchType (.cls c1))) (hW.noted hd hopen (State.rightAt_cls hl1)) hcell hrest
        exact ⟨vm', hW', fun Q9 E d acts => by
          rw [List.cons_append, (fx_goRow (t := ys ++ x :: rest) hcov h1 (hW.classLinks hl1) hcell hobj ⟨k0', hk0'⟩ ⟨kt', hkt'⟩ Q9 E d acts).2 (by rw [hW.alike.assignable]; exact hn1)]
          exact hq Q9 E d acts⟩
    · obtain ⟨vm', hW', hq⟩ := ih S hW hcell hrest
      exact ⟨vm', hW', fun Q9 E d acts => by
        rw [List.cons_append, W.findHandler_go_skip (by simpa using hcov)]
        exact hq Q9 E d acts⟩
theorem fx_caught {p : Program} {l : Launch} {e : Env} {R : Room} {s T : State} {m : MethodId} {args : Array Value} {below : List Frame} {meth : Method} {c : Code} {locs : List Loc} {cells slots : Nat} (X : Stand p l e R s m args below meth c T locs cells slots) (a : Addr) {gf : JFrame} (hg : gf.method = m) {cell : Cell} (hcell : T.heap[a]? = some cell) (hv : cell.vm = .none) (hk0 : ∃ k, s.vm.classes[cell.cls]? = some k)
    (pre : List ExceptionTableEntry) (x : ExceptionTableEntry) (rest : List ExceptionTableEntry) (hsplit : c.exceptionTable.toList = pre ++ x :: rest) (hpass : ∀ y ∈ pre, fx_rowNo e s m.cls gf.pc cell.cls y) (hx : covers x gf.pc = true) (h0 : x.catchType ≠ 0) {ct : ClassId} (hl : s.vm.ClassLinks e.platform m.cls x.catchType ct) (hfit : s.vm.assignable cell.cls ct = true) :
    ∃ vm', Stand p l e R s m args below meth c (T.setVm vm') locs cells slots ∧ ∀ target, Steps p.tables e below ((T.setVm vm').setTop { gf with pc := x.handlerPc, stack := [.ref a] }) target → Steps p.tables e below ((T.setTop gf).pushFrame (.throwing a)) target := by
  subst hg
  obtain ⟨vm', hW', hq⟩ := fx_goAll (e := e) (s := s) (f := gf) (a := a) (cell := cell) (fun k hk => by rw [hv] at hk; cases hk) hk0 x rest hx h0 hl hfit pre ((T.setTop gf).pushFrame (.throwing a)) X.warmed hcell hpass
  refine ⟨vm', X.noted hW', fun target hrest => ?_⟩
  have hfind : ∀ (Q9 : Handler → Pre) (E : CtlPost) (d : Bool) (acts : List Action), wp (findHandler gf a) Q9 E e d acts ((T.setTop gf).pushFrame (.throwing a)) ↔ Q9 (.found x.handlerPc) d acts (((T.setTop gf).pushFrame (.throwing a)).setVm vm') := by
    intro Q9 E d acts
    rw [W.findHandler_eq (s := (T.setTop gf).pushFrame (.throwing a)) (meth := meth) (code := c) X.method' X.code, hsplit]
    exact hq Q9 E d acts
  have hh := X.here
  obtain ⟨hgo, hw⟩ := hh.throwing a
  refine Steps.head hgo hw ?_
  have hstep : (stepThrowing e ((T.setTop gf).pushFrame (.throwing a)) a (.java gf :: T.frames.tail)).Is ((((T.setTop gf).pushFrame (.throwing a)).setVm vm').setFrames (.java { gf with pc := x.handlerPc, stack := [.ref a] } :: T.frames.tail)) [] := by
    simp only [stepThrowing, searchFrame, vmDo]
    generalize hr : Sem.go _ e false [] ((T.setTop gf).pushFrame (.throwing a)) = res
    obtain ⟨as, rfl, ha⟩ := Sem.eq_ok_of hr (a := Handler.found x.handlerPc) (s' := ((T.setTop gf).pushFrame (.throwing a)).setVm vm') (acts' := []) (by simp [hfind _ _ _ _])
    exact ⟨rfl, ha⟩
  rw [stepThread_throwing (frames_entered hh.top _), hstep.1]
  obtain ⟨g0, hg0⟩ := Option.isSome_iff_exists.mp hh.top
  obtain ⟨r, hr⟩ := State.topJava?_eq_some.mp hg0
  have hr' : (T.setVm vm').frames = .java g0 :: r := hr
  rw [State.setTop_of_frames _ hr'] at hrest
  have key : ∀ (u : State) (F G : List Frame), ((u.setFrames F).setVm vm').setFrames G = (u.setVm vm').setFrames G := fun u F G => by
    have h1 : (u.setFrames F).setVm vm' = (u.setVm vm').setFrames F := rfl
    rw [h1, State.setFrames_setFrames]
  rw [hr, List.tail_cons, State.pushFrame, key, State.setTop_of_frames _ hr, key]
  exact hrest
end FXK
end
section
/-! ===== catching by name; constants by a wide index; switches; calls by their arity ===== -/
section FXS
variable {g : fx_G} {M M' : fx_M} {pc : Nat} {lv : List (Nat × Value)} {st : List Value} {h k : fx_H} {Q : fx_O → fx_H → Prop} {mc ms mc' ms' : Nat} {x : Int32}
theorem fx_T_catch (ok : fx_ok g) {E name : String} {pre' suf' : List (Nat × Nat × Nat × Nat)} {a b hp ct : Nat} (hh : fx_hd M = pre' ++ (a, b, hp, ct) :: suf') (hab : a ≤ pc ∧ pc < b) (h0 : ct ≠ 0) (hlk : Cond.classLink (fx_y M).cls ct name ∈ fx_tb) (hcast : Cond.castable E name ∈ fx_tb)
    (hpass : ∀ r ∈ pre', ¬ (r.1 ≤ pc ∧ pc < r.2.1) ∨ (r.2.2.2 ≠ 0 ∧ ∃ nm, Cond.classLink (fx_y M).cls r.2.2.2 nm ∈ fx_tb ∧ Cond.not (.castable E nm) ∈ fx_tb)) (K : ∀ q, fx_X g M hp lv [.ref q] h Q mc ms) : fx_T g M pc lv E h Q mc ms := by
  intro p e R s m args below meth c F H locs cells slots ls rest q ce hR hL hc hs hl hce hv hcl T hT X
  have hW := F.2.2.2.2.2.1
  have hown := F.2.2.2.2.2.2.1
  have hpl : e.platform.magicAccessors = ({} : Platform).magicAccessors := by rw [X.admits.platform]
  have hrows : c.exceptionTable.toList.map (fun h => (h.startPc, h.endPc, h.handlerPc, h.catchType)) = pre' ++ (a, b, hp, ct) :: suf' := F.2.2.2.2.2.2.2.2.1.trans hh
  obtain ⟨l1, l2, hsplit, h1, h2⟩ := List.map_eq_append_iff.mp hrows
  obtain ⟨y, l3, hl2, hy, h3⟩ := List.map_eq_cons_iff.mp h2
  subst hl2
  simp only [Prod.mk.injEq] at hy
  obtain ⟨y1, y2, y3, y4⟩ := hy
  obtain ⟨c3, c4, hc3, hc4, hasg⟩ := Cond.castable_spec (args := args) (fx_cast ok hcast hW)
  cases Option.some.inj (hc3.symm.trans hcl)
  obtain ⟨c5, hc5, hcl5⟩ := Cond.classLink_spec hown (fx_word ok hlk (by first | rfl | simp [goodWord, Cond.onTables, Cond.keeps, Cond.steady]) hW (args := args)) e.platform hpl
  cases Option.some.inj (hc4.symm.trans hc5)
  obtain ⟨kc, hkc, -⟩ := Vm.findClass_spec hcl
  obtain ⟨vm', X', st'⟩ := fx_caught X q (gf := F0 m pc ls rest) rfl (by rw [hT]; exact hce) hv ⟨kc, hkc⟩ l1 y l3 hsplit (fun z hz => by
      have hz' : (z.startPc, z.endPc, z.handlerPc, z.catchType) ∈ pre' := by
        rw [← h1]
        exact List.mem_map.mpr ⟨z, hz, rfl⟩
      rcases hpass _ hz' with h9 | ⟨h9, nm, hn1, hn2⟩
      · refine Or.inl ?_
        have h8 : ¬ (z.startPc ≤ pc ∧ pc < z.endPc) := h9
        simp only [covers]
        simpa using h8
      · obtain ⟨a8, b8, g1, g2, g3⟩ := (va_Nc.of (ok.2.1 _ hn2)).moved hW.alike
        cases Option.some.inj (g1.symm.trans hcl)
        obtain ⟨c6, hc6, hcl6⟩ := Cond.classLink_spec hown (fx_word ok hn1 (by first | rfl | simp [goodWord, Cond.onTables, Cond.keeps, Cond.steady]) hW (args := args)) e.platform hpl
        cases Option.some.inj (g2.symm.trans hc6)
        exact Or.inr ⟨h9, _, hcl6, g3⟩) (by simp only [covers]; rw [y1, y2]; simpa using hab) (by rw [y4]; exact h0) (by rw [y4]; exact hcl5) hasg
  rw [y3] at st'
  obtain ⟨t, a1, b1⟩ := K q p e R s m args below meth c F H locs cells slots ls hR hL hc hs hl (T.setVm vm') hT X'
  exact ⟨t, st' t a1, b1⟩
theorem fx_ldc_w (ok : fx_ok g) {idx : Nat} {v : Int32} (hk : Cond.constant (fx_y M).cls idx v ∈ fx_tb) (d : decode (fx_cc M) pc = .ok (.ldc_w idx, 3)) (K : fx_X g M (pc + 3) lv (.int v :: st) h Q mc ms) : fx_X g M pc lv st h Q mc ms := by
  intro p e R s m args below meth c F H locs cells slots ls hR hL hc hs hl T hT X
  obtain ⟨t, a1, b1⟩ := K p e R s m args below meth c F H locs cells slots ls hR hL hc hs hl T hT X
  refine ⟨t, ?_, b1⟩
  obtain ⟨kc, cf, bytes, hkc, hcf, hcp, hb⟩ := Cond.constant_spec F.2.2.2.2.2.2.1 (fx_word ok hk (by first | rfl | simp [goodWord, Cond.onTables, Cond.keeps, Cond.steady]) F.2.2.2.2.2.1 (args := args))
  obtain ⟨k', hk', he⟩ := X.warmed.alike.2.2 _ _ hkc
  have d' : decode c.code pc = .ok (.ldc_w idx, 3) := by rw [F.2.1]; exact d
  jvm_step X.here [F.1, d', ldc_w.wp_int (s := T) (f := F0 m pc ls st) X.here.top hk' (by rw [he]; exact hcf) hcp, hb]
  exact a1
theorem fx_tsIn {dflt lo hi off : Int} {offs : Array Int} {len tgt : Nat} (d : decode (fx_cc M) pc = .ok (.tableswitch dflt lo hi offs, len)) (h1 : ¬ x.toInt < lo) (h2 : ¬ hi < x.toInt) (ho : offs[(x.toInt - lo).toNat]? = some off) (ht : (pc : Int) + off = (tgt : Int)) (K : fx_X g M tgt lv st h Q mc ms) : fx_X g M pc lv (.int x :: st) h Q mc ms := by
  intro p e R s m args below meth c F H locs cells slots ls hR hL hc hs hl
  exact lv_tableIn F.1 F.2.1 d h1 h2 ho ht (K p e R s m args below meth c F H locs cells slots ls hR hL hc hs hl)
theorem fx_tsOut {dflt lo hi : Int} {offs : Array Int} {len tgt : Nat} (d : decode (fx_cc M) pc = .ok (.tableswitch dflt lo hi offs, len)) (h1 : x.toInt < lo ∨ hi < x.toInt) (ht : (pc : Int) + dflt = (tgt : Int)) (K : fx_X g M tgt lv st h Q mc ms) : fx_X g M pc lv (.int x :: st) h Q mc ms := by
  intro p e R s m args below meth c F H locs cells slots ls hR hL hc hs hl
  exact lv_tableOut F.1 F.2.1 d h1 ht (K p e R s m args below meth c F H locs cells slots ls hR hL hc hs hl)
theorem fx_widen {mc2 ms2 : Nat} (h1 : mc ≤ mc2) (h2 : ms ≤ ms2) (K : fx_X g M pc lv st h Q mc ms) : fx_X g M pc lv st h Q mc2 ms2 := by
  intro p e R s m args below meth c F H locs cells slots ls hR hL hc hs hl
  exact K p e R s m args below meth c F H locs cells slots ls hR hL (by omega) (by omega) hl
abbrev fx_is (v : Option Int32) (k : fx_H) : fx_O → fx_H → Prop := fun o h' => o = .inl v ∧ h' = k
abbrev fx_th (E : String) (k : fx_H) : fx_O → fx_H → Prop := fun o h' => o = .inr E ∧ h' = k
theorem fx_callR (ok : fx_ok g) {as st' : List Value} {v : Option Int32} (hC : fx_C g M' as h (fx_is v k) mc' ms') (S : fx_Site g M M' pc h as st st') (hcw : fx_cw M' ∈ fx_tb) (hini : Cond.initialized (fx_y M').cls ∈ fx_tb) (hlv : fx_lv M' + 1 ≤ fx_lv M) (hlo : (st.map fun v => v.category).sum + (fx_ml M' + 11) + fx_lw M' ≤ fx_lw M)
    (K : fx_X g M (pc + 3) lv ((v.map Value.int).toList ++ st) k Q mc ms) : fx_X g M pc lv st' h Q (mc' + mc) (ms' + ms) :=
  fx_call ok hC S hcw hini hlv hlo (fun v' h' hq => by obtain ⟨e1, rfl⟩ := hq; cases e1; exact K) (fun E h' hq => by cases hq.1)
theorem fx_callR0 (ok : fx_ok g) {as st' : List Value} {v : Option Int32} (hC : fx_C g M' as h (fx_is v k) 0 0) (S : fx_Site g M M' pc h as st st') (hcw : fx_cw M' ∈ fx_tb) (hini : Cond.initialized (fx_y M').cls ∈ fx_tb) (hlv : fx_lv M' + 1 ≤ fx_lv M) (hlo : (st.map fun v => v.category).sum + (fx_ml M' + 11) + fx_lw M' ≤ fx_lw M)
    (K : fx_X g M (pc + 3) lv ((v.map Value.int).toList ++ st) k Q mc ms) : fx_X g M pc lv st' h Q mc ms := by
  have h9 := fx_callR ok hC S hcw hini hlv hlo K
  rw [Nat.zero_add, Nat.zero_add] at h9
  exact h9
theorem fx_callT (ok : fx_ok g) {as st' : List Value} {E : String} (hC : fx_C g M' as h (fx_th E k) mc' ms') (S : fx_Site g M M' pc h as st st') (hcw : fx_cw M' ∈ fx_tb) (hini : Cond.initialized (fx_y M').cls ∈ fx_tb) (hlv : fx_lv M' + 1 ≤ fx_lv M) (hlo : (st.map fun v => v.category).sum + (fx_ml M' + 11) + fx_lw M' ≤ fx_lw M)
    (K : fx_T g M pc lv E k Q mc ms) : fx_X g M pc lv st' h Q (mc' + mc) (ms' + ms) :=
  fx_call ok hC S hcw hini hlv hlo (fun v' h' hq => by cases hq.1) (fun E' h' hq => by obtain ⟨e1, rfl⟩ := hq; cases e1; exact K)
/-- the words of a static call, of a call on an object, of a constructor -/
abbrev fx_wS (own : String) (idx n : Nat) (M' : fx_M) : Prop := fx_mw own idx n M' ∧ Cond.static (fx_y M') ∈ fx_tb
abbrev fx_wV (own : String) (idx n : Nat) (M' : fx_M) (ci : Nat) : Prop := fx_mw own idx n M' ∧ Cond.instanceMethod (fx_y M') ∈ fx_tb ∧ Cond.selects (fx_y M').cls (fx_y M') (fx_y M') ∈ fx_tb ∧ ∃ q : vw_C, fx_cl[ci]? = some q ∧ q.1 = (fx_y M').cls
abbrev fx_wI (own : String) (idx n : Nat) (M' : fx_M) : Prop := fx_mw own idx n M' ∧ Cond.instanceMethod (fx_y M') ∈ fx_tb ∧ (fx_y M').name = "<init>" ∧ fx_hd M' = [] ∧ fx_rt M' = none
abbrev fx_wN (own : String) (idx n : Nat) (M' : fx_M) (host : String) : Prop := fx_mn own idx n M' host ∧ Cond.instanceMethod (fx_y M') ∈ fx_tb ∧ (fx_y M').name = "<init>" ∧ fx_hd M' = [] ∧ fx_rt M' = none
abbrev fx_wSN (own : String) (idx n : Nat) (M' : fx_M) (host : String) : Prop := fx_mn own idx n M' host ∧ Cond.static (fx_y M') ∈ fx_tb
theorem fx_Si0 (ok : fx_ok g) {idx : Nat} (w : fx_wS (fx_y M).cls idx 0 M') (hC : fx_C g M' ([] : List Value) h (fx_is (some x) k) 0 0) (hlv : fx_lv M' + 1 ≤ fx_lv M) (hlo : (st.map fun v => v.category).sum + (fx_ml M' + 11) + fx_lw M' ≤ fx_lw M) (d : decode (fx_cc M) pc = .ok (.invokestatic idx, 3))
    (K : fx_X g M (pc + 3) lv (.int x :: st) k Q mc ms) : fx_X g M pc lv (st) h Q mc ms :=
  fx_callR0 ok hC (fx_siteS ok (as := []) w.1 w.2 d) w.1.1 w.1.2.1 hlv hlo K
theorem fx_Sv0 (ok : fx_ok g) {idx : Nat} (w : fx_wS (fx_y M).cls idx 0 M') (hC : fx_C g M' ([] : List Value) h (fx_is none k) 0 0) (hlv : fx_lv M' + 1 ≤ fx_lv M) (hlo : (st.map fun v => v.category).sum + (fx_ml M' + 11) + fx_lw M' ≤ fx_lw M) (d : decode (fx_cc M) pc = .ok (.invokestatic idx, 3))
    (K : fx_X g M (pc + 3) lv st k Q mc ms) : fx_X g M pc lv (st) h Q mc ms :=
  fx_callR0 ok hC (fx_siteS ok (as := []) w.1 w.2 d) w.1.1 w.1.2.1 hlv hlo K
theorem fx_Sa0 (ok : fx_ok g) {idx : Nat} (w : fx_wS (fx_y M).cls idx 0 M') (hC : fx_C g M' ([] : List Value) h (fx_is none k) mc' ms') (hlv : fx_lv M' + 1 ≤ fx_lv M) (hlo : (st.map fun v => v.category).sum + (fx_ml M' + 11) + fx_lw M' ≤ fx_lw M) (d : decode (fx_cc M) pc = .ok (.invokestatic idx, 3))
    (K : fx_X g M (pc + 3) lv st k Q mc ms) : fx_X g M pc lv (st) h Q (mc' + mc) (ms' + ms) :=
  fx_callR ok hC (fx_siteS ok (as := []) w.1 w.2 d) w.1.1 w.1.2.1 hlv hlo K
theorem fx_Sb0 (ok : fx_ok g) {idx : Nat} (w : fx_wS (fx_y M).cls idx 0 M') (hC : fx_C g M' ([] : List Value) h (fx_is (some x) k) mc' ms') (hlv : fx_lv M' + 1 ≤ fx_lv M) (hlo : (st.map fun v => v.category).sum + (fx_ml M' + 11) + fx_lw M' ≤ fx_lw M) (d : decode (fx_cc M) pc = .ok (.invokestatic idx, 3))
    (K : fx_X g M (pc + 3) lv (.int x :: st) k Q mc ms) : fx_X g M pc lv (st) h Q (mc' + mc) (ms' + ms) :=
  fx_callR ok hC (fx_siteS ok (as := []) w.1 w.2 d) w.1.1 w.1.2.1 hlv hlo K
theorem fx_St0 (ok : fx_ok g) {idx : Nat} (w : fx_wS (fx_y M).cls idx 0 M') {E : String} (hC : fx_C g M' ([] : List Value) h (fx_th E k) mc' ms') (hlv : fx_lv M' + 1 ≤ fx_lv M) (hlo : (st.map fun v => v.category).sum + (fx_ml M' + 11) + fx_lw M' ≤ fx_lw M) (d : decode (fx_cc M) pc = .ok (.invokestatic idx, 3))
    (K : fx_T g M pc lv E k Q mc ms) : fx_X g M pc lv (st) h Q (mc' + mc) (ms' + ms) :=
  fx_callT ok hC (fx_siteS ok (as := []) w.1 w.2 d) w.1.1 w.1.2.1 hlv hlo K
theorem fx_Vi0 (ok : fx_ok g) {idx : Nat} {b ci : Nat} (w : fx_wV (fx_y M).cls idx 0 M' ci) (hb : fx_s h b = some (.inl ci)) (hC : fx_C g M' (Value.ref b :: []) h (fx_is (some x) k) 0 0) (hlv : fx_lv M' + 1 ≤ fx_lv M) (hlo : (st.map fun v => v.category).sum + (fx_ml M' + 11) + fx_lw M' ≤ fx_lw M) (d : decode (fx_cc M) pc = .ok (.invokevirtual idx, 3))
    (K : fx_X g M (pc + 3) lv (.int x :: st) k Q mc ms) : fx_X g M pc lv (Value.ref b :: st) h Q mc ms := by
  obtain ⟨q, hq, hqc⟩ := w.2.2.2
  exact fx_callR0 ok hC (fx_siteV ok (as := []) w.1 w.2.1 w.2.2.1 hb hq hqc d) w.1.1 w.1.2.1 hlv hlo K
theorem fx_Vv0 (ok : fx_ok g) {idx : Nat} {b ci : Nat} (w : fx_wV (fx_y M).cls idx 0 M' ci) (hb : fx_s h b = some (.inl ci)) (hC : fx_C g M' (Value.ref b :: []) h (fx_is none k) 0 0) (hlv : fx_lv M' + 1 ≤ fx_lv M) (hlo : (st.map fun v => v.category).sum + (fx_ml M' + 11) + fx_lw M' ≤ fx_lw M) (d : decode (fx_cc M) pc = .ok (.invokevirtual idx, 3))
    (K : fx_X g M (pc + 3) lv st k Q mc ms) : fx_X g M pc lv (Value.ref b :: st) h Q mc ms := by
  obtain ⟨q, hq, hqc⟩ := w.2.2.2
  exact fx_callR0 ok hC (fx_siteV ok (as := []) w.1 w.2.1 w.2.2.1 hb hq hqc d) w.1.1 w.1.2.1 hlv hlo K
theorem fx_Va0 (ok : fx_ok g) {idx : Nat} {b ci : Nat} (w : fx_wV (fx_y M).cls idx 0 M' ci) (hb : fx_s h b = some (.inl ci)) (hC : fx_C g M' (Value.ref b :: []) h (fx_is none k) mc' ms') (hlv : fx_lv M' + 1 ≤ fx_lv M) (hlo : (st.map fun v => v.category).sum + (fx_ml M' + 11) + fx_lw M' ≤ fx_lw M) (d : decode (fx_cc M) pc = .ok (.invokevirtual idx, 3))
    (K : fx_X g M (pc + 3) lv st k Q mc ms) : fx_X g M pc lv (Value.ref b :: st) h Q (mc' + mc) (ms' + ms) := by
  obtain ⟨q, hq, hqc⟩ := w.2.2.2
  exact fx_callR ok hC (fx_siteV ok (as := []) w.1 w.2.1 w.2.2.1 hb hq hqc d) w.1.1 w.1.2.1 hlv hlo K
theorem fx_Vb0 (ok : fx_ok g) {idx : Nat} {b ci : Nat} (w : fx_wV (fx_y M).cls idx 0 M' ci) (hb : fx_s h b = some (.inl ci)) (hC : fx_C g M' (Value.ref b :: []) h (fx_is (some x) k) mc' ms') (hlv : fx_lv M' + 1 ≤ fx_lv M) (hlo : (st.map fun v => v.category).sum + (fx_ml M' + 11) + fx_lw M' ≤ fx_lw M) (d : decode (fx_cc M) pc = .ok (.invokevirtual idx, 3))
    (K : fx_X g M (pc + 3) lv (.int x :: st) k Q mc ms) : fx_X g M pc lv (Value.ref b :: st) h Q (mc' + mc) (ms' + ms) := by
  obtain ⟨q, hq, hqc⟩ := w.2.2.2
  exact fx_callR ok hC (fx_siteV ok (as := []) w.1 w.2.1 w.2.2.1 hb hq hqc d) w.1.1 w.1.2.1 hlv hlo K
theorem fx_Vt0 (ok : fx_ok g) {idx : Nat} {b ci : Nat} (w : fx_wV (fx_y M).cls idx 0 M' ci) (hb : fx_s h b = some (.inl ci)) {E : String} (hC : fx_C g M' (Value.ref b :: []) h (fx_th E k) mc' ms') (hlv : fx_lv M' + 1 ≤ fx_lv M) (hlo : (st.map fun v => v.category).sum + (fx_ml M' + 11) + fx_lw M' ≤ fx_lw M) (d : decode (fx_cc M) pc = .ok (.invokevirtual idx, 3))
    (K : fx_T g M pc lv E k Q mc ms) : fx_X g M pc lv (Value.ref b :: st) h Q (mc' + mc) (ms' + ms) := by
  obtain ⟨q, hq, hqc⟩ := w.2.2.2
  exact fx_callT ok hC (fx_siteV ok (as := []) w.1 w.2.1 w.2.2.1 hb hq hqc d) w.1.1 w.1.2.1 hlv hlo K
theorem fx_Si1 (ok : fx_ok g) {idx : Nat} {a1 : Value} (w : fx_wS (fx_y M).cls idx 1 M') (hC : fx_C g M' ([a1] : List Value) h (fx_is (some x) k) 0 0) (hlv : fx_lv M' + 1 ≤ fx_lv M) (hlo : (st.map fun v => v.category).sum + (fx_ml M' + 11) + fx_lw M' ≤ fx_lw M) (d : decode (fx_cc M) pc = .ok (.invokestatic idx, 3))
    (K : fx_X g M (pc + 3) lv (.int x :: st) k Q mc ms) : fx_X g M pc lv (a1 :: st) h Q mc ms :=
  fx_callR0 ok hC (fx_siteS ok (as := [a1]) w.1 w.2 d) w.1.1 w.1.2.1 hlv hlo K
theorem fx_Sv1 (ok : fx_ok g) {idx : Nat} {a1 : Value} (w : fx_wS (fx_y M).cls idx 1 M') (hC : fx_C g M' ([a1] : List Value) h (fx_is none k) 0 0) (hlv : fx_lv M' + 1 ≤ fx_lv M) (hlo : (st.map fun v => v.category).sum + (fx_ml M' + 11) + fx_lw M' ≤ fx_lw M) (d : decode (fx_cc M) pc = .ok (.invokestatic idx, 3))
    (K : fx_X g M (pc + 3) lv st k Q mc ms) : fx_X g M pc lv (a1 :: st) h Q mc ms :=
  fx_callR0 ok hC (fx_siteS ok (as := [a1]) w.1 w.2 d) w.1.1 w.1.2.1 hlv hlo K
theorem fx_Sa1 (ok : fx_ok g) {idx : Nat} {a1 : Value} (w : fx_wS (fx_y M).cls idx 1 M') (hC : fx_C g M' ([a1] : List Value) h (fx_is none k) mc' ms') (hlv : fx_lv M' + 1 ≤ fx_lv M) (hlo : (st.map fun v => v.category).sum + (fx_ml M' + 11) + fx_lw M' ≤ fx_lw M) (d : decode (fx_cc M) pc = .ok (.invokestatic idx, 3))
    (K : fx_X g M (pc + 3) lv st k Q mc ms) : fx_X g M pc lv (a1 :: st) h Q (mc' + mc) (ms' + ms) :=
  fx_callR ok hC (fx_siteS ok (as := [a1]) w.1 w.2 d) w.1.1 w.1.2.1 hlv hlo K
theorem fx_Sb1 (ok : fx_ok g) {idx : Nat} {a1 : Value} (w : fx_wS (fx_y M).cls idx 1 M') (hC : fx_C g M' ([a1] : List Value) h (fx_is (some x) k) mc' ms') (hlv : fx_lv M' + 1 ≤ fx_lv M) (hlo : (st.map fun v => v.category).sum + (fx_ml M' + 11) + fx_lw M' ≤ fx_lw M) (d : decode (fx_cc M) pc = .ok (.invokestatic idx, 3))
    (K : fx_X g M (pc + 3) lv (.int x :: st) k Q mc ms) : fx_X g M pc lv (a1 :: st) h Q (mc' + mc) (ms' + ms) :=
  fx_callR ok hC (fx_siteS ok (as := [a1]) w.1 w.2 d) w.1.1 w.1.2.1 hlv hlo K
theorem fx_St1 (ok : fx_ok g) {idx : Nat} {a1 : Value} (w : fx_wS (fx_y M).cls idx 1 M') {E : String} (hC : fx_C g M' ([a1] : List Value) h (fx_th E k) mc' ms') (hlv : fx_lv M' + 1 ≤ fx_lv M) (hlo : (st.map fun v => v.category).sum + (fx_ml M' + 11) + fx_lw M' ≤ fx_lw M) (d : decode (fx_cc M) pc = .ok (.invokestatic idx, 3))
    (K : fx_T g M pc lv E k Q mc ms) : fx_X g M pc lv (a1 :: st) h Q (mc' + mc) (ms' + ms) :=
  fx_callT ok hC (fx_siteS ok (as := [a1]) w.1 w.2 d) w.1.1 w.1.2.1 hlv hlo K
theorem fx_Vi1 (ok : fx_ok g) {idx : Nat} {b ci : Nat} {a1 : Value} (w : fx_wV (fx_y M).cls idx 1 M' ci) (hb : fx_s h b = some (.inl ci)) (hC : fx_C g M' (Value.ref b :: [a1]) h (fx_is (some x) k) 0 0) (hlv : fx_lv M' + 1 ≤ fx_lv M) (hlo : (st.map fun v => v.category).sum + (fx_ml M' + 11) + fx_lw M' ≤ fx_lw M) (d : decode (fx_cc M) pc = .ok (.invokevirtual idx, 3))
    (K : fx_X g M (pc + 3) lv (.int x :: st) k Q mc ms) : fx_X g M pc lv (a1 :: Value.ref b :: st) h Q mc ms := by
  obtain ⟨q, hq, hqc⟩ := w.2.2.2
  exact fx_callR0 ok hC (fx_siteV ok (as := [a1]) w.1 w.2.1 w.2.2.1 hb hq hqc d) w.1.1 w.1.2.1 hlv hlo K
theorem fx_Vv1 (ok : fx_ok g) {idx : Nat} {b ci : Nat} {a1 : Value} (w : fx_wV (fx_y M).cls idx 1 M' ci) (hb : fx_s h b = some (.inl ci)) (hC : fx_C g M' (Value.ref b :: [a1]) h (fx_is none k) 0 0) (hlv : fx_lv M' + 1 ≤ fx_lv M) (hlo : (st.map fun v => v.category).sum + (fx_ml M' + 11) + fx_lw M' ≤ fx_lw M) (d : decode (fx_cc M) pc = .ok (.invokevirtual idx, 3))
    (K : fx_X g M (pc + 3) lv st k Q mc ms) : fx_X g M pc lv (a1 :: Value.ref b :: st) h Q mc ms := by
  obtain ⟨q, hq, hqc⟩ := w.2.2.2
  exact fx_callR0 ok hC (fx_siteV ok (as := [a1]) w.1 w.2.1 w.2.2.1 hb hq hqc d) w.1.1 w.1.2.1 hlv hlo K
theorem fx_Va1 (ok : fx_ok g) {idx : Nat} {b ci : Nat} {a1 : Value} (w : fx_wV (fx_y M).cls idx 1 M' ci) (hb : fx_s h b = some (.inl ci)) (hC : fx_C g M' (Value.ref b :: [a1]) h (fx_is none k) mc' ms') (hlv : fx_lv M' + 1 ≤ fx_lv M) (hlo : (st.map fun v => v.category).sum + (fx_ml M' + 11) + fx_lw M' ≤ fx_lw M) (d : decode (fx_cc M) pc = .ok (.invokevirtual idx, 3))
    (K : fx_X g M (pc + 3) lv st k Q mc ms) : fx_X g M pc lv (a1 :: Value.ref b :: st) h Q (mc' + mc) (ms' + ms) := by
  obtain ⟨q, hq, hqc⟩ := w.2.2.2
  exact fx_callR ok hC (fx_siteV ok (as := [a1]) w.1 w.2.1 w.2.2.1 hb hq hqc d) w.1.1 w.1.2.1 hlv hlo K
theorem fx_Vb1 (ok : fx_ok g) {idx : Nat} {b ci : Nat} {a1 : Value} (w : fx_wV (fx_y M).cls idx 1 M' ci) (hb : fx_s h b = some (.inl ci)) (hC : fx_C g M' (Value.ref b :: [a1]) h (fx_is (some x) k) mc' ms') (hlv : fx_lv M' + 1 ≤ fx_lv M) (hlo : (st.map fun v => v.category).sum + (fx_ml M' + 11) + fx_lw M' ≤ fx_lw M) (d : decode (fx_cc M) pc = .ok (.invokevirtual idx, 3))
    (K : fx_X g M (pc + 3) lv (.int x :: st) k Q mc ms) : fx_X g M pc lv (a1 :: Value.ref b :: st) h Q (mc' + mc) (ms' + ms) := by
  obtain ⟨q, hq, hqc⟩ := w.2.2.2
  exact fx_callR ok hC (fx_siteV ok (as := [a1]) w.1 w.2.1 w.2.2.1 hb hq hqc d) w.1.1 w.1.2.1 hlv hlo K
theorem fx_Vt1 (ok : fx_ok g) {idx : Nat} {b ci : Nat} {a1 : Value} (w : fx_wV (fx_y M).cls idx 1 M' ci) (hb : fx_s h b = some (.inl ci)) {E : String} (hC : fx_C g M' (Value.ref b :: [a1]) h (fx_th E k) mc' ms') (hlv : fx_lv M' + 1 ≤ fx_lv M) (hlo : (st.map fun v => v.category).sum + (fx_ml M' + 11) + fx_lw M' ≤ fx_lw M) (d : decode (fx_cc M) pc = .ok (.invokevirtual idx, 3))
    (K : fx_T g M pc lv E k Q mc ms) : fx_X g M pc lv (a1 :: Value.ref b :: st) h Q (mc' + mc) (ms' + ms) := by
  obtain ⟨q, hq, hqc⟩ := w.2.2.2
  exact fx_callT ok hC (fx_siteV ok (as := [a1]) w.1 w.2.1 w.2.2.1 hb hq hqc d) w.1.1 w.1.2.1 hlv hlo K
theorem fx_Si2 (ok : fx_ok g) {idx : Nat} {a1 a2 : Value} (w : fx_wS (fx_y M).cls idx 2 M') (hC : fx_C g M' ([a1, a2] : List Value) h (fx_is (some x) k) 0 0) (hlv : fx_lv M' + 1 ≤ fx_lv M) (hlo : (st.map fun v => v.category).sum + (fx_ml M' + 11) + fx_lw M' ≤ fx_lw M) (d : decode (fx_cc M) pc = .ok (.invokestatic idx, 3))
    (K : fx_X g M (pc + 3) lv (.int x :: st) k Q mc ms) : fx_X g M pc lv (a2 :: a1 :: st) h Q mc ms :=
  fx_callR0 ok hC (fx_siteS ok (as := [a1, a2]) w.1 w.2 d) w.1.1 w.1.2.1 hlv hlo K
theorem fx_Sv2 (ok : fx_ok g) {idx : Nat} {a1 a2 : Value} (w : fx_wS (fx_y M).cls idx 2 M') (hC : fx_C g M' ([a1, a2] : List Value) h (fx_is none k) 0 0) (hlv : fx_lv M' + 1 ≤ fx_lv M) (hlo : (st.map fun v => v.category).sum + (fx_ml M' + 11) + fx_lw M' ≤ fx_lw M) (d : decode (fx_cc M) pc = .ok (.invokestatic idx, 3))
    (K : fx_X g M (pc + 3) lv st k Q mc ms) : fx_X g M pc lv (a2 :: a1 :: st) h Q mc ms :=
  fx_callR0 ok hC (fx_siteS ok (as := [a1, a2]) w.1 w.2 d) w.1.1 w.1.2.1 hlv hlo K
theorem fx_Sa2 (ok : fx_ok g) {idx : Nat} {a1 a2 : Value} (w : fx_wS (fx_y M).cls idx 2 M') (hC : fx_C g M' ([a1, a2] : List Value) h (fx_is none k) mc' ms') (hlv : fx_lv M' + 1 ≤ fx_lv M) (hlo : (st.map fun v => v.category).sum + (fx_ml M' + 11) + fx_lw M' ≤ fx_lw M) (d : decode (fx_cc M) pc = .ok (.invokestatic idx, 3))
    (K : fx_X g M (pc + 3) lv st k Q mc ms) : fx_X g M pc lv (a2 :: a1 :: st) h Q (mc' + mc) (ms' + ms) :=
  fx_callR ok hC (fx_siteS ok (as := [a1, a2]) w.1 w.2 d) w.1.1 w.1.2.1 hlv hlo K
theorem fx_Sb2 (ok : fx_ok g) {idx : Nat} {a1 a2 : Value} (w : fx_wS (fx_y M).cls idx 2 M') (hC : fx_C g M' ([a1, a2] : List Value) h (fx_is (some x) k) mc' ms') (hlv : fx_lv M' + 1 ≤ fx_lv M) (hlo : (st.map fun v => v.category).sum + (fx_ml M' + 11) + fx_lw M' ≤ fx_lw M) (d : decode (fx_cc M) pc = .ok (.invokestatic idx, 3))
    (K : fx_X g M (pc + 3) lv (.int x :: st) k Q mc ms) : fx_X g M pc lv (a2 :: a1 :: st) h Q (mc' + mc) (ms' + ms) :=
  fx_callR ok hC (fx_siteS ok (as := [a1, a2]) w.1 w.2 d) w.1.1 w.1.2.1 hlv hlo K
theorem fx_St2 (ok : fx_ok g) {idx : Nat} {a1 a2 : Value} (w : fx_wS (fx_y M).cls idx 2 M') {E : String} (hC : fx_C g M' ([a1, a2] : List Value) h (fx_th E k) mc' ms') (hlv : fx_lv M' + 1 ≤ fx_lv M) (hlo : (st.map fun v => v.category).sum + (fx_ml M' + 11) + fx_lw M' ≤ fx_lw M) (d : decode (fx_cc M) pc = .ok (.invokestatic idx, 3))
    (K : fx_T g M pc lv E k Q mc ms) : fx_X g M pc lv (a2 :: a1 :: st) h Q (mc' + mc) (ms' + ms) :=
  fx_callT ok hC (fx_siteS ok (as := [a1, a2]) w.1 w.2 d) w.1.1 w.1.2.1 hlv hlo K
theorem fx_Vi2 (ok : fx_ok g) {idx : Nat} {b ci : Nat} {a1 a2 : Value} (w : fx_wV (fx_y M).cls idx 2 M' ci) (hb : fx_s h b = some (.inl ci)) (hC : fx_C g M' (Value.ref b :: [a1, a2]) h (fx_is (some x) k) 0 0) (hlv : fx_lv M' + 1 ≤ fx_lv M) (hlo : (st.map fun v => v.category).sum + (fx_ml M' + 11) + fx_lw M' ≤ fx_lw M) (d : decode (fx_cc M) pc = .ok (.invokevirtual idx, 3))
    (K : fx_X g M (pc + 3) lv (.int x :: st) k Q mc ms) : fx_X g M pc lv (a2 :: a1 :: Value.ref b :: st) h Q mc ms := by
  obtain ⟨q, hq, hqc⟩ := w.2.2.2
  exact fx_callR0 ok hC (fx_siteV ok (as := [a1, a2]) w.1 w.2.1 w.2.2.1 hb hq hqc d) w.1.1 w.1.2.1 hlv hlo K
theorem fx_Vv2 (ok : fx_ok g) {idx : Nat} {b ci : Nat} {a1 a2 : Value} (w : fx_wV (fx_y M).cls idx 2 M' ci) (hb : fx_s h b = some (.inl ci)) (hC : fx_C g M' (Value.ref b :: [a1, a2]) h (fx_is none k) 0 0) (hlv : fx_lv M' + 1 ≤ fx_lv M) (hlo : (st.map fun v => v.category).sum + (fx_ml M' + 11) + fx_lw M' ≤ fx_lw M) (d : decode (fx_cc M) pc = .ok (.invokevirtual idx, 3))
    (K : fx_X g M (pc + 3) lv st k Q mc ms) : fx_X g M pc lv (a2 :: a1 :: Value.ref b :: st) h Q mc ms := by
  obtain ⟨q, hq, hqc⟩ := w.2.2.2
  exact fx_callR0 ok hC (fx_siteV ok (as := [a1, a2]) w.1 w.2.1 w.2.2.1 hb hq hqc d) w.1.1 w.1.2.1 hlv hlo K
theorem fx_Va2 (ok : fx_ok g) {idx : Nat} {b ci : Nat} {a1 a2 : Value} (w : fx_wV (fx_y M).cls idx 2 M' ci) (hb : fx_s h b = some (.inl ci)) (hC : fx_C g M' (Value.ref b :: [a1, a2]) h (fx_is none k) mc' ms') (hlv : fx_lv M' + 1 ≤ fx_lv M) (hlo : (st.map fun v => v.category).sum + (fx_ml M' + 11) + fx_lw M' ≤ fx_lw M) (d : decode (fx_cc M) pc = .ok (.invokevirtual idx, 3))
    (K : fx_X g M (pc + 3) lv st k Q mc ms) : fx_X g M pc lv (a2 :: a1 :: Value.ref b :: st) h Q (mc' + mc) (ms' + ms) := by
  obtain ⟨q, hq, hqc⟩ := w.2.2.2
  exact fx_callR ok hC (fx_siteV ok (as := [a1, a2]) w.1 w.2.1 w.2.2.1 hb hq hqc d) w.1.1 w.1.2.1 hlv hlo K
theorem fx_Vb2 (ok : fx_ok g) {idx : Nat} {b ci : Nat} {a1 a2 : Value} (w : fx_wV (fx_y M).cls idx 2 M' ci) (hb : fx_s h b = some (.inl ci)) (hC : fx_C g M' (Value.ref b :: [a1, a2]) h (fx_is (some x) k) mc' ms') (hlv : fx_lv M' + 1 ≤ fx_lv M) (hlo : (st.map fun v => v.category).sum + (fx_ml M' + 11) + fx_lw M' ≤ fx_lw M) (d : decode (fx_cc M) pc = .ok (.invokevirtual idx, 3))
    (K : fx_X g M (pc + 3) lv (.int x :: st) k Q mc ms) : fx_X g M pc lv (a2 :: a1 :: Value.ref b :: st) h Q (mc' + mc) (ms' + ms) := by
  obtain ⟨q, hq, hqc⟩ := w.2.2.2
  exact fx_callR ok hC (fx_siteV ok (as := [a1, a2]) w.1 w.2.1 w.2.2.1 hb hq hqc d) w.1.1 w.1.2.1 hlv hlo K
theorem fx_Vt2 (ok : fx_ok g) {idx : Nat} {b ci : Nat} {a1 a2 : Value} (w : fx_wV (fx_y M).cls idx 2 M' ci) (hb : fx_s h b = some (.inl ci)) {E : String} (hC : fx_C g M' (Value.ref b :: [a1, a2]) h (fx_th E k) mc' ms') (hlv : fx_lv M' + 1 ≤ fx_lv M) (hlo : (st.map fun v => v.category).sum + (fx_ml M' + 11) + fx_lw M' ≤ fx_lw M) (d : decode (fx_cc M) pc = .ok (.invokevirtual idx, 3))
    (K : fx_T g M pc lv E k Q mc ms) : fx_X g M pc lv (a2 :: a1 :: Value.ref b :: st) h Q (mc' + mc) (ms' + ms) := by
  obtain ⟨q, hq, hqc⟩ := w.2.2.2
  exact fx_callT ok hC (fx_siteV ok (as := [a1, a2]) w.1 w.2.1 w.2.2.1 hb hq hqc d) w.1.1 w.1.2.1 hlv hlo K
theorem fx_Si3 (ok : fx_ok g) {idx : Nat} {a1 a2 a3 : Value} (w : fx_wS (fx_y M).cls idx 3 M') (hC : fx_C g M' ([a1, a2, a3] : List Value) h (fx_is (some x) k) 0 0) (hlv : fx_lv M' + 1 ≤ fx_lv M) (hlo : (st.map fun v => v.category).sum + (fx_ml M' + 11) + fx_lw M' ≤ fx_lw M) (d : decode (fx_cc M) pc = .ok (.invokestatic idx, 3))
    (K : fx_X g M (pc + 3) lv (.int x :: st) k Q mc ms) : fx_X g M pc lv (a3 :: a2 :: a1 :: st) h Q mc ms :=
  fx_callR0 ok hC (fx_siteS ok (as := [a1, a2, a3]) w.1 w.2 d) w.1.1 w.1.2.1 hlv hlo K
theorem fx_Sv3 (ok : fx_ok g) {idx : Nat} {a1 a2 a3 : Value} (w : fx_wS (fx_y M).cls idx 3 M') (hC : fx_C g M' ([a1, a2, a3] : List Value) h (fx_is none k) 0 0) (hlv : fx_lv M' + 1 ≤ fx_lv M) (hlo : (st.map fun v => v.category).sum + (fx_ml M' + 11) + fx_lw M' ≤ fx_lw M) (d : decode (fx_cc M) pc = .ok (.invokestatic idx, 3))
    (K : fx_X g M (pc + 3) lv st k Q mc ms) : fx_X g M pc lv (a3 :: a2 :: a1 :: st) h Q mc ms :=
  fx_callR0 ok hC (fx_siteS ok (as := [a1, a2, a3]) w.1 w.2 d) w.1.1 w.1.2.1 hlv hlo K
theorem fx_Sa3 (ok : fx_ok g) {idx : Nat} {a1 a2 a3 : Value} (w : fx_wS (fx_y M).cls idx 3 M') (hC : fx_C g M' ([a1, a2, a3] : List Value) h (fx_is none k) mc' ms') (hlv : fx_lv M' + 1 ≤ fx_lv M) (hlo : (st.map fun v => v.category).sum + (fx_ml M' + 11) + fx_lw M' ≤ fx_lw M) (d : decode (fx_cc M) pc = .ok (.invokestatic idx, 3))
    (K : fx_X g M (pc + 3) lv st k Q mc ms) : fx_X g M pc lv (a3 :: a2 :: a1 :: st) h Q (mc' + mc) (ms' + ms) :=
  fx_callR ok hC (fx_siteS ok (as := [a1, a2, a3]) w.1 w.2 d) w.1.1 w.1.2.1 hlv hlo K
theorem fx_Sb3 (ok : fx_ok g) {idx : Nat} {a1 a2 a3 : Value} (w : fx_wS (fx_y M).cls idx 3 M') (hC : fx_C g M' ([a1, a2, a3] : List Value) h (fx_is (some x) k) mc' ms') (hlv : fx_lv M' + 1 ≤ fx_lv M) (hlo : (st.map fun v => v.category).sum + (fx_ml M' + 11) + fx_lw M' ≤ fx_lw M) (d : decode (fx_cc M) pc = .ok (.invokestatic idx, 3))
    (K : fx_X g M (pc + 3) lv (.int x :: st) k Q mc ms) : fx_X g M pc lv (a3 :: a2 :: a1 :: st) h Q (mc' + mc) (ms' + ms) :=
  fx_callR ok hC (fx_siteS ok (as := [a1, a2, a3]) w.1 w.2 d) w.1.1 w.1.2.1 hlv hlo K
theorem fx_St3 (ok : fx_ok g) {idx : Nat} {a1 a2 a3 : Value} (w : fx_wS (fx_y M).cls idx 3 M') {E : String} (hC : fx_C g M' ([a1, a2, a3] : List Value) h (fx_th E k) mc' ms') (hlv : fx_lv M' + 1 ≤ fx_lv M) (hlo : (st.map fun v => v.category).sum + (fx_ml M' + 11) + fx_lw M' ≤ fx_lw M) (d : decode (fx_cc M) pc = .ok (.invokestatic idx, 3))
    (K : fx_T g M pc lv E k Q mc ms) : fx_X g M pc lv (a3 :: a2 :: a1 :: st) h Q (mc' + mc) (ms' + ms) :=
  fx_callT ok hC (fx_siteS ok (as := [a1, a2, a3]) w.1 w.2 d) w.1.1 w.1.2.1 hlv hlo K
theorem fx_Vi3 (ok : fx_ok g) {idx : Nat} {b ci : Nat} {a1 a2 a3 : Value} (w : fx_wV (fx_y M).cls idx 3 M' ci) (hb : fx_s h b = some (.inl ci)) (hC : fx_C g M' (Value.ref b :: [a1, a2, a3]) h (fx_is (some x) k) 0 0) (hlv : fx_lv M' + 1 ≤ fx_lv M) (hlo : (st.map fun v => v.category).sum + (fx_ml M' + 11) + fx_lw M' ≤ fx_lw M) (d : decode (fx_cc M) pc = .ok (.invokevirtual idx, 3))
    (K : fx_X g M (pc + 3) lv (.int x :: st) k Q mc ms) : fx_X g M pc lv (a3 :: a2 :: a1 :: Value.ref b :: st) h Q mc ms := by
  obtain ⟨q, hq, hqc⟩ := w.2.2.2
  exact fx_callR0 ok hC (fx_siteV ok (as := [a1, a2, a3]) w.1 w.2.1 w.2.2.1 hb hq hqc d) w.1.1 w.1.2.1 hlv hlo K
theorem fx_Vv3 (ok : fx_ok g) {idx : Nat} {b ci : Nat} {a1 a2 a3 : Value} (w : fx_wV (fx_y M).cls idx 3 M' ci) (hb : fx_s h b = some (.inl ci)) (hC : fx_C g M' (Value.ref b :: [a1, a2, a3]) h (fx_is none k) 0 0) (hlv : fx_lv M' + 1 ≤ fx_lv M) (hlo : (st.map fun v => v.category).sum + (fx_ml M' + 11) + fx_lw M' ≤ fx_lw M) (d : decode (fx_cc M) pc = .ok (.invokevirtual idx, 3))
    (K : fx_X g M (pc + 3) lv st k Q mc ms) : fx_X g M pc lv (a3 :: a2 :: a1 :: Value.ref b :: st) h Q mc ms := by
  obtain ⟨q, hq, hqc⟩ := w.2.2.2
  exact fx_callR0 ok hC (fx_siteV ok (as := [a1, a2, a3]) w.1 w.2.1 w.2.2.1 hb hq hqc d) w.1.1 w.1.2.1 hlv hlo K
theorem fx_Va3 (ok : fx_ok g) {idx : Nat} {b ci : Nat} {a1 a2 a3 : Value} (w : fx_wV (fx_y M).cls idx 3 M' ci) (hb : fx_s h b = some (.inl ci)) (hC : fx_C g M' (Value.ref b :: [a1, a2, a3]) h (fx_is none k) mc' ms') (hlv : fx_lv M' + 1 ≤ fx_lv M) (hlo : (st.map fun v => v.category).sum + (fx_ml M' + 11) + fx_lw M' ≤ fx_lw M) (d : decode (fx_cc M) pc = .ok (.invokevirtual idx, 3))
    (K : fx_X g M (pc + 3) lv st k Q mc ms) : fx_X g M pc lv (a3 :: a2 :: a1 :: Value.ref b :: st) h Q (mc' + mc) (ms' + ms) := by
  obtain ⟨q, hq, hqc⟩ := w.2.2.2
  exact fx_callR ok hC (fx_siteV ok (as := [a1, a2, a3]) w.1 w.2.1 w.2.2.1 hb hq hqc d) w.1.1 w.1.2.1 hlv hlo K
theorem fx_Vb3 (ok : fx_ok g) {idx : Nat} {b ci : Nat} {a1 a2 a3 : Value} (w : fx_wV (fx_y M).cls idx 3 M' ci) (hb : fx_s h b = some (.inl ci)) (hC : fx_C g M' (Value.ref b :: [a1, a2, a3]) h (fx_is (some x) k) mc' ms') (hlv : fx_lv M' + 1 ≤ fx_lv M) (hlo : (st.map fun v => v.category).sum + (fx_ml M' + 11) + fx_lw M' ≤ fx_lw M) (d : decode (fx_cc M) pc = .ok (.invokevirtual idx, 3))
    (K : fx_X g M (pc + 3) lv (.int x :: st) k Q mc ms) : fx_X g M pc lv (a3 :: a2 :: a1 :: Value.ref b :: st) h Q (mc' + mc) (ms' + ms) := by
  obtain ⟨q, hq, hqc⟩ := w.2.2.2
  exact fx_callR ok hC (fx_siteV ok (as := [a1, a2, a3]) w.1 w.2.1 w.2.2.1 hb hq hqc d) w.1.1 w.1.2.1 hlv hlo K
theorem fx_Vt3 (ok : fx_ok g) {idx : Nat} {b ci : Nat} {a1 a2 a3 : Value} (w : fx_wV (fx_y M).cls idx 3 M' ci) (hb : fx_s h b = some (.inl ci)) {E : String} (hC : fx_C g M' (Value.ref b :: [a1, a2, a3]) h (fx_th E k) mc' ms') (hlv : fx_lv M' + 1 ≤ fx_lv M) (hlo : (st.map fun v => v.category).sum + (fx_ml M' + 11) + fx_lw M' ≤ fx_lw M) (d : decode (fx_cc M) pc = .ok (.invokevirtual idx, 3))
    (K : fx_T g M pc lv E k Q mc ms) : fx_X g M pc lv (a3 :: a2 :: a1 :: Value.ref b :: st) h Q (mc' + mc) (ms' + ms) := by
  obtain ⟨q, hq, hqc⟩ := w.2.2.2
  exact fx_callT ok hC (fx_siteV ok (as := [a1, a2, a3]) w.1 w.2.1 w.2.2.1 hb hq hqc d) w.1.1 w.1.2.1 hlv hlo K
theorem fx_Si4 (ok : fx_ok g) {idx : Nat} {a1 a2 a3 a4 : Value} (w : fx_wS (fx_y M).cls idx 4 M') (hC : fx_C g M' ([a1, a2, a3, a4] : List Value) h (fx_is (some x) k) 0 0) (hlv : fx_lv M' + 1 ≤ fx_lv M) (hlo : (st.map fun v => v.category).sum + (fx_ml M' + 11) + fx_lw M' ≤ fx_lw M) (d : decode (fx_cc M) pc = .ok (.invokestatic idx, 3))
    (K : fx_X g M (pc + 3) lv (.int x :: st) k Q mc ms) : fx_X g M pc lv (a4 :: a3 :: a2 :: a1 :: st) h Q mc ms :=
  fx_callR0 ok hC (fx_siteS ok (as := [a1, a2, a3, a4]) w.1 w.2 d) w.1.1 w.1.2.1 hlv hlo K
theorem fx_Sv4 (ok : fx_ok g) {idx : Nat} {a1 a2 a3 a4 : Value} (w : fx_wS (fx_y M).cls idx 4 M') (hC : fx_C g M' ([a1, a2, a3, a4] : List Value) h (fx_is none k) 0 0) (hlv : fx_lv M' + 1 ≤ fx_lv M) (hlo : (st.map fun v => v.category).sum + (fx_ml M' + 11) + fx_lw M' ≤ fx_lw M) (d : decode (fx_cc M) pc = .ok (.invokestatic idx, 3))
    (K : fx_X g M (pc + 3) lv st k Q mc ms) : fx_X g M pc lv (a4 :: a3 :: a2 :: a1 :: st) h Q mc ms :=
  fx_callR0 ok hC (fx_siteS ok (as := [a1, a2, a3, a4]) w.1 w.2 d) w.1.1 w.1.2.1 hlv hlo K
theorem fx_Sa4 (ok : fx_ok g) {idx : Nat} {a1 a2 a3 a4 : Value} (w : fx_wS (fx_y M).cls idx 4 M') (hC : fx_C g M' ([a1, a2, a3, a4] : List Value) h (fx_is none k) mc' ms') (hlv : fx_lv M' + 1 ≤ fx_lv M) (hlo : (st.map fun v => v.category).sum + (fx_ml M' + 11) + fx_lw M' ≤ fx_lw M) (d : decode (fx_cc M) pc = .ok (.invokestatic idx, 3))
    (K : fx_X g M (pc + 3) lv st k Q mc ms) : fx_X g M pc lv (a4 :: a3 :: a2 :: a1 :: st) h Q (mc' + mc) (ms' + ms) :=
  fx_callR ok hC (fx_siteS ok (as := [a1, a2, a3, a4]) w.1 w.2 d) w.1.1 w.1.2.1 hlv hlo K
theorem fx_Sb4 (ok : fx_ok g) {idx : Nat} {a1 a2 a3 a4 : Value} (w : fx_wS (fx_y M).cls idx 4 M') (hC : fx_C g M' ([a1, a2, a3, a4] : List Value) h (fx_is (some x) k) mc' ms') (hlv : fx_lv M' + 1 ≤ fx_lv M) (hlo : (st.map fun v => v.category).sum + (fx_ml M' + 11) + fx_lw M' ≤ fx_lw M) (d : decode (fx_cc M) pc = .ok (.invokestatic idx, 3))
    (K : fx_X g M (pc + 3) lv (.int x :: st) k Q mc ms) : fx_X g M pc lv (a4 :: a3 :: a2 :: a1 :: st) h Q (mc' + mc) (ms' + ms) :=
  fx_callR ok hC (fx_siteS ok (as := [a1, a2, a3, a4]) w.1 w.2 d) w.1.1 w.1.2.1 hlv hlo K
theorem fx_St4 (ok : fx_ok g) {idx : Nat} {a1 a2 a3 a4 : Value} (w : fx_wS (fx_y M).cls idx 4 M') {E : String} (hC : fx_C g M' ([a1, a2, a3, a4] : List Value) h (fx_th E k) mc' ms') (hlv : fx_lv M' + 1 ≤ fx_lv M) (hlo : (st.map fun v => v.category).sum + (fx_ml M' + 11) + fx_lw M' ≤ fx_lw M) (d : decode (fx_cc M) pc = .ok (.invokestatic idx, 3))
    (K : fx_T g M pc lv E k Q mc ms) : fx_X g M pc lv (a4 :: a3 :: a2 :: a1 :: st) h Q (mc' + mc) (ms' + ms) :=
  fx_callT ok hC (fx_siteS ok (as := [a1, a2, a3, a4]) w.1 w.2 d) w.1.1 w.1.2.1 hlv hlo K
theorem fx_Vi4 (ok : fx_ok g) {idx : Nat} {b ci : Nat} {a1 a2 a3 a4 : Value} (w : fx_wV (fx_y M).cls idx 4 M' ci) (hb : fx_s h b = some (.inl ci)) (hC : fx_C g M' (Value.ref b :: [a1, a2, a3, a4]) h (fx_is (some x) k) 0 0) (hlv : fx_lv M' + 1 ≤ fx_lv M) (hlo : (st.map fun v => v.category).sum + (fx_ml M' + 11) + fx_lw M' ≤ fx_lw M) (d : decode (fx_cc M) pc = .ok (.invokevirtual idx, 3))
    (K : fx_X g M (pc + 3) lv (.int x :: st) k Q mc ms) : fx_X g M pc lv (a4 :: a3 :: a2 :: a1 :: Value.ref b :: st) h Q mc ms := by
  obtain ⟨q, hq, hqc⟩ := w.2.2.2
  exact fx_callR0 ok hC (fx_siteV ok (as := [a1, a2, a3, a4]) w.1 w.2.1 w.2.2.1 hb hq hqc d) w.1.1 w.1.2.1 hlv hlo K
theorem fx_Vv4 (ok : fx_ok g) {idx : Nat} {b ci : Nat} {a1 a2 a3 a4 : Value} (w : fx_wV (fx_y M).cls idx 4 M' ci) (hb : fx_s h b = some (.inl ci)) (hC : fx_C g M' (Value.ref b :: [a1, a2, a3, a4]) h (fx_is none k) 0 0) (hlv : fx_lv M' + 1 ≤ fx_lv M) (hlo : (st.map fun v => v.category).sum + (fx_ml M' + 11) + fx_lw M' ≤ fx_lw M) (d : decode (fx_cc M) pc = .ok (.invokevirtual idx, 3))
    (K : fx_X g M (pc + 3) lv st k Q mc ms) : fx_X g M pc lv (a4 :: a3 :: a2 :: a1 :: Value.ref b :: st) h Q mc ms := by
  obtain ⟨q, hq, hqc⟩ := w.2.2.2
  exact fx_callR0 ok hC (fx_siteV ok (as := [a1, a2, a3, a4]) w.1 w.2.1 w.2.2.1 hb hq hqc d) w.1.1 w.1.2.1 hlv hlo K
theorem fx_Va4 (ok : fx_ok g) {idx : Nat} {b ci : Nat} {a1 a2 a3 a4 : Value} (w : fx_wV (fx_y M).cls idx 4 M' ci) (hb : fx_s h b = some (.inl ci)) (hC : fx_C g M' (Value.ref b :: [a1, a2, a3, a4]) h (fx_is none k) mc' ms') (hlv : fx_lv M' + 1 ≤ fx_lv M) (hlo : (st.map fun v => v.category).sum + (fx_ml M' + 11) + fx_lw M' ≤ fx_lw M) (d : decode (fx_cc M) pc = .ok (.invokevirtual idx, 3))
    (K : fx_X g M (pc + 3) lv st k Q mc ms) : fx_X g M pc lv (a4 :: a3 :: a2 :: a1 :: Value.ref b :: st) h Q (mc' + mc) (ms' + ms) := by
  obtain ⟨q, hq, hqc⟩ := w.2.2.2
  exact fx_callR ok hC (fx_siteV ok (as := [a1, a2, a3, a4]) w.1 w.2.1 w.2.2.1 hb hq hqc d) w.1.1 w.1.2.1 hlv hlo K
theorem fx_Vb4 (ok : fx_ok g) {idx : Nat} {b ci : Nat} {a1 a2 a3 a4 : Value} (w : fx_wV (fx_y M).cls idx 4 M' ci) (hb : fx_s h b = some (.inl ci)) (hC : fx_C g M' (Value.ref b :: [a1, a2, a3, a4]) h (fx_is (some x) k) mc' ms') (hlv : fx_lv M' + 1 ≤ fx_lv M) (hlo : (st.map fun v => v.category).sum + (fx_ml M' + 11) + fx_lw M' ≤ fx_lw M) (d : decode (fx_cc M) pc = .ok (.invokevirtual idx, 3))
    (K : fx_X g M (pc + 3) lv (.int x :: st) k Q mc ms) : fx_X g M pc lv (a4 :: a3 :: a2 :: a1 :: Value.ref b :: st) h Q (mc' + mc) (ms' + ms) := by
  obtain ⟨q, hq, hqc⟩ := w.2.2.2
  exact fx_callR ok hC (fx_siteV ok (as := [a1, a2, a3, a4]) w.1 w.2.1 w.2.2.1 hb hq hqc d) w.1.1 w.1.2.1 hlv hlo K
theorem fx_Vt4 (ok : fx_ok g) {idx : Nat} {b ci : Nat} {a1 a2 a3 a4 : Value} (w : fx_wV (fx_y M).cls idx 4 M' ci) (hb : fx_s h b = some (.inl ci)) {E : String} (hC : fx_C g M' (Value.ref b :: [a1, a2, a3, a4]) h (fx_th E k) mc' ms') (hlv : fx_lv M' + 1 ≤ fx_lv M) (hlo : (st.map fun v => v.category).sum + (fx_ml M' + 11) + fx_lw M' ≤ fx_lw M) (d : decode (fx_cc M) pc = .ok (.invokevirtual idx, 3))
    (K : fx_T g M pc lv E k Q mc ms) : fx_X g M pc lv (a4 :: a3 :: a2 :: a1 :: Value.ref b :: st) h Q (mc' + mc) (ms' + ms) := by
  obtain ⟨q, hq, hqc⟩ := w.2.2.2
  exact fx_callT ok hC (fx_siteV ok (as := [a1, a2, a3, a4]) w.1 w.2.1 w.2.2.1 hb hq hqc d) w.1.1 w.1.2.1 hlv hlo K
theorem fx_Si5 (ok : fx_ok g) {idx : Nat} {a1 a2 a3 a4 a5 : Value} (w : fx_wS (fx_y M).cls idx 5 M') (hC : fx_C g M' ([a1, a2, a3, a4, a5] : List Value) h (fx_is (some x) k) 0 0) (hlv : fx_lv M' + 1 ≤ fx_lv M) (hlo : (st.map fun v => v.category).sum + (fx_ml M' + 11) + fx_lw M' ≤ fx_lw M) (d : decode (fx_cc M) pc = .ok (.invokestatic idx, 3))
    (K : fx_X g M (pc + 3) lv (.int x :: st) k Q mc ms) : fx_X g M pc lv (a5 :: a4 :: a3 :: a2 :: a1 :: st) h Q mc ms :=
  fx_callR0 ok hC (fx_siteS ok (as := [a1, a2, a3, a4, a5]) w.1 w.2 d) w.1.1 w.1.2.1 hlv hlo K
theorem fx_Sv5 (ok : fx_ok g) {idx : Nat} {a1 a2 a3 a4 a5 : Value} (w : fx_wS (fx_y M).cls idx 5 M') (hC : fx_C g M' ([a1, a2, a3, a4, a5] : List Value) h (fx_is none k) 0 0) (hlv : fx_lv M' + 1 ≤ fx_lv M) (hlo : (st.map fun v => v.category).sum + (fx_ml M' + 11) + fx_lw M' ≤ fx_lw M) (d : decode (fx_cc M) pc = .ok (.invokestatic idx, 3))
    (K : fx_X g M (pc + 3) lv st k Q mc ms) : fx_X g M pc lv (a5 :: a4 :: a3 :: a2 :: a1 :: st) h Q mc ms :=
  fx_callR0 ok hC (fx_siteS ok (as := [a1, a2, a3, a4, a5]) w.1 w.2 d) w.1.1 w.1.2.1 hlv hlo K
theorem fx_Sa5 (ok : fx_ok g) {idx : Nat} {a1 a2 a3 a4 a5 : Value} (w : fx_wS (fx_y M).cls idx 5 M') (hC : fx_C g M' ([a1, a2, a3, a4, a5] : List Value) h (fx_is none k) mc' ms') (hlv : fx_lv M' + 1 ≤ fx_lv M) (hlo : (st.map fun v => v.category).sum + (fx_ml M' + 11) + fx_lw M' ≤ fx_lw M) (d : decode (fx_cc M) pc = .ok (.invokestatic idx, 3))
    (K : fx_X g M (pc + 3) lv st k Q mc ms) : fx_X g M pc lv (a5 :: a4 :: a3 :: a2 :: a1 :: st) h Q (mc' + mc) (ms' + ms) :=
  fx_callR ok hC (fx_siteS ok (as := [a1, a2, a3, a4, a5]) w.1 w.2 d) w.1.1 w.1.2.1 hlv hlo K
theorem fx_Sb5 (ok : fx_ok g) {idx : Nat} {a1 a2 a3 a4 a5 : Value} (w : fx_wS (fx_y M).cls idx 5 M') (hC : fx_C g M' ([a1, a2, a3, a4, a5] : List Value) h (fx_is (some x) k) mc' ms') (hlv : fx_lv M' + 1 ≤ fx_lv M) (hlo : (st.map fun v => v.category).sum + (fx_ml M' + 11) + fx_lw M' ≤ fx_lw M) (d : decode (fx_cc M) pc = .ok (.invokestatic idx, 3))
    (K : fx_X g M (pc + 3) lv (.int x :: st) k Q mc ms) : fx_X g M pc lv (a5 :: a4 :: a3 :: a2 :: a1 :: st) h Q (mc' + mc) (ms' + ms) :=
  fx_callR ok hC (fx_siteS ok (as := [a1, a2, a3, a4, a5]) w.1 w.2 d) w.1.1 w.1.2.1 hlv hlo K
theorem fx_St5 (ok : fx_ok g) {idx : Nat} {a1 a2 a3 a4 a5 : Value} (w : fx_wS (fx_y M).cls idx 5 M') {E : String} (hC : fx_C g M' ([a1, a2, a3, a4, a5] : List Value) h (fx_th E k) mc' ms') (hlv : fx_lv M' + 1 ≤ fx_lv M) (hlo : (st.map fun v => v.category).sum + (fx_ml M' + 11) + fx_lw M' ≤ fx_lw M) (d : decode (fx_cc M) pc = .ok (.invokestatic idx, 3))
    (K : fx_T g M pc lv E k Q mc ms) : fx_X g M pc lv (a5 :: a4 :: a3 :: a2 :: a1 :: st) h Q (mc' + mc) (ms' + ms) :=
  fx_callT ok hC (fx_siteS ok (as := [a1, a2, a3, a4, a5]) w.1 w.2 d) w.1.1 w.1.2.1 hlv hlo K
theorem fx_Vi5 (ok : fx_ok g) {idx : Nat} {b ci : Nat} {a1 a2 a3 a4 a5 : Value} (w : fx_wV (fx_y M).cls idx 5 M' ci) (hb : fx_s h b = some (.inl ci)) (hC : fx_C g M' (Value.ref b :: [a1, a2, a3, a4, a5]) h (fx_is (some x) k) 0 0) (hlv : fx_lv M' + 1 ≤ fx_lv M) (hlo : (st.map fun v => v.category).sum + (fx_ml M' + 11) + fx_lw M' ≤ fx_lw M) (d : decode (fx_cc M) pc = .ok (.invokevirtual idx, 3))
    (K : fx_X g M (pc + 3) lv (.int x :: st) k Q mc ms) : fx_X g M pc lv (a5 :: a4 :: a3 :: a2 :: a1 :: Value.ref b :: st) h Q mc ms := by
  obtain ⟨q, hq, hqc⟩ := w.2.2.2
  exact fx_callR0 ok hC (fx_siteV ok (as := [a1, a2, a3, a4, a5]) w.1 w.2.1 w.2.2.1 hb hq hqc d) w.1.1 w.1.2.1 hlv hlo K
theorem fx_Vv5 (ok : fx_ok g) {idx : Nat} {b ci : Nat} {a1 a2 a3 a4 a5 : Value} (w : fx_wV (fx_y M).cls idx 5 M' ci) (hb : fx_s h b = some (.inl ci)) (hC : fx_C g M' (Value.ref b :: [a1, a2, a3, a4, a5]) h (fx_is none k) 0 0) (hlv : fx_lv M' + 1 ≤ fx_lv M) (hlo : (st.map fun v => v.category).sum + (fx_ml M' + 11) + fx_lw M' ≤ fx_lw M) (d : decode (fx_cc M) pc = .ok (.invokevirtual idx, 3))
    (K : fx_X g M (pc + 3) lv st k Q mc ms) : fx_X g M pc lv (a5 :: a4 :: a3 :: a2 :: a1 :: Value.ref b :: st) h Q mc ms := by
  obtain ⟨q, hq, hqc⟩ := w.2.2.2
  exact fx_callR0 ok hC (fx_siteV ok (as := [a1, a2, a3, a4, a5]) w.1 w.2.1 w.2.2.1 hb hq hqc d) w.1.1 w.1.2.1 hlv hlo K
theorem fx_Va5 (ok : fx_ok g) {idx : Nat} {b ci : Nat} {a1 a2 a3 a4 a5 : Value} (w : fx_wV (fx_y M).cls idx 5 M' ci) (hb : fx_s h b = some (.inl ci)) (hC : fx_C g M' (Value.ref b :: [a1, a2, a3, a4, a5]) h (fx_is none k) mc' ms') (hlv : fx_lv M' + 1 ≤ fx_lv M) (hlo : (st.map fun v => v.category).sum + (fx_ml M' + 11) + fx_lw M' ≤ fx_lw M) (d : decode (fx_cc M) pc = .ok (.invokevirtual idx, 3))
    (K : fx_X g M (pc + 3) lv st k Q mc ms) : fx_X g M pc lv (a5 :: a4 :: a3 :: a2 :: a1 :: Value.ref b :: st) h Q (mc' + mc) (ms' + ms) := by
  obtain ⟨q, hq, hqc⟩ := w.2.2.2
  exact fx_callR ok hC (fx_siteV ok (as := [a1, a2, a3, a4, a5]) w.1 w.2.1 w.2.2.1 hb hq hqc d) w.1.1 w.1.2.1 hlv hlo K
theorem fx_Vb5 (ok : fx_ok g) {idx : Nat} {b ci : Nat} {a1 a2 a3 a4 a5 : Value} (w : fx_wV (fx_y M).cls idx 5 M' ci) (hb : fx_s h b = some (.inl ci)) (hC : fx_C g M' (Value.ref b :: [a1, a2, a3, a4, a5]) h (fx_is (some x) k) mc' ms') (hlv : fx_lv M' + 1 ≤ fx_lv M) (hlo : (st.map fun v => v.category).sum + (fx_ml M' + 11) + fx_lw M' ≤ fx_lw M) (d : decode (fx_cc M) pc = .ok (.invokevirtual idx, 3))
    (K : fx_X g M (pc + 3) lv (.int x :: st) k Q mc ms) : fx_X g M pc lv (a5 :: a4 :: a3 :: a2 :: a1 :: Value.ref b :: st) h Q (mc' + mc) (ms' + ms) := by
  obtain ⟨q, hq, hqc⟩ := w.2.2.2
  exact fx_callR ok hC (fx_siteV ok (as := [a1, a2, a3, a4, a5]) w.1 w.2.1 w.2.2.1 hb hq hqc d) w.1.1 w.1.2.1 hlv hlo K
theorem fx_Vt5 (ok : fx_ok g) {idx : Nat} {b ci : Nat} {a1 a2 a3 a4 a5 : Value} (w : fx_wV (fx_y M).cls idx 5 M' ci) (hb : fx_s h b = some (.inl ci)) {E : String} (hC : fx_C g M' (Value.ref b :: [a1, a2, a3, a4, a5]) h (fx_th E k) mc' ms') (hlv : fx_lv M' + 1 ≤ fx_lv M) (hlo : (st.map fun v => v.category).sum + (fx_ml M' + 11) + fx_lw M' ≤ fx_lw M) (d : decode (fx_cc M) pc = .ok (.invokevirtual idx, 3))
    (K : fx_T g M pc lv E k Q mc ms) : fx_X g M pc lv (a5 :: a4 :: a3 :: a2 :: a1 :: Value.ref b :: st) h Q (mc' + mc) (ms' + ms) := by
  obtain ⟨q, hq, hqc⟩ := w.2.2.2
  exact fx_callT ok hC (fx_siteV ok (as := [a1, a2, a3, a4, a5]) w.1 w.2.1 w.2.2.1 hb hq hqc d) w.1.1 w.1.2.1 hlv hlo K
theorem fx_Si6 (ok : fx_ok g) {idx : Nat} {a1 a2 a3 a4 a5 a6 : Value} (w : fx_wS (fx_y M).cls idx 6 M') (hC : fx_C g M' ([a1, a2, a3, a4, a5, a6] : List Value) h (fx_is (some x) k) 0 0) (hlv : fx_lv M' + 1 ≤ fx_lv M) (hlo : (st.map fun v => v.category).sum + (fx_ml M' + 11) + fx_lw M' ≤ fx_lw M) (d : decode (fx_cc M) pc = .ok (.invokestatic idx, 3))
    (K : fx_X g M (pc + 3) lv (.int x :: st) k Q mc ms) : fx_X g M pc lv (a6 :: a5 :: a4 :: a3 :: a2 :: a1 :: st) h Q mc ms :=
  fx_callR0 ok hC (fx_siteS ok (as := [a1, a2, a3, a4, a5, a6]) w.1 w.2 d) w.1.1 w.1.2.1 hlv hlo K
theorem fx_Sv6 (ok : fx_ok g) {idx : Nat} {a1 a2 a3 a4 a5 a6 : Value} (w : fx_wS (fx_y M).cls idx 6 M') (hC : fx_C g M' ([a1, a2, a3, a4, a5, a6] : List Value) h (fx_is none k) 0 0) (hlv : fx_lv M' + 1 ≤ fx_lv M) (hlo : (st.map fun v => v.category).sum + (fx_ml M' + 11) + fx_lw M' ≤ fx_lw M) (d : decode (fx_cc M) pc = .ok (.invokestatic idx, 3))
    (K : fx_X g M (pc + 3) lv st k Q mc ms) : fx_X g M pc lv (a6 :: a5 :: a4 :: a3 :: a2 :: a1 :: st) h Q mc ms :=
  fx_callR0 ok hC (fx_siteS ok (as := [a1, a2, a3, a4, a5, a6]) w.1 w.2 d) w.1.1 w.1.2.1 hlv hlo K
theorem fx_Sa6 (ok : fx_ok g) {idx : Nat} {a1 a2 a3 a4 a5 a6 : Value} (w : fx_wS (fx_y M).cls idx 6 M') (hC : fx_C g M' ([a1, a2, a3, a4, a5, a6] : List Value) h (fx_is none k) mc' ms') (hlv : fx_lv M' + 1 ≤ fx_lv M) (hlo : (st.map fun v => v.category).sum + (fx_ml M' + 11) + fx_lw M' ≤ fx_lw M) (d : decode (fx_cc M) pc = .ok (.invokestatic idx, 3))
    (K : fx_X g M (pc + 3) lv st k Q mc ms) : fx_X g M pc lv (a6 :: a5 :: a4 :: a3 :: a2 :: a1 :: st) h Q (mc' + mc) (ms' + ms) :=
  fx_callR ok hC (fx_siteS ok (as := [a1, a2, a3, a4, a5, a6]) w.1 w.2 d) w.1.1 w.1.2.1 hlv hlo K
theorem fx_Sb6 (ok : fx_ok g) {idx : Nat} {a1 a2 a3 a4 a5 a6 : Value} (w : fx_wS (fx_y M).cls idx 6 M') (hC : fx_C g M' ([a1, a2, a3, a4, a5, a6] : List Value) h (fx_is (some x) k) mc' ms') (hlv : fx_lv M' + 1 ≤ fx_lv M) (hlo : (st.map fun v => v.category).sum + (fx_ml M' + 11) + fx_lw M' ≤ fx_lw M) (d : decode (fx_cc M) pc = .ok (.invokestatic idx, 3))
    (K : fx_X g M (pc + 3) lv (.int x :: st) k Q mc ms) : fx_X g M pc lv (a6 :: a5 :: a4 :: a3 :: a2 :: a1 :: st) h Q (mc' + mc) (ms' + ms) :=
  fx_callR ok hC (fx_siteS ok (as := [a1, a2, a3, a4, a5, a6]) w.1 w.2 d) w.1.1 w.1.2.1 hlv hlo K
theorem fx_St6 (ok : fx_ok g) {idx : Nat} {a1 a2 a3 a4 a5 a6 : Value} (w : fx_wS (fx_y M).cls idx 6 M') {E : String} (hC : fx_C g M' ([a1, a2, a3, a4, a5, a6] : List Value) h (fx_th E k) mc' ms') (hlv : fx_lv M' + 1 ≤ fx_lv M) (hlo : (st.map fun v => v.category).sum + (fx_ml M' + 11) + fx_lw M' ≤ fx_lw M) (d : decode (fx_cc M) pc = .ok (.invokestatic idx, 3))
    (K : fx_T g M pc lv E k Q mc ms) : fx_X g M pc lv (a6 :: a5 :: a4 :: a3 :: a2 :: a1 :: st) h Q (mc' + mc) (ms' + ms) :=
  fx_callT ok hC (fx_siteS ok (as := [a1, a2, a3, a4, a5, a6]) w.1 w.2 d) w.1.1 w.1.2.1 hlv hlo K
theorem fx_Vi6 (ok : fx_ok g) {idx : Nat} {b ci : Nat} {a1 a2 a3 a4 a5 a6 : Value} (w : fx_wV (fx_y M).cls idx 6 M' ci) (hb : fx_s h b = some (.inl ci)) (hC : fx_C g M' (Value.ref b :: [a1, a2, a3, a4, a5, a6]) h (fx_is (some x) k) 0 0) (hlv : fx_lv M' + 1 ≤ fx_lv M) (hlo : (st.map fun v => v.category).sum + (fx_ml M' + 11) + fx_lw M' ≤ fx_lw M) (d : decode (fx_cc M) pc = .ok (.invokevirtual idx, 3))
    (K : fx_X g M (pc + 3) lv (.int x :: st) k Q mc ms) : fx_X g M pc lv (a6 :: a5 :: a4 :: a3 :: a2 :: a1 :: Value.ref b :: st) h Q mc ms := by
  obtain ⟨q, hq, hqc⟩ := w.2.2.2
  exact fx_callR0 ok hC (fx_siteV ok (as := [a1, a2, a3, a4, a5, a6]) w.1 w.2.1 w.2.2.1 hb hq hqc d) w.1.1 w.1.2.1 hlv hlo K
theorem fx_Vv6 (ok : fx_ok g) {idx : Nat} {b ci : Nat} {a1 a2 a3 a4 a5 a6 : Value} (w : fx_wV (fx_y M).cls idx 6 M' ci) (hb : fx_s h b = some (.inl ci)) (hC : fx_C g M' (Value.ref b :: [a1, a2, a3, a4, a5, a6]) h (fx_is none k) 0 0) (hlv : fx_lv M' + 1 ≤ fx_lv M) (hlo : (st.map fun v => v.category).sum + (fx_ml M' + 11) + fx_lw M' ≤ fx_lw M) (d : decode (fx_cc M) pc = .ok (.invokevirtual idx, 3))
    (K : fx_X g M (pc + 3) lv st k Q mc ms) : fx_X g M pc lv (a6 :: a5 :: a4 :: a3 :: a2 :: a1 :: Value.ref b :: st) h Q mc ms := by
  obtain ⟨q, hq, hqc⟩ := w.2.2.2
  exact fx_callR0 ok hC (fx_siteV ok (as := [a1, a2, a3, a4, a5, a6]) w.1 w.2.1 w.2.2.1 hb hq hqc d) w.1.1 w.1.2.1 hlv hlo K
theorem fx_Va6 (ok : fx_ok g) {idx : Nat} {b ci : Nat} {a1 a2 a3 a4 a5 a6 : Value} (w : fx_wV (fx_y M).cls idx 6 M' ci) (hb : fx_s h b = some (.inl ci)) (hC : fx_C g M' (Value.ref b :: [a1, a2, a3, a4, a5, a6]) h (fx_is none k) mc' ms') (hlv : fx_lv M' + 1 ≤ fx_lv M) (hlo : (st.map fun v => v.category).sum + (fx_ml M' + 11) + fx_lw M' ≤ fx_lw M) (d : decode (fx_cc M) pc = .ok (.invokevirtual idx, 3))
    (K : fx_X g M (pc + 3) lv st k Q mc ms) : fx_X g M pc lv (a6 :: a5 :: a4 :: a3 :: a2 :: a1 :: Value.ref b :: st) h Q (mc' + mc) (ms' + ms) := by
  obtain ⟨q, hq, hqc⟩ := w.2.2.2
  exact fx_callR ok hC (fx_siteV ok (as := [a1, a2, a3, a4, a5, a6]) w.1 w.2.1 w.2.2.1 hb hq hqc d) w.1.1 w.1.2.1 hlv hlo K
theorem fx_Vb6 (ok : fx_ok g) {idx : Nat} {b ci : Nat} {a1 a2 a3 a4 a5 a6 : Value} (w : fx_wV (fx_y M).cls idx 6 M' ci) (hb : fx_s h b = some (.inl ci)) (hC : fx_C g M' (Value.ref b :: [a1, a2, a3, a4, a5, a6]) h (fx_is (some x) k) mc' ms') (hlv : fx_lv M' + 1 ≤ fx_lv M) (hlo : (st.map fun v => v.category).sum + (fx_ml M' + 11) + fx_lw M' ≤ fx_lw M) (d : decode (fx_cc M) pc = .ok (.invokevirtual idx, 3))
    (K : fx_X g M (pc + 3) lv (.int x :: st) k Q mc ms) : fx_X g M pc lv (a6 :: a5 :: a4 :: a3 :: a2 :: a1 :: Value.ref b :: st) h Q (mc' + mc) (ms' + ms) := by
  obtain ⟨q, hq, hqc⟩ := w.2.2.2
  exact fx_callR ok hC (fx_siteV ok (as := [a1, a2, a3, a4, a5, a6]) w.1 w.2.1 w.2.2.1 hb hq hqc d) w.1.1 w.1.2.1 hlv hlo K
theorem fx_Vt6 (ok : fx_ok g) {idx : Nat} {b ci : Nat} {a1 a2 a3 a4 a5 a6 : Value} (w : fx_wV (fx_y M).cls idx 6 M' ci) (hb : fx_s h b = some (.inl ci)) {E : String} (hC : fx_C g M' (Value.ref b :: [a1, a2, a3, a4, a5, a6]) h (fx_th E k) mc' ms') (hlv : fx_lv M' + 1 ≤ fx_lv M) (hlo : (st.map fun v => v.category).sum + (fx_ml M' + 11) + fx_lw M' ≤ fx_lw M) (d : decode (fx_cc M) pc = .ok (.invokevirtual idx, 3))
    (K : fx_T g M pc lv E k Q mc ms) : fx_X g M pc lv (a6 :: a5 :: a4 :: a3 :: a2 :: a1 :: Value.ref b :: st) h Q (mc' + mc) (ms' + ms) := by
  obtain ⟨q, hq, hqc⟩ := w.2.2.2
  exact fx_callT ok hC (fx_siteV ok (as := [a1, a2, a3, a4, a5, a6]) w.1 w.2.1 w.2.2.1 hb hq hqc d) w.1.1 w.1.2.1 hlv hlo K
theorem fx_Si7 (ok : fx_ok g) {idx : Nat} {a1 a2 a3 a4 a5 a6 a7 : Value} (w : fx_wS (fx_y M).cls idx 7 M') (hC : fx_C g M' ([a1, a2, a3, a4, a5, a6, a7] : List Value) h (fx_is (some x) k) 0 0) (hlv : fx_lv M' + 1 ≤ fx_lv M) (hlo : (st.map fun v => v.category).sum + (fx_ml M' + 11) + fx_lw M' ≤ fx_lw M) (d : decode (fx_cc M) pc = .ok (.invokestatic idx, 3))
    (K : fx_X g M (pc + 3) lv (.int x :: st) k Q mc ms) : fx_X g M pc lv (a7 :: a6 :: a5 :: a4 :: a3 :: a2 :: a1 :: st) h Q mc ms :=
  fx_callR0 ok hC (fx_siteS ok (as := [a1, a2, a3, a4, a5, a6, a7]) w.1 w.2 d) w.1.1 w.1.2.1 hlv hlo K
theorem fx_Sv7 (ok : fx_ok g) {idx : Nat} {a1 a2 a3 a4 a5 a6 a7 : Value} (w : fx_wS (fx_y M).cls idx 7 M') (hC : fx_C g M' ([a1, a2, a3, a4, a5, a6, a7] : List Value) h (fx_is none k) 0 0) (hlv : fx_lv M' + 1 ≤ fx_lv M) (hlo : (st.map fun v => v.category).sum + (fx_ml M' + 11) + fx_lw M' ≤ fx_lw M) (d : decode (fx_cc M) pc = .ok (.invokestatic idx, 3))
    (K : fx_X g M (pc + 3) lv st k Q mc ms) : fx_X g M pc lv (a7 :: a6 :: a5 :: a4 :: a3 :: a2 :: a1 :: st) h Q mc ms :=
  fx_callR0 ok hC (fx_siteS ok (as := [a1, a2, a3, a4, a5, a6, a7]) w.1 w.2 d) w.1.1 w.1.2.1 hlv hlo K
theorem fx_Sa7 (ok : fx_ok g) {idx : Nat} {a1 a2 a3 a4 a5 a6 a7 : Value} (w : fx_wS (fx_y M).cls idx 7 M') (hC : fx_C g M' ([a1, a2, a3, a4, a5, a6, a7] : List Value) h (fx_is none k) mc' ms') (hlv : fx_lv M' + 1 ≤ fx_lv M) (hlo : (st.map fun v => v.category).sum + (fx_ml M' + 11) + fx_lw M' ≤ fx_lw M) (d : decode (fx_cc M) pc = .ok (.invokestatic idx, 3))
    (K : fx_X g M (pc + 3) lv st k Q mc ms) : fx_X g M pc lv (a7 :: a6 :: a5 :: a4 :: a3 :: a2 :: a1 :: st) h Q (mc' + mc) (ms' + ms) :=
  fx_callR ok hC (fx_siteS ok (as := [a1, a2, a3, a4, a5, a6, a7]) w.1 w.2 d) w.1.1 w.1.2.1 hlv hlo K
theorem fx_Sb7 (ok : fx_ok g) {idx : Nat} {a1 a2 a3 a4 a5 a6 a7 : Value} (w : fx_wS (fx_y M).cls idx 7 M') (hC : fx_C g M' ([a1, a2, a3, a4, a5, a6, a7] : List Value) h (fx_is (some x) k) mc' ms') (hlv : fx_lv M' + 1 ≤ fx_lv M) (hlo : (st.map fun v => v.category).sum + (fx_ml M' + 11) + fx_lw M' ≤ fx_lw M) (d : decode (fx_cc M) pc = .ok (.invokestatic idx, 3))
    (K : fx_X g M (pc + 3) lv (.int x :: st) k Q mc ms) : fx_X g M pc lv (a7 :: a6 :: a5 :: a4 :: a3 :: a2 :: a1 :: st) h Q (mc' + mc) (ms' + ms) :=
  fx_callR ok hC (fx_siteS ok (as := [a1, a2, a3, a4, a5, a6, a7]) w.1 w.2 d) w.1.1 w.1.2.1 hlv hlo K
theorem fx_St7 (ok : fx_ok g) {idx : Nat} {a1 a2 a3 a4 a5 a6 a7 : Value} (w : fx_wS (fx_y M).cls idx 7 M') {E : String} (hC : fx_C g M' ([a1, a2, a3, a4, a5, a6, a7] : List Value) h (fx_th E k) mc' ms') (hlv : fx_lv M' + 1 ≤ fx_lv M) (hlo : (st.map fun v => v.category).sum + (fx_ml M' + 11) + fx_lw M' ≤ fx_lw M) (d : decode (fx_cc M) pc = .ok (.invokestatic idx, 3))
    (K : fx_T g M pc lv E k Q mc ms) : fx_X g M pc lv (a7 :: a6 :: a5 :: a4 :: a3 :: a2 :: a1 :: st) h Q (mc' + mc) (ms' + ms) :=
  fx_callT ok hC (fx_siteS ok (as := [a1, a2, a3, a4, a5, a6, a7]) w.1 w.2 d) w.1.1 w.1.2.1 hlv hlo K
theorem fx_Vi7 (ok : fx_ok g) {idx : Nat} {b ci : Nat} {a1 a2 a3 a4 a5 a6 a7 : Value} (w : fx_wV (fx_y M).cls idx 7 M' ci) (hb : fx_s h b = some (.inl ci)) (hC : fx_C g M' (Value.ref b :: [a1, a2, a3, a4, a5, a6, a7]) h (fx_is (some x) k) 0 0) (hlv : fx_lv M' + 1 ≤ fx_lv M) (hlo : (st.map fun v => v.category).sum + (fx_ml M' + 11) + fx_lw M' ≤ fx_lw M) (d : decode (fx_cc M) pc = .ok (.invokevirtual idx, 3))
    (K : fx_X g M (pc + 3) lv (.int x :: st) k Q mc ms) : fx_X g M pc lv (a7 :: a6 :: a5 :: a4 :: a3 :: a2 :: a1 :: Value.ref b :: st) h Q mc ms := by
  obtain ⟨q, hq, hqc⟩ := w.2.2.2
  exact fx_callR0 ok hC (fx_siteV ok (as := [a1, a2, a3, a4, a5, a6, a7]) w.1 w.2.1 w.2.2.1 hb hq hqc d) w.1.1 w.1.2.1 hlv hlo K
theorem fx_Vv7 (ok : fx_ok g) {idx : Nat} {b ci : Nat} {a1 a2 a3 a4 a5 a6 a7 : Value} (w : fx_wV (fx_y M).cls idx 7 M' ci) (hb : fx_s h b = some (.inl ci)) (hC : fx_C g M' (Value.ref b :: [a1, a2, a3, a4, a5, a6, a7]) h (fx_is none k) 0 0) (hlv : fx_lv M' + 1 ≤ fx_lv M) (hlo : (st.map fun v => v.category).sum + (fx_ml M' + 11) + fx_lw M' ≤ fx_lw M) (d : decode (fx_cc M) pc = .ok (.invokevirtual idx, 3))
    (K : fx_X g M (pc + 3) lv st k Q mc ms) : fx_X g M pc lv (a7 :: a6 :: a5 :: a4 :: a3 :: a2 :: a1 :: Value.ref b :: st) h Q mc ms := by
  obtain ⟨q, hq, hqc⟩ := w.2.2.2
  exact fx_callR0 ok hC (fx_siteV ok (as := [a1, a2, a3, a4, a5, a6, a7]) w.1 w.2.1 w.2.2.1 hb hq hqc d) w.1.1 w.1.2.1 hlv hlo K
theorem fx_Va7 (ok : fx_ok g) {idx : Nat} {b ci : Nat} {a1 a2 a3 a4 a5 a6 a7 : Value} (w : fx_wV (fx_y M).cls idx 7 M' ci) (hb : fx_s h b = some (.inl ci)) (hC : fx_C g M' (Value.ref b :: [a1, a2, a3, a4, a5, a6, a7]) h (fx_is none k) mc' ms') (hlv : fx_lv M' + 1 ≤ fx_lv M) (hlo : (st.map fun v => v.category).sum + (fx_ml M' + 11) + fx_lw M' ≤ fx_lw M) (d : decode (fx_cc M) pc = .ok (.invokevirtual idx, 3))
    (K : fx_X g M (pc + 3) lv st k Q mc ms) : fx_X g M pc lv (a7 :: a6 :: a5 :: a4 :: a3 :: a2 :: a1 :: Value.ref b :: st) h Q (mc' + mc) (ms' + ms) := by
  obtain ⟨q, hq, hqc⟩ := w.2.2.2
  exact fx_callR ok hC (fx_siteV ok (as := [a1, a2, a3, a4, a5, a6, a7]) w.1 w.2.1 w.2.2.1 hb hq hqc d) w.1.1 w.1.2.1 hlv hlo K
theorem fx_Vb7 (ok : fx_ok g) {idx : Nat} {b ci : Nat} {a1 a2 a3 a4 a5 a6 a7 : Value} (w : fx_wV (fx_y M).cls idx 7 M' ci) (hb : fx_s h b = some (.inl ci)) (hC : fx_C g M' (Value.ref b :: [a1, a2, a3, a4, a5, a6, a7]) h (fx_is (some x) k) mc' ms') (hlv : fx_lv M' + 1 ≤ fx_lv M) (hlo : (st.map fun v => v.category).sum + (fx_ml M' + 11) + fx_lw M' ≤ fx_lw M) (d : decode (fx_cc M) pc = .ok (.invokevirtual idx, 3))
    (K : fx_X g M (pc + 3) lv (.int x :: st) k Q mc ms) : fx_X g M pc lv (a7 :: a6 :: a5 :: a4 :: a3 :: a2 :: a1 :: Value.ref b :: st) h Q (mc' + mc) (ms' + ms) := by
  obtain ⟨q, hq, hqc⟩ := w.2.2.2
  exact fx_callR ok hC (fx_siteV ok (as := [a1, a2, a3, a4, a5, a6, a7]) w.1 w.2.1 w.2.2.1 hb hq hqc d) w.1.1 w.1.2.1 hlv hlo K
theorem fx_Vt7 (ok : fx_ok g) {idx : Nat} {b ci : Nat} {a1 a2 a3 a4 a5 a6 a7 : Value} (w : fx_wV (fx_y M).cls idx 7 M' ci) (hb : fx_s h b = some (.inl ci)) {E : String} (hC : fx_C g M' (Value.ref b :: [a1, a2, a3, a4, a5, a6, a7]) h (fx_th E k) mc' ms') (hlv : fx_lv M' + 1 ≤ fx_lv M) (hlo : (st.map fun v => v.category).sum + (fx_ml M' + 11) + fx_lw M' ≤ fx_lw M) (d : decode (fx_cc M) pc = .ok (.invokevirtual idx, 3))
    (K : fx_T g M pc lv E k Q mc ms) : fx_X g M pc lv (a7 :: a6 :: a5 :: a4 :: a3 :: a2 :: a1 :: Value.ref b :: st) h Q (mc' + mc) (ms' + ms) := by
  obtain ⟨q, hq, hqc⟩ := w.2.2.2
  exact fx_callT ok hC (fx_siteV ok (as := [a1, a2, a3, a4, a5, a6, a7]) w.1 w.2.1 w.2.2.1 hb hq hqc d) w.1.1 w.1.2.1 hlv hlo K
theorem fx_Si8 (ok : fx_ok g) {idx : Nat} {a1 a2 a3 a4 a5 a6 a7 a8 : Value} (w : fx_wS (fx_y M).cls idx 8 M') (hC : fx_C g M' ([a1, a2, a3, a4, a5, a6, a7, a8] : List Value) h (fx_is (some x) k) 0 0) (hlv : fx_lv M' + 1 ≤ fx_lv M) (hlo : (st.map fun v => v.category).sum + (fx_ml M' + 11) + fx_lw M' ≤ fx_lw M) (d : decode (fx_cc M) pc = .ok (.invokestatic idx, 3))
    (K : fx_X g M (pc + 3) lv (.int x :: st) k Q mc ms) : fx_X g M pc lv (a8 :: a7 :: a6 :: a5 :: a4 :: a3 :: a2 :: a1 :: st) h Q mc ms :=
  fx_callR0 ok hC (fx_siteS ok (as := [a1, a2, a3, a4, a5, a6, a7, a8]) w.1 w.2 d) w.1.1 w.1.2.1 hlv hlo K
theorem fx_Sv8 (ok : fx_ok g) {idx : Nat} {a1 a2 a3 a4 a5 a6 a7 a8 : Value} (w : fx_wS (fx_y M).cls idx 8 M') (hC : fx_C g M' ([a1, a2, a3, a4, a5, a6, a7, a8] : List Value) h (fx_is none k) 0 0) (hlv : fx_lv M' + 1 ≤ fx_lv M) (hlo : (st.map fun v => v.category).sum + (fx_ml M' + 11) + fx_lw M' ≤ fx_lw M) (d : decode (fx_cc M) pc = .ok (.invokestatic idx, 3))
    (K : fx_X g M (pc + 3) lv st k Q mc ms) : fx_X g M pc lv (a8 :: a7 :: a6 :: a5 :: a4 :: a3 :: a2 :: a1 :: st) h Q mc ms :=
  fx_callR0 ok hC (fx_siteS ok (as := [a1, a2, a3, a4, a5, a6, a7, a8]) w.1 w.2 d) w.1.1 w.1.2.1 hlv hlo K
theorem fx_Sa8 (ok : fx_ok g) {idx : Nat} {a1 a2 a3 a4 a5 a6 a7 a8 : Value} (w : fx_wS (fx_y M).cls idx 8 M') (hC : fx_C g M' ([a1, a2, a3, a4, a5, a6, a7, a8] : List Value) h (fx_is none k) mc' ms') (hlv : fx_lv M' + 1 ≤ fx_lv M) (hlo : (st.map fun v => v.category).sum + (fx_ml M' + 11) + fx_lw M' ≤ fx_lw M) (d : decode (fx_cc M) pc = .ok (.invokestatic idx, 3))
    (K : fx_X g M (pc + 3) lv st k Q mc ms) : fx_X g M pc lv (a8 :: a7 :: a6 :: a5 :: a4 :: a3 :: a2 :: a1 :: st) h Q (mc' + mc) (ms' + ms) :=
  fx_callR ok hC (fx_siteS ok (as := [a1, a2, a3, a4, a5, a6, a7, a8]) w.1 w.2 d) w.1.1 w.1.2.1 hlv hlo K
theorem fx_Sb8 (ok : fx_ok g) {idx : Nat} {a1 a2 a3 a4 a5 a6 a7 a8 : Value} (w : fx_wS (fx_y M).cls idx 8 M') (hC : fx_C g M' ([a1, a2, a3, a4, a5, a6, a7, a8] : List Value) h (fx_is (some x) k) mc' ms') (hlv : fx_lv M' + 1 ≤ fx_lv M) (hlo : (st.map fun v => v.category).sum + (fx_ml M' + 11) + fx_lw M' ≤ fx_lw M) (d : decode (fx_cc M) pc = .ok (.invokestatic idx, 3))
    (K : fx_X g M (pc + 3) lv (.int x :: st) k Q mc ms) : fx_X g M pc lv (a8 :: a7 :: a6 :: a5 :: a4 :: a3 :: a2 :: a1 :: st) h Q (mc' + mc) (ms' + ms) :=
  fx_callR ok hC (fx_siteS ok (as := [a1, a2, a3, a4, a5, a6, a7, a8]) w.1 w.2 d) w.1.1 w.1.2.1 hlv hlo K
theorem fx_St8 (ok : fx_ok g) {idx : Nat} {a1 a2 a3 a4 a5 a6 a7 a8 : Value} (w : fx_wS (fx_y M).cls idx 8 M') {E : String} (hC : fx_C g M' ([a1, a2, a3, a4, a5, a6, a7, a8] : List Value) h (fx_th E k) mc' ms') (hlv : fx_lv M' + 1 ≤ fx_lv M) (hlo : (st.map fun v => v.category).sum + (fx_ml M' + 11) + fx_lw M' ≤ fx_lw M) (d : decode (fx_cc M) pc = .ok (.invokestatic idx, 3))
    (K : fx_T g M pc lv E k Q mc ms) : fx_X g M pc lv (a8 :: a7 :: a6 :: a5 :: a4 :: a3 :: a2 :: a1 :: st) h Q (mc' + mc) (ms' + ms) :=
  fx_callT ok hC (fx_siteS ok (as := [a1, a2, a3, a4, a5, a6, a7, a8]) w.1 w.2 d) w.1.1 w.1.2.1 hlv hlo K
theorem fx_Vi8 (ok : fx_ok g) {idx : Nat} {b ci : Nat} {a1 a2 a3 a4 a5 a6 a7 a8 : Value} (w : fx_wV (fx_y M).cls idx 8 M' ci) (hb : fx_s h b = some (.inl ci)) (hC : fx_C g M' (Value.ref b :: [a1, a2, a3, a4, a5, a6, a7, a8]) h (fx_is (some x) k) 0 0) (hlv : fx_lv M' + 1 ≤ fx_lv M) (hlo : (st.map fun v => v.category).sum + (fx_ml M' + 11) + fx_lw M' ≤ fx_lw M) (d : decode (fx_cc M) pc = .ok (.invokevirtual idx, 3))
    (K : fx_X g M (pc + 3) lv (.int x :: st) k Q mc ms) : fx_X g M pc lv (a8 :: a7 :: a6 :: a5 :: a4 :: a3 :: a2 :: a1 :: Value.ref b :: st) h Q mc ms := by
  obtain ⟨q, hq, hqc⟩ := w.2.2.2
  exact fx_callR0 ok hC (fx_siteV ok (as := [a1, a2, a3, a4, a5, a6, a7, a8]) w.1 w.2.1 w.2.2.1 hb hq hqc d) w.1.1 w.1.2.1 hlv hlo K
theorem fx_Vv8 (ok : fx_ok g) {idx : Nat} {b ci : Nat} {a1 a2 a3 a4 a5 a6 a7 a8 : Value} (w : fx_wV (fx_y M).cls idx 8 M' ci) (hb : fx_s h b = some (.inl ci)) (hC : fx_C g M' (Value.ref b :: [a1, a2, a3, a4, a5, a6, a7, a8]) h (fx_is none k) 0 0) (hlv : fx_lv M' + 1 ≤ fx_lv M) (hlo : (st.map fun v => v.category).sum + (fx_ml M' + 11) + fx_lw M' ≤ fx_lw M) (d : decode (fx_cc M) pc = .ok (.invokevirtual idx, 3))
    (K : fx_X g M (pc + 3) lv st k Q mc ms) : fx_X g M pc lv (a8 :: a7 :: a6 :: a5 :: a4 :: a3 :: a2 :: a1 :: Value.ref b :: st) h Q mc ms := by
  obtain ⟨q, hq, hqc⟩ := w.2.2.2
  exact fx_callR0 ok hC (fx_siteV ok (as := [a1, a2, a3, a4, a5, a6, a7, a8]) w.1 w.2.1 w.2.2.1 hb hq hqc d) w.1.1 w.1.2.1 hlv hlo K
theorem fx_Va8 (ok : fx_ok g) {idx : Nat} {b ci : Nat} {a1 a2 a3 a4 a5 a6 a7 a8 : Value} (w : fx_wV (fx_y M).cls idx 8 M' ci) (hb : fx_s h b = some (.inl ci)) (hC : fx_C g M' (Value.ref b :: [a1, a2, a3, a4, a5, a6, a7, a8]) h (fx_is none k) mc' ms') (hlv : fx_lv M' + 1 ≤ fx_lv M) (hlo : (st.map fun v => v.category).sum + (fx_ml M' + 11) + fx_lw M' ≤ fx_lw M) (d : decode (fx_cc M) pc = .ok (.invokevirtual idx, 3))
    (K : fx_X g M (pc + 3) lv st k Q mc ms) : fx_X g M pc lv (a8 :: a7 :: a6 :: a5 :: a4 :: a3 :: a2 :: a1 :: Value.ref b :: st) h Q (mc' + mc) (ms' + ms) := by
  obtain ⟨q, hq, hqc⟩ := w.2.2.2
  exact fx_callR ok hC (fx_siteV ok (as := [a1, a2, a3, a4, a5, a6, a7, a8]) w.1 w.2.1 w.2.2.1 hb hq hqc d) w.1.1 w.1.2.1 hlv hlo K
theorem fx_Vb8 (ok : fx_ok g) {idx : Nat} {b ci : Nat} {a1 a2 a3 a4 a5 a6 a7 a8 : Value} (w : fx_wV (fx_y M).cls idx 8 M' ci) (hb : fx_s h b = some (.inl ci)) (hC : fx_C g M' (Value.ref b :: [a1, a2, a3, a4, a5, a6, a7, a8]) h (fx_is (some x) k) mc' ms') (hlv : fx_lv M' + 1 ≤ fx_lv M) (hlo : (st.map fun v => v.category).sum + (fx_ml M' + 11) + fx_lw M' ≤ fx_lw M) (d : decode (fx_cc M) pc = .ok (.invokevirtual idx, 3))
    (K : fx_X g M (pc + 3) lv (.int x :: st) k Q mc ms) : fx_X g M pc lv (a8 :: a7 :: a6 :: a5 :: a4 :: a3 :: a2 :: a1 :: Value.ref b :: st) h Q (mc' + mc) (ms' + ms) := by
  obtain ⟨q, hq, hqc⟩ := w.2.2.2
  exact fx_callR ok hC (fx_siteV ok (as := [a1, a2, a3, a4, a5, a6, a7, a8]) w.1 w.2.1 w.2.2.1 hb hq hqc d) w.1.1 w.1.2.1 hlv hlo K
theorem fx_Vt8 (ok : fx_ok g) {idx : Nat} {b ci : Nat} {a1 a2 a3 a4 a5 a6 a7 a8 : Value} (w : fx_wV (fx_y M).cls idx 8 M' ci) (hb : fx_s h b = some (.inl ci)) {E : String} (hC : fx_C g M' (Value.ref b :: [a1, a2, a3, a4, a5, a6, a7, a8]) h (fx_th E k) mc' ms') (hlv : fx_lv M' + 1 ≤ fx_lv M) (hlo : (st.map fun v => v.category).sum + (fx_ml M' + 11) + fx_lw M' ≤ fx_lw M) (d : decode (fx_cc M) pc = .ok (.invokevirtual idx, 3))
    (K : fx_T g M pc lv E k Q mc ms) : fx_X g M pc lv (a8 :: a7 :: a6 :: a5 :: a4 :: a3 :: a2 :: a1 :: Value.ref b :: st) h Q (mc' + mc) (ms' + ms) := by
  obtain ⟨q, hq, hqc⟩ := w.2.2.2
  exact fx_callT ok hC (fx_siteV ok (as := [a1, a2, a3, a4, a5, a6, a7, a8]) w.1 w.2.1 w.2.2.1 hb hq hqc d) w.1.1 w.1.2.1 hlv hlo K
theorem fx_Si9 (ok : fx_ok g) {idx : Nat} {a1 a2 a3 a4 a5 a6 a7 a8 a9 : Value} (w : fx_wS (fx_y M).cls idx 9 M') (hC : fx_C g M' ([a1, a2, a3, a4, a5, a6, a7, a8, a9] : List Value) h (fx_is (some x) k) 0 0) (hlv : fx_lv M' + 1 ≤ fx_lv M) (hlo : (st.map fun v => v.category).sum + (fx_ml M' + 11) + fx_lw M' ≤ fx_lw M) (d : decode (fx_cc M) pc = .ok (.invokestatic idx, 3))
    (K : fx_X g M (pc + 3) lv (.int x :: st) k Q mc ms) : fx_X g M pc lv (a9 :: a8 :: a7 :: a6 :: a5 :: a4 :: a3 :: a2 :: a1 :: st) h Q mc ms :=
  fx_callR0 ok hC (fx_siteS ok (as := [a1, a2, a3, a4, a5, a6, a7, a8, a9]) w.1 w.2 d) w.1.1 w.1.2.1 hlv hlo K
theorem fx_Sv9 (ok : fx_ok g) {idx : Nat} {a1 a2 a3 a4 a5 a6 a7 a8 a9 : Value} (w : fx_wS (fx_y M).cls idx 9 M') (hC : fx_C g M' ([a1, a2, a3, a4, a5, a6, a7, a8, a9] : List Value) h (fx_is none k) 0 0) (hlv : fx_lv M' + 1 ≤ fx_lv M) (hlo : (st.map fun v => v.category).sum + (fx_ml M' + 11) + fx_lw M' ≤ fx_lw M) (d : decode (fx_cc M) pc = .ok (.invokestatic idx, 3))
    (K : fx_X g M (pc + 3) lv st k Q mc ms) : fx_X g M pc lv (a9 :: a8 :: a7 :: a6 :: a5 :: a4 :: a3 :: a2 :: a1 :: st) h Q mc ms :=
  fx_callR0 ok hC (fx_siteS ok (as := [a1, a2, a3, a4, a5, a6, a7, a8, a9]) w.1 w.2 d) w.1.1 w.1.2.1 hlv hlo K
theorem fx_Sa9 (ok : fx_ok g) {idx : Nat} {a1 a2 a3 a4 a5 a6 a7 a8 a9 : Value} (w : fx_wS (fx_y M).cls idx 9 M') (hC : fx_C g M' ([a1, a2, a3, a4, a5, a6, a7, a8, a9] : List Value) h (fx_is none k) mc' ms') (hlv : fx_lv M' + 1 ≤ fx_lv M) (hlo : (st.map fun v => v.category).sum + (fx_ml M' + 11) + fx_lw M' ≤ fx_lw M) (d : decode (fx_cc M) pc = .ok (.invokestatic idx, 3))
    (K : fx_X g M (pc + 3) lv st k Q mc ms) : fx_X g M pc lv (a9 :: a8 :: a7 :: a6 :: a5 :: a4 :: a3 :: a2 :: a1 :: st) h Q (mc' + mc) (ms' + ms) :=
  fx_callR ok hC (fx_siteS ok (as := [a1, a2, a3, a4, a5, a6, a7, a8, a9]) w.1 w.2 d) w.1.1 w.1.2.1 hlv hlo K
theorem fx_Sb9 (ok : fx_ok g) {idx : Nat} {a1 a2 a3 a4 a5 a6 a7 a8 a9 : Value} (w : fx_wS (fx_y M).cls idx 9 M') (hC : fx_C g M' ([a1, a2, a3, a4, a5, a6, a7, a8, a9] : List Value) h (fx_is (some x) k) mc' ms') (hlv : fx_lv M' + 1 ≤ fx_lv M) (hlo : (st.map fun v => v.category).sum + (fx_ml M' + 11) + fx_lw M' ≤ fx_lw M) (d : decode (fx_cc M) pc = .ok (.invokestatic idx, 3))
    (K : fx_X g M (pc + 3) lv (.int x :: st) k Q mc ms) : fx_X g M pc lv (a9 :: a8 :: a7 :: a6 :: a5 :: a4 :: a3 :: a2 :: a1 :: st) h Q (mc' + mc) (ms' + ms) :=
  fx_callR ok hC (fx_siteS ok (as := [a1, a2, a3, a4, a5, a6, a7, a8, a9]) w.1 w.2 d) w.1.1 w.1.2.1 hlv hlo K
theorem fx_St9 (ok : fx_ok g) {idx : Nat} {a1 a2 a3 a4 a5 a6 a7 a8 a9 : Value} (w : fx_wS (fx_y M).cls idx 9 M') {E : String} (hC : fx_C g M' ([a1, a2, a3, a4, a5, a6, a7, a8, a9] : List Value) h (fx_th E k) mc' ms') (hlv : fx_lv M' + 1 ≤ fx_lv M) (hlo : (st.map fun v => v.category).sum + (fx_ml M' + 11) + fx_lw M' ≤ fx_lw M) (d : decode (fx_cc M) pc = .ok (.invokestatic idx, 3))
    (K : fx_T g M pc lv E k Q mc ms) : fx_X g M pc lv (a9 :: a8 :: a7 :: a6 :: a5 :: a4 :: a3 :: a2 :: a1 :: st) h Q (mc' + mc) (ms' + ms) :=
  fx_callT ok hC (fx_siteS ok (as := [a1, a2, a3, a4, a5, a6, a7, a8, a9]) w.1 w.2 d) w.1.1 w.1.2.1 hlv hlo K
theorem fx_Vi9 (ok : fx_ok g) {idx : Nat} {b ci : Nat} {a1 a2 a3 a4 a5 a6 a7 a8 a9 : Value} (w : fx_wV (fx_y M).cls idx 9 M' ci) (hb : fx_s h b = some (.inl ci)) (hC : fx_C g M' (Value.ref b :: [a1, a2, a3, a4, a5, a6, a7, a8, a9]) h (fx_is (some x) k) 0 0) (hlv : fx_lv M' + 1 ≤ fx_lv M) (hlo : (st.map fun v => v.category).sum + (fx_ml M' + 11) + fx_lw M' ≤ fx_lw M) (d : decode (fx_cc M) pc = .ok (.invokevirtual idx, 3))
    (K : fx_X g M (pc + 3) lv (.int x :: st) k Q mc ms) : fx_X g M pc lv (a9 :: a8 :: a7 :: a6 :: a5 :: a4 :: a3 :: a2 :: a1 :: Value.ref b :: st) h Q mc ms := by
  obtain ⟨q, hq, hqc⟩ := w.2.2.2
  exact fx_callR0 ok hC (fx_siteV ok (as := [a1, a2, a3, a4, a5, a6, a7, a8, a9]) w.1 w.2.1 w.2.2.1 hb hq hqc d) w.1.1 w.1.2.1 hlv hlo K
theorem fx_Vv9 (ok : fx_ok g) {idx : Nat} {b ci : Nat} {a1 a2 a3 a4 a5 a6 a7 a8 a9 : Value} (w : fx_wV (fx_y M).cls idx 9 M' ci) (hb : fx_s h b = some (.inl ci)) (hC : fx_C g M' (Value.ref b :: [a1, a2, a3, a4, a5, a6, a7, a8, a9]) h (fx_is none k) 0 0) (hlv : fx_lv M' + 1 ≤ fx_lv M) (hlo : (st.map fun v => v.category).sum + (fx_ml M' + 11) + fx_lw M' ≤ fx_lw M) (d : decode (fx_cc M) pc = .ok (.invokevirtual idx, 3))
    (K : fx_X g M (pc + 3) lv st k Q mc ms) : fx_X g M pc lv (a9 :: a8 :: a7 :: a6 :: a5 :: a4 :: a3 :: a2 :: a1 :: Value.ref b :: st) h Q mc ms := by
  obtain ⟨q, hq, hqc⟩ := w.2.2.2
  exact fx_callR0 ok hC (fx_siteV ok (as := [a1, a2, a3, a4, a5, a6, a7, a8, a9]) w.1 w.2.1 w.2.2.1 hb hq hqc d) w.1.1 w.1.2.1 hlv hlo K
theorem fx_Va9 (ok : fx_ok g) {idx : Nat} {b ci : Nat} {a1 a2 a3 a4 a5 a6 a7 a8 a9 : Value} (w : fx_wV (fx_y M).cls idx 9 M' ci) (hb : fx_s h b = some (.inl ci)) (hC : fx_C g M' (Value.ref b :: [a1, a2, a3, a4, a5, a6, a7, a8, a9]) h (fx_is none k) mc' ms') (hlv : fx_lv M' + 1 ≤ fx_lv M) (hlo : (st.map fun v => v.category).sum + (fx_ml M' + 11) + fx_lw M' ≤ fx_lw M) (d : decode (fx_cc M) pc = .ok (.invokevirtual idx, 3))
    (K : fx_X g M (pc + 3) lv st k Q mc ms) : fx_X g M pc lv (a9 :: a8 :: a7 :: a6 :: a5 :: a4 :: a3 :: a2 :: a1 :: Value.ref b :: st) h Q (mc' + mc) (ms' + ms) := by
  obtain ⟨q, hq, hqc⟩ := w.2.2.2
  exact fx_callR ok hC (fx_siteV ok (as := [a1, a2, a3, a4, a5, a6, a7, a8, a9]) w.1 w.2.1 w.2.2.1 hb hq hqc d) w.1.1 w.1.2.1 hlv hlo K
theorem fx_Vb9 (ok : fx_ok g) {idx : Nat} {b ci : Nat} {a1 a2 a3 a4 a5 a6 a7 a8 a9 : Value} (w : fx_wV (fx_y M).cls idx 9 M' ci) (hb : fx_s h b = some (.inl ci)) (hC : fx_C g M' (Value.ref b :: [a1, a2, a3, a4, a5, a6, a7, a8, a9]) h (fx_is (some x) k) mc' ms') (hlv : fx_lv M' + 1 ≤ fx_lv M) (hlo : (st.map fun v => v.category).sum + (fx_ml M' + 11) + fx_lw M' ≤ fx_lw M) (d : decode (fx_cc M) pc = .ok (.invokevirtual idx, 3))
    (K : fx_X g M (pc + 3) lv (.int x :: st) k Q mc ms) : fx_X g M pc lv (a9 :: a8 :: a7 :: a6 :: a5 :: a4 :: a3 :: a2 :: a1 :: Value.ref b :: st) h Q (mc' + mc) (ms' + ms) := by
  obtain ⟨q, hq, hqc⟩ := w.2.2.2
  exact fx_callR ok hC (fx_siteV ok (as := [a1, a2, a3, a4, a5, a6, a7, a8, a9]) w.1 w.2.1 w.2.2.1 hb hq hqc d) w.1.1 w.1.2.1 hlv hlo K
theorem fx_Vt9 (ok : fx_ok g) {idx : Nat} {b ci : Nat} {a1 a2 a3 a4 a5 a6 a7 a8 a9 : Value} (w : fx_wV (fx_y M).cls idx 9 M' ci) (hb : fx_s h b = some (.inl ci)) {E : String} (hC : fx_C g M' (Value.ref b :: [a1, a2, a3, a4, a5, a6, a7, a8, a9]) h (fx_th E k) mc' ms') (hlv : fx_lv M' + 1 ≤ fx_lv M) (hlo : (st.map fun v => v.category).sum + (fx_ml M' + 11) + fx_lw M' ≤ fx_lw M) (d : decode (fx_cc M) pc = .ok (.invokevirtual idx, 3))
    (K : fx_T g M pc lv E k Q mc ms) : fx_X g M pc lv (a9 :: a8 :: a7 :: a6 :: a5 :: a4 :: a3 :: a2 :: a1 :: Value.ref b :: st) h Q (mc' + mc) (ms' + ms) := by
  obtain ⟨q, hq, hqc⟩ := w.2.2.2
  exact fx_callT ok hC (fx_siteV ok (as := [a1, a2, a3, a4, a5, a6, a7, a8, a9]) w.1 w.2.1 w.2.2.1 hb hq hqc d) w.1.1 w.1.2.1 hlv hlo K
theorem fx_Ia0 (ok : fx_ok g) {idx : Nat} {b : Nat} (w : fx_wI (fx_y M).cls idx 0 M') (hC : fx_C g M' (Value.ref b :: []) h (fx_is none k) mc' ms') (hlv : fx_lv M' + 1 ≤ fx_lv M) (hlo : (st.map fun v => v.category).sum + (fx_ml M' + 11) + fx_lw M' ≤ fx_lw M) (d : decode (fx_cc M) pc = .ok (.invokespecial idx, 3))
    (K : fx_X g M (pc + 3) lv st k Q mc ms) : fx_X g M pc lv (Value.ref b :: st) h Q (mc' + mc) (ms' + ms) :=
  fx_callR ok hC (fx_siteI ok (as := []) w.1 w.2.1 w.2.2.1 w.2.2.2.1 w.2.2.2.2 d) w.1.1 w.1.2.1 hlv hlo K
theorem fx_Na0 (ok : fx_ok g) {idx : Nat} {b : Nat} {host : String} (w : fx_wN (fx_y M).cls idx 0 M' host) (hC : fx_C g M' (Value.ref b :: []) h (fx_is none k) mc' ms') (hlv : fx_lv M' + 1 ≤ fx_lv M) (hlo : (st.map fun v => v.category).sum + (fx_ml M' + 11) + fx_lw M' ≤ fx_lw M) (d : decode (fx_cc M) pc = .ok (.invokespecial idx, 3))
    (K : fx_X g M (pc + 3) lv st k Q mc ms) : fx_X g M pc lv (Value.ref b :: st) h Q (mc' + mc) (ms' + ms) :=
  fx_callR ok hC (fx_siteIN ok (as := []) w.1 w.2.1 w.2.2.1 w.2.2.2.1 w.2.2.2.2 d) w.1.1 w.1.2.1 hlv hlo K
theorem fx_Mi3 (ok : fx_ok g) {idx : Nat} {a1 a2 a3 : Value} {host : String} (w : fx_wSN (fx_y M).cls idx 3 M' host) (hC : fx_C g M' ([a1, a2, a3] : List Value) h (fx_is (some x) k) 0 0) (hlv : fx_lv M' + 1 ≤ fx_lv M) (hlo : (st.map fun v => v.category).sum + (fx_ml M' + 11) + fx_lw M' ≤ fx_lw M) (d : decode (fx_cc M) pc = .ok (.invokestatic idx, 3))
    (K : fx_X g M (pc + 3) lv (.int x :: st) k Q mc ms) : fx_X g M pc lv (a3 :: a2 :: a1 :: st) h Q mc ms :=
  fx_callR0 ok hC (fx_siteSN ok (as := [a1, a2, a3]) w.1 w.2 d) w.1.1 w.1.2.1 hlv hlo K
end FXS
end
section
/-! ===== the methods: name, bytes, locals, answer, room, table ===== -/
theorem fx_m1 {w : Cond} (i : Nat) (h : tables_1[i]? = some w) : w ∈ fx_tb := List.mem_append_left _ (List.mem_append_right _ (List.mem_of_getElem? h))
theorem fx_m0 {w : Cond} (i : Nat) (h : (k2_sels lw_privs)[i]? = some w) : w ∈ fx_tb := List.mem_append_left _ (List.mem_append_left _ (List.mem_of_getElem? h))
theorem fx_m2 {w : Cond} (i : Nat) (h : fx_ex[i]? = some w) : w ∈ fx_tb := List.mem_append_right _ (List.mem_of_getElem? h)
theorem fx_mU {C : String} {T : u_T} {N : Nat} (ps : List Nat) (h : u_ws C T N = ps.filterMap (fun i => tables_1[i]?)) : ∀ w ∈ u_ws C T N, w ∈ fx_tb := by
  intro w hw
  rw [h] at hw
  obtain ⟨i, -, hi⟩ := List.mem_filterMap.mp hw
  exact fx_m1 i hi
def mq_FS_init : fx_M := (⟨"FrameSwapper", "<init>", "()V"⟩, prog_1_method_1_code, 1, none, (5, 71), [])
def mq_DE_init : fx_M := (⟨"FrameSwapper$Desk", "<init>", "()V"⟩, prog_4_method_1_code, 2, none, (4, 56), [])
def mq_PL_init : fx_M := (⟨"FrameSwapper$Pile", "<init>", "()V"⟩, prog_8_method_1_code, 2, none, (3, 41), [])
def mq_PI_init : fx_M := (⟨"FrameSwapper$Picture", "<init>", "()V"⟩, prog_7_method_1_code, 1, none, (2, 26), [])
def mq_RE_init : fx_M := (⟨"FrameSwapper$Rectangle", "<init>", "()V"⟩, prog_10_method_1_code, 1, none, (1, 12), [])
def mq_CO_init : fx_M := (⟨"FrameSwapper$Composer", "<init>", "()V"⟩, prog_3_method_1_code, 2, none, (4, 56), [])
def mq_PN_init : fx_M := (⟨"FrameSwapper$Planes", "<init>", "()V"⟩, prog_9_method_1_code, 1, none, (2, 29), [])
def mq_ME_init : fx_M := (⟨"FrameSwapper$Memory", "<init>", "()V"⟩, prog_5_method_1_code, 1, none, (3, 42), [])
def mq_MI_init : fx_M := (⟨"FrameSwapper$Misses", "<init>", "()V"⟩, prog_6_method_1_code, 2, none, (2, 27), [])
def mq_BE_init : fx_M := (⟨"FrameSwapper$Beam", "<init>", "()V"⟩, prog_2_method_1_code, 1, none, (3, 43), [])
def mq_FS_scan : fx_M := (⟨"FrameSwapper", "scan", "()I"⟩, prog_1_method_11_code, 1, some .int, (3, 49), [])
def mq_BE_scanRow : fx_M := (⟨"FrameSwapper$Beam", "scanRow", "(LFrameSwapper$Memory;)I"⟩, prog_2_method_2_code, 3, some .int, (2, 35), [])
def mq_PN_mixInto : fx_M := (⟨"FrameSwapper$Planes", "mixInto", "([II)V"⟩, prog_9_method_7_code, 6, none, (1, 18), [])
def mq_BE_endFrame : fx_M := (⟨"FrameSwapper$Beam", "endFrame", "(I)V"⟩, prog_2_method_3_code, 2, none, (1, 18), [])
def mq_CO_swap : fx_M := (⟨"FrameSwapper$Composer", "swap", "()V"⟩, prog_3_method_9_code, 2, none, (0, 0), [])
def mq_PN_become : fx_M := (⟨"FrameSwapper$Planes", "become", "(LFrameSwapper$Planes;)V"⟩, prog_9_method_3_code, 3, none, (2, 29), [])
def mq_RE_become : fx_M := (⟨"FrameSwapper$Rectangle", "become", "(LFrameSwapper$Rectangle;)V"⟩, prog_10_method_3_code, 2, none, (1, 16), [])
def mq_RE_set : fx_M := (⟨"FrameSwapper$Rectangle", "set", "(IIII)V"⟩, prog_10_method_2_code, 5, none, (0, 0), [])
def mq_FS_state : fx_M := (⟨"FrameSwapper", "state", "()I"⟩, prog_1_method_12_code, 1, some .int, (0, 0), [])
def mq_FS_seen : fx_M := (⟨"FrameSwapper", "seen", "(II)I"⟩, prog_1_method_13_code, 3, some .int, (2, 27), [])
def mq_FS_isOnScreen : fx_M := (⟨"FrameSwapper", "isOnScreen", "(II)Z"⟩, prog_1_method_25_code, 2, some .boolean, (1, 14), [])
def mq_FS_isWithin : fx_M := (⟨"FrameSwapper", "isWithin", "(III)Z"⟩, prog_1_method_20_code, 3, some .boolean, (0, 0), [])
def mq_FS_wanted : fx_M := (⟨"FrameSwapper", "wanted", "(II)I"⟩, prog_1_method_14_code, 3, some .int, (3, 48), [])
def mq_PL_colorAt : fx_M := (⟨"FrameSwapper$Pile", "colorAt", "(II)I"⟩, prog_8_method_4_code, 6, some .int, (2, 31), [])
def mq_RE_has : fx_M := (⟨"FrameSwapper$Rectangle", "has", "(II)Z"⟩, prog_10_method_8_code, 3, some .boolean, (0, 0), [])
def mq_PI_colorAt : fx_M := (⟨"FrameSwapper$Picture", "colorAt", "(II)I"⟩, prog_7_method_6_code, 3, some .int, (0, 0), [])
def mq_FS_mix : fx_M := (⟨"FrameSwapper", "mix", "(III)I"⟩, prog_1_method_26_code, 6, some .int, (1, 14), [])
def mq_FS_mixPart : fx_M := (⟨"FrameSwapper", "mixPart", "(III)I"⟩, prog_1_method_27_code, 3, some .int, (0, 0), [])
def mq_FS_count : fx_M := (⟨"FrameSwapper", "count", "(I)I"⟩, prog_1_method_15_code, 2, some .int, (0, 0), [])
def mq_FS_missed : fx_M := (⟨"FrameSwapper", "missed", "(II)I"⟩, prog_1_method_16_code, 5, some .int, (0, 0), [])
def mq_FS_plane : fx_M := (⟨"FrameSwapper", "plane", "(I)I"⟩, prog_1_method_17_code, 2, some .int, (1, 14), [])
def mq_FS_free : fx_M := (⟨"FrameSwapper", "free", "()I"⟩, prog_1_method_18_code, 1, some .int, (0, 0), [])
def mq_LA_surface : fx_M := (⟨"FrameSwapperLaw", "surface", "(LFrameSwapper;III[J)I"⟩, method_3_code, 6, some .int, (8, 112), [(0, 12, 15, 13), (0, 12, 19, 15)])
def mq_FS_surface : fx_M := (⟨"FrameSwapper", "surface", "(III)I"⟩, prog_1_method_2_code, 5, some .int, (7, 94), [])
def mq_FS_isClient : fx_M := (⟨"FrameSwapper", "isClient", "(I)Z"⟩, prog_1_method_21_code, 1, some .boolean, (1, 14), [])
def mq_FS_demand : fx_M := (⟨"FrameSwapper", "demand", "(Z)V"⟩, prog_1_method_19_code, 1, none, (6, 82), [])
def mq_DE_lowestFreeNumber : fx_M := (⟨"FrameSwapper$Desk", "lowestFreeNumber", "()I"⟩, prog_4_method_3_code, 2, some .int, (0, 0), [])
def mq_DE_open : fx_M := (⟨"FrameSwapper$Desk", "open", "(IIII)V"⟩, prog_4_method_4_code, 5, none, (4, 56), [])
def mq_PI_start : fx_M := (⟨"FrameSwapper$Picture", "start", "(II)V"⟩, prog_7_method_2_code, 3, none, (3, 42), [])
def mq_PI_findShown : fx_M := (⟨"FrameSwapper$Picture", "findShown", "()V"⟩, prog_7_method_5_code, 1, none, (2, 30), [])
def mq_RE_shift : fx_M := (⟨"FrameSwapper$Rectangle", "shift", "(II)V"⟩, prog_10_method_4_code, 3, none, (0, 0), [])
def mq_RE_cut : fx_M := (⟨"FrameSwapper$Rectangle", "cut", "(II)V"⟩, prog_10_method_5_code, 5, none, (1, 14), [])
def mq_LA_destroy : fx_M := (⟨"FrameSwapperLaw", "destroy", "(LFrameSwapper;I)I"⟩, method_4_code, 3, some .int, (8, 107), [(0, 5, 8, 13)])
def mq_FS_destroy : fx_M := (⟨"FrameSwapper", "destroy", "(I)V"⟩, prog_1_method_3_code, 2, none, (7, 94), [])
def mq_DE_hasDraft : fx_M := (⟨"FrameSwapper$Desk", "hasDraft", "(I)Z"⟩, prog_4_method_2_code, 2, some .boolean, (0, 0), [])
def mq_PI_remove : fx_M := (⟨"FrameSwapper$Picture", "remove", "()V"⟩, prog_7_method_3_code, 1, none, (3, 42), [])
def mq_LA_place : fx_M := (⟨"FrameSwapperLaw", "place", "(LFrameSwapper;IIIIIZ)I"⟩, method_5_code, 8, some .int, (8, 113), [(0, 13, 16, 13)])
def mq_FS_place : fx_M := (⟨"FrameSwapper", "place", "(IIIIIZ)V"⟩, prog_1_method_4_code, 8, none, (7, 94), [])
def mq_FS_isPlace : fx_M := (⟨"FrameSwapper", "isPlace", "(I)Z"⟩, prog_1_method_23_code, 1, some .boolean, (1, 14), [])
def mq_LA_clip : fx_M := (⟨"FrameSwapperLaw", "clip", "(LFrameSwapper;IIIII)I"⟩, method_6_code, 7, some .int, (8, 112), [(0, 11, 14, 13)])
def mq_FS_clip : fx_M := (⟨"FrameSwapper", "clip", "(IIIII)V"⟩, prog_1_method_5_code, 7, none, (7, 94), [])
def mq_FS_isArea : fx_M := (⟨"FrameSwapper", "isArea", "(IIII)Z"⟩, prog_1_method_24_code, 4, some .boolean, (2, 26), [])
def mq_LA_put : fx_M := (⟨"FrameSwapperLaw", "put", "(LFrameSwapper;IIII)I"⟩, method_7_code, 6, some .int, (8, 111), [(0, 9, 12, 13), (0, 9, 16, 33)])
def mq_FS_put : fx_M := (⟨"FrameSwapper", "put", "(IIII)V"⟩, prog_1_method_6_code, 6, none, (7, 94), [])
def mq_FS_isColor : fx_M := (⟨"FrameSwapper", "isColor", "(I)Z"⟩, prog_1_method_22_code, 1, some .boolean, (1, 14), [])
def mq_LA_fill : fx_M := (⟨"FrameSwapperLaw", "fill", "(LFrameSwapper;IIIIII[J)I"⟩, method_8_code, 9, some .int, (8, 115), [(0, 18, 21, 13)])
def mq_FS_fill : fx_M := (⟨"FrameSwapper", "fill", "(IIIIII)I"⟩, prog_1_method_7_code, 8, some .int, (7, 94), [])
def mq_PI_paintOver : fx_M := (⟨"FrameSwapper$Picture", "paintOver", "(LFrameSwapper$Rectangle;I)V"⟩, prog_7_method_7_code, 5, none, (0, 0), [])
def mq_RE_pixels : fx_M := (⟨"FrameSwapper$Rectangle", "pixels", "()I"⟩, prog_10_method_7_code, 1, some .int, (0, 0), [])
def mq_LA_copy : fx_M := (⟨"FrameSwapperLaw", "copy", "(LFrameSwapper;IIIIIIII[J)I"⟩, method_9_code, 11, some .int, (8, 118), [(0, 22, 25, 13)])
def mq_FS_copy : fx_M := (⟨"FrameSwapper", "copy", "(IIIIIIII)I"⟩, prog_1_method_8_code, 11, some .int, (7, 94), [])
def mq_PI_become : fx_M := (⟨"FrameSwapper$Picture", "become", "(LFrameSwapper$Picture;)V"⟩, prog_7_method_4_code, 2, none, (2, 29), [])
def mq_PI_layDown : fx_M := (⟨"FrameSwapper$Picture", "layDown", "(LFrameSwapper$Rectangle;LFrameSwapper$Picture;)V"⟩, prog_7_method_8_code, 5, none, (1, 16), [])
def mq_LA_commit : fx_M := (⟨"FrameSwapperLaw", "commit", "(LFrameSwapper;I[J)I"⟩, method_10_code, 4, some .int, (8, 109), [(0, 9, 12, 13), (0, 9, 15, 15)])
def mq_FS_commit : fx_M := (⟨"FrameSwapper", "commit", "(I)I"⟩, prog_1_method_9_code, 2, some .int, (7, 94), [])
def mq_DE_commitAll : fx_M := (⟨"FrameSwapper$Desk", "commitAll", "(I)V"⟩, prog_4_method_5_code, 3, none, (3, 42), [])
def mq_PL_sort : fx_M := (⟨"FrameSwapper$Pile", "sort", "()V"⟩, prog_8_method_2_code, 3, none, (0, 0), [])
def mq_LA_draw : fx_M := (⟨"FrameSwapperLaw", "draw", "(LFrameSwapper;I[J)I"⟩, method_11_code, 4, some .int, (8, 118), [(0, 9, 12, 13)])
def mq_FS_draw : fx_M := (⟨"FrameSwapper", "draw", "(I)I"⟩, prog_1_method_10_code, 2, some .int, (7, 103), [])
def mq_CO_begin : fx_M := (⟨"FrameSwapper$Composer", "begin", "(LFrameSwapper$Desk;)V"⟩, prog_3_method_2_code, 2, none, (6, 90), [])
def mq_CO_rememberBefore : fx_M := (⟨"FrameSwapper$Composer", "rememberBefore", "()V"⟩, prog_3_method_3_code, 2, none, (2, 29), [])
def mq_PN_has : fx_M := (⟨"FrameSwapper$Planes", "has", "(I)Z"⟩, prog_9_method_2_code, 2, some .boolean, (0, 0), [])
def mq_PL_become : fx_M := (⟨"FrameSwapper$Pile", "become", "(LFrameSwapper$Pile;)V"⟩, prog_8_method_3_code, 3, none, (3, 42), [])
def mq_PN_choose : fx_M := (⟨"FrameSwapper$Planes", "choose", "(LFrameSwapper$Pile;)V"⟩, prog_9_method_4_code, 4, none, (3, 48), [])
def mq_PN_isFit : fx_M := (⟨"FrameSwapper$Planes", "isFit", "(LFrameSwapper$Pile;I)Z"⟩, prog_9_method_5_code, 5, some .boolean, (2, 27), [])
def mq_RE_isEmpty : fx_M := (⟨"FrameSwapper$Rectangle", "isEmpty", "()Z"⟩, prog_10_method_6_code, 1, some .boolean, (0, 0), [])
def mq_RE_meets : fx_M := (⟨"FrameSwapper$Rectangle", "meets", "(LFrameSwapper$Rectangle;)Z"⟩, prog_10_method_9_code, 2, some .boolean, (1, 14), [])
def mq_PN_give : fx_M := (⟨"FrameSwapper$Planes", "give", "(IILFrameSwapper$Picture;)V"⟩, prog_9_method_6_code, 8, none, (2, 29), [])
def mq_CO_noteChanges : fx_M := (⟨"FrameSwapper$Composer", "noteChanges", "(LFrameSwapper$Desk;)V"⟩, prog_3_method_4_code, 5, none, (5, 74), [])
def mq_DE_isWaiting : fx_M := (⟨"FrameSwapper$Desk", "isWaiting", "(I)Z"⟩, prog_4_method_6_code, 2, some .boolean, (0, 0), [])
def mq_MI_add : fx_M := (⟨"FrameSwapper$Misses", "add", "(LFrameSwapper$Rectangle;)V"⟩, prog_6_method_2_code, 2, none, (4, 61), [])
def mq_MI_isCovered : fx_M := (⟨"FrameSwapper$Misses", "isCovered", "(LFrameSwapper$Rectangle;)Z"⟩, prog_6_method_3_code, 3, some .boolean, (1, 13), [])
def mq_RE_contains : fx_M := (⟨"FrameSwapper$Rectangle", "contains", "(LFrameSwapper$Rectangle;)Z"⟩, prog_10_method_10_code, 2, some .boolean, (0, 0), [])
def mq_MI_joinNearest : fx_M := (⟨"FrameSwapper$Misses", "joinNearest", "()V"⟩, prog_6_method_4_code, 7, none, (3, 43), [])
def mq_RE_wasteWith : fx_M := (⟨"FrameSwapper$Rectangle", "wasteWith", "(LFrameSwapper$Rectangle;)I"⟩, prog_10_method_11_code, 4, some .int, (1, 14), [])
def mq_RE_growOver : fx_M := (⟨"FrameSwapper$Rectangle", "growOver", "(LFrameSwapper$Rectangle;)V"⟩, prog_10_method_12_code, 4, none, (1, 14), [])
def mq_MI_dropAt : fx_M := (⟨"FrameSwapper$Misses", "dropAt", "(I)V"⟩, prog_6_method_5_code, 3, none, (2, 29), [])
def mq_DE_allTaken : fx_M := (⟨"FrameSwapper$Desk", "allTaken", "()V"⟩, prog_4_method_7_code, 2, none, (0, 0), [])
def mq_CO_startHole : fx_M := (⟨"FrameSwapper$Composer", "startHole", "(I)V"⟩, prog_3_method_5_code, 2, none, (0, 0), [])
def mq_CO_makeSteps : fx_M := (⟨"FrameSwapper$Composer", "makeSteps", "(I)I"⟩, prog_3_method_6_code, 3, some .int, (4, 63), [])
def mq_CO_makeStep : fx_M := (⟨"FrameSwapper$Composer", "makeStep", "()V"⟩, prog_3_method_7_code, 2, none, (3, 50), [])
def mq_ME_blacken : fx_M := (⟨"FrameSwapper$Memory", "blacken", "(LFrameSwapper$Rectangle;)V"⟩, prog_5_method_2_code, 4, none, (0, 0), [])
def mq_ME_paint : fx_M := (⟨"FrameSwapper$Memory", "paint", "(LFrameSwapper$Picture;LFrameSwapper$Rectangle;)V"⟩, prog_5_method_3_code, 6, none, (2, 33), [])
def mq_CO_nextLevel : fx_M := (⟨"FrameSwapper$Composer", "nextLevel", "(LFrameSwapper$Rectangle;)I"⟩, prog_3_method_8_code, 4, some .int, (2, 27), [])
def mq_MO_init : fx_M := (⟨"FrameSwapperModel", "<init>", "()V"⟩, prog_12_method_1_code, 1, none, (1, 12), [])
def mq_MO_thrown : fx_M := (⟨"FrameSwapperModel", "thrown", "()I"⟩, prog_12_method_2_code, 1, some .int, (0, 0), [])
def mq_MO_surface : fx_M := (⟨"FrameSwapperModel", "surface", "(III)I"⟩, prog_12_method_6_code, 6, some .int, (1, 15), [])
def mq_MO_within : fx_M := (⟨"FrameSwapperModel", "within", "(III)Z"⟩, prog_12_method_4_code, 3, some .boolean, (0, 0), [])
def mq_MO_freePixels : fx_M := (⟨"FrameSwapperModel", "freePixels", "()I"⟩, prog_12_method_5_code, 3, some .int, (0, 0), [])
def mq_MO_destroy : fx_M := (⟨"FrameSwapperModel", "destroy", "(I)V"⟩, prog_12_method_7_code, 2, none, (1, 14), [])
def mq_MO_hasDraft : fx_M := (⟨"FrameSwapperModel", "hasDraft", "(I)Z"⟩, prog_12_method_3_code, 2, some .boolean, (0, 0), [])
def mq_MO_place : fx_M := (⟨"FrameSwapperModel", "place", "(IIIIIZ)V"⟩, prog_12_method_8_code, 7, none, (1, 15), [])
def mq_MO_clip : fx_M := (⟨"FrameSwapperModel", "clip", "(IIIII)V"⟩, prog_12_method_11_code, 8, none, (2, 30), [])
def mq_MO_isArea : fx_M := (⟨"FrameSwapperModel", "isArea", "(IIII)Z"⟩, prog_12_method_10_code, 4, some .boolean, (1, 14), [])
def mq_MO_put : fx_M := (⟨"FrameSwapperModel", "put", "(IIII)V"⟩, prog_12_method_13_code, 5, none, (1, 16), [])
def mq_MO_has : fx_M := (⟨"FrameSwapperModel", "has", "(III)Z"⟩, prog_12_method_12_code, 4, some .boolean, (0, 0), [])
def mq_MO_fill : fx_M := (⟨"FrameSwapperModel", "fill", "(IIIIII)I"⟩, prog_12_method_14_code, 10, some .int, (2, 30), [])
def mq_MO_copy : fx_M := (⟨"FrameSwapperModel", "copy", "(IIIIIIII)I"⟩, prog_12_method_16_code, 12, some .int, (2, 31), [])
def mq_MO_isCopy : fx_M := (⟨"FrameSwapperModel", "isCopy", "(IIII)Z"⟩, prog_12_method_15_code, 5, some .boolean, (1, 14), [])
def mq_MO_commit : fx_M := (⟨"FrameSwapperModel", "commit", "(I)I"⟩, prog_12_method_18_code, 3, some .int, (1, 15), [])
def mq_MO_copyPicture : fx_M := (⟨"FrameSwapperModel", "copyPicture", "(II)V"⟩, prog_12_method_17_code, 4, none, (0, 0), [])
def mq_MO_draw : fx_M := (⟨"FrameSwapperModel", "draw", "(I)I"⟩, prog_12_method_37_code, 3, some .int, (5, 75), [])
def mq_MO_begin : fx_M := (⟨"FrameSwapperModel", "begin", "()V"⟩, prog_12_method_32_code, 3, none, (3, 53), [])
def mq_MO_show : fx_M := (⟨"FrameSwapperModel", "show", "(I)V"⟩, prog_12_method_19_code, 2, none, (1, 18), [])
def mq_MO_cut : fx_M := (⟨"FrameSwapperModel", "cut", "(IIII)V"⟩, prog_12_method_9_code, 7, none, (0, 0), [])
def mq_MO_isPlane : fx_M := (⟨"FrameSwapperModel", "isPlane", "(I)Z"⟩, prog_12_method_31_code, 2, some .boolean, (0, 0), [])
def mq_MO_choosePlanes : fx_M := (⟨"FrameSwapperModel", "choosePlanes", "()V"⟩, prog_12_method_30_code, 10, none, (2, 32), [])
def mq_MO_nth : fx_M := (⟨"FrameSwapperModel", "nth", "(II)I"⟩, prog_12_method_21_code, 6, some .int, (1, 15), [])
def mq_MO_isAbove : fx_M := (⟨"FrameSwapperModel", "isAbove", "(II)Z"⟩, prog_12_method_20_code, 3, some .boolean, (0, 0), [])
def mq_MO_miss : fx_M := (⟨"FrameSwapperModel", "miss", "()V"⟩, prog_12_method_29_code, 4, none, (2, 36), [])
def mq_MO_lies : fx_M := (⟨"FrameSwapperModel", "lies", "(II)Z"⟩, prog_12_method_25_code, 4, some .boolean, (0, 0), [])
def mq_MO_join : fx_M := (⟨"FrameSwapperModel", "join", "(I)V"⟩, prog_12_method_28_code, 8, none, (1, 17), [])
def mq_MO_hullWide : fx_M := (⟨"FrameSwapperModel", "hullWide", "(II)I"⟩, prog_12_method_26_code, 5, some .int, (0, 0), [])
def mq_MO_hullHigh : fx_M := (⟨"FrameSwapperModel", "hullHigh", "(II)I"⟩, prog_12_method_27_code, 5, some .int, (0, 0), [])
def mq_MO_findStep : fx_M := (⟨"FrameSwapperModel", "findStep", "()V"⟩, prog_12_method_35_code, 2, none, (3, 47), [])
def mq_MO_meet : fx_M := (⟨"FrameSwapperModel", "meet", "(I)V"⟩, prog_12_method_33_code, 4, none, (2, 32), [])
def mq_MO_make : fx_M := (⟨"FrameSwapperModel", "make", "()V"⟩, prog_12_method_36_code, 4, none, (4, 60), [])
def mq_MO_paint : fx_M := (⟨"FrameSwapperModel", "paint", "(I)V"⟩, prog_12_method_34_code, 5, none, (2, 33), [])
def mq_MO_pixelOf : fx_M := (⟨"FrameSwapperModel", "pixelOf", "(III)I"⟩, prog_12_method_24_code, 4, some .int, (0, 0), [])
def mq_MO_mixed : fx_M := (⟨"FrameSwapperModel", "mixed", "(III)I"⟩, prog_12_method_23_code, 3, some .int, (1, 17), [])
def mq_MO_part : fx_M := (⟨"FrameSwapperModel", "part", "(IIIII)I"⟩, prog_12_method_22_code, 5, some .int, (0, 0), [])
def mq_MO_scan : fx_M := (⟨"FrameSwapperModel", "scan", "()I"⟩, prog_12_method_40_code, 1, some .int, (3, 45), [])
def mq_MO_look : fx_M := (⟨"FrameSwapperModel", "look", "()V"⟩, prog_12_method_38_code, 5, none, (0, 0), [])
def mq_MO_change : fx_M := (⟨"FrameSwapperModel", "change", "()V"⟩, prog_12_method_39_code, 3, none, (2, 31), [])
def mq_MO_state : fx_M := (⟨"FrameSwapperModel", "state", "()I"⟩, prog_12_method_41_code, 1, some .int, (0, 0), [])
def mq_MO_seen : fx_M := (⟨"FrameSwapperModel", "seen", "(II)I"⟩, prog_12_method_43_code, 3, some .int, (1, 13), [])
def mq_MO_isPixel : fx_M := (⟨"FrameSwapperModel", "isPixel", "(II)Z"⟩, prog_12_method_42_code, 2, some .boolean, (0, 0), [])
def mq_MO_wanted : fx_M := (⟨"FrameSwapperModel", "wanted", "(II)I"⟩, prog_12_method_44_code, 6, some .int, (2, 32), [])
def mq_MO_count : fx_M := (⟨"FrameSwapperModel", "count", "(I)I"⟩, prog_12_method_45_code, 2, some .int, (0, 0), [])
def mq_MO_missed : fx_M := (⟨"FrameSwapperModel", "missed", "(II)I"⟩, prog_12_method_46_code, 4, some .int, (0, 0), [])
def mq_MO_plane : fx_M := (⟨"FrameSwapperModel", "plane", "(I)I"⟩, prog_12_method_47_code, 2, some .int, (0, 0), [])
def mq_MO_free : fx_M := (⟨"FrameSwapperModel", "free", "()I"⟩, prog_12_method_48_code, 1, some .int, (1, 14), [])
def mq_AR_fill : fx_M := (⟨"java/util/Arrays", "fill", "([II)V"⟩, prog_21_method_103_code, 4, none, (0, 0), [])
-- words of the methods
theorem kc_FS_init : fx_cw mq_FS_init ∈ fx_tb := fx_m1 25 (by decide +kernel)
theorem ki_FS_init : Cond.instanceMethod (fx_y mq_FS_init) ∈ fx_tb := fx_m1 24 (by decide +kernel)
theorem kc_DE_init : fx_cw mq_DE_init ∈ fx_tb := fx_m1 33 (by decide +kernel)
theorem ki_DE_init : Cond.instanceMethod (fx_y mq_DE_init) ∈ fx_tb := fx_m1 32 (by decide +kernel)
theorem kc_PL_init : fx_cw mq_PL_init ∈ fx_tb := fx_m1 41 (by decide +kernel)
theorem ki_PL_init : Cond.instanceMethod (fx_y mq_PL_init) ∈ fx_tb := fx_m1 40 (by decide +kernel)
theorem kc_PI_init : fx_cw mq_PI_init ∈ fx_tb := fx_m1 47 (by decide +kernel)
theorem ki_PI_init : Cond.instanceMethod (fx_y mq_PI_init) ∈ fx_tb := fx_m1 46 (by decide +kernel)
theorem kc_RE_init : fx_cw mq_RE_init ∈ fx_tb := fx_m1 53 (by decide +kernel)
theorem ki_RE_init : Cond.instanceMethod (fx_y mq_RE_init) ∈ fx_tb := fx_m1 52 (by decide +kernel)
theorem kc_CO_init : fx_cw mq_CO_init ∈ fx_tb := fx_m1 192 (by decide +kernel)
theorem ki_CO_init : Cond.instanceMethod (fx_y mq_CO_init) ∈ fx_tb := fx_m1 191 (by decide +kernel)
theorem kc_PN_init : fx_cw mq_PN_init ∈ fx_tb := fx_m1 200 (by decide +kernel)
theorem ki_PN_init : Cond.instanceMethod (fx_y mq_PN_init) ∈ fx_tb := fx_m1 199 (by decide +kernel)
theorem kc_ME_init : fx_cw mq_ME_init ∈ fx_tb := fx_m1 223 (by decide +kernel)
theorem ki_ME_init : Cond.instanceMethod (fx_y mq_ME_init) ∈ fx_tb := fx_m1 222 (by decide +kernel)
theorem kc_MI_init : fx_cw mq_MI_init ∈ fx_tb := fx_m1 229 (by decide +kernel)
theorem ki_MI_init : Cond.instanceMethod (fx_y mq_MI_init) ∈ fx_tb := fx_m1 228 (by decide +kernel)
theorem kc_BE_init : fx_cw mq_BE_init ∈ fx_tb := fx_m1 299 (by decide +kernel)
theorem ki_BE_init : Cond.instanceMethod (fx_y mq_BE_init) ∈ fx_tb := fx_m1 298 (by decide +kernel)
theorem kc_FS_scan : fx_cw mq_FS_scan ∈ fx_tb := fx_m1 350 (by decide +kernel)
theorem ki_FS_scan : Cond.instanceMethod (fx_y mq_FS_scan) ∈ fx_tb := fx_m1 348 (by decide +kernel)
theorem ke_FS_scan : Cond.selects (fx_y mq_FS_scan).cls (fx_y mq_FS_scan) (fx_y mq_FS_scan) ∈ fx_tb := fx_m1 349 (by decide +kernel)
theorem kc_BE_scanRow : fx_cw mq_BE_scanRow ∈ fx_tb := fx_m1 354 (by decide +kernel)
theorem ki_BE_scanRow : Cond.instanceMethod (fx_y mq_BE_scanRow) ∈ fx_tb := fx_m1 352 (by decide +kernel)
theorem ke_BE_scanRow : Cond.selects (fx_y mq_BE_scanRow).cls (fx_y mq_BE_scanRow) (fx_y mq_BE_scanRow) ∈ fx_tb := fx_m1 353 (by decide +kernel)
theorem kc_PN_mixInto : fx_cw mq_PN_mixInto ∈ fx_tb := fx_m1 361 (by decide +kernel)
theorem ki_PN_mixInto : Cond.instanceMethod (fx_y mq_PN_mixInto) ∈ fx_tb := fx_m1 359 (by decide +kernel)
theorem ke_PN_mixInto : Cond.selects (fx_y mq_PN_mixInto).cls (fx_y mq_PN_mixInto) (fx_y mq_PN_mixInto) ∈ fx_tb := fx_m1 360 (by decide +kernel)
theorem kc_BE_endFrame : fx_cw mq_BE_endFrame ∈ fx_tb := fx_m1 366 (by decide +kernel)
theorem ki_BE_endFrame : Cond.instanceMethod (fx_y mq_BE_endFrame) ∈ fx_tb := fx_m1 364 (by decide +kernel)
theorem ke_BE_endFrame : Cond.selects (fx_y mq_BE_endFrame).cls (fx_y mq_BE_endFrame) (fx_y mq_BE_endFrame) ∈ fx_tb := fx_m1 365 (by decide +kernel)
theorem kc_CO_swap : fx_cw mq_CO_swap ∈ fx_tb := fx_m1 370 (by decide +kernel)
theorem ki_CO_swap : Cond.instanceMethod (fx_y mq_CO_swap) ∈ fx_tb := fx_m1 368 (by decide +kernel)
theorem ke_CO_swap : Cond.selects (fx_y mq_CO_swap).cls (fx_y mq_CO_swap) (fx_y mq_CO_swap) ∈ fx_tb := fx_m1 369 (by decide +kernel)
theorem kc_PN_become : fx_cw mq_PN_become ∈ fx_tb := fx_m1 374 (by decide +kernel)
theorem ki_PN_become : Cond.instanceMethod (fx_y mq_PN_become) ∈ fx_tb := fx_m1 372 (by decide +kernel)
theorem ke_PN_become : Cond.selects (fx_y mq_PN_become).cls (fx_y mq_PN_become) (fx_y mq_PN_become) ∈ fx_tb := fx_m1 373 (by decide +kernel)
theorem kc_RE_become : fx_cw mq_RE_become ∈ fx_tb := fx_m1 378 (by decide +kernel)
theorem ki_RE_become : Cond.instanceMethod (fx_y mq_RE_become) ∈ fx_tb := fx_m1 376 (by decide +kernel)
theorem ke_RE_become : Cond.selects (fx_y mq_RE_become).cls (fx_y mq_RE_become) (fx_y mq_RE_become) ∈ fx_tb := fx_m1 377 (by decide +kernel)
theorem kc_RE_set : fx_cw mq_RE_set ∈ fx_tb := fx_m1 382 (by decide +kernel)
theorem ki_RE_set : Cond.instanceMethod (fx_y mq_RE_set) ∈ fx_tb := fx_m1 380 (by decide +kernel)
theorem ke_RE_set : Cond.selects (fx_y mq_RE_set).cls (fx_y mq_RE_set) (fx_y mq_RE_set) ∈ fx_tb := fx_m1 381 (by decide +kernel)
theorem kc_FS_state : fx_cw mq_FS_state ∈ fx_tb := fx_m1 386 (by decide +kernel)
theorem ki_FS_state : Cond.instanceMethod (fx_y mq_FS_state) ∈ fx_tb := fx_m1 384 (by decide +kernel)
theorem ke_FS_state : Cond.selects (fx_y mq_FS_state).cls (fx_y mq_FS_state) (fx_y mq_FS_state) ∈ fx_tb := fx_m1 385 (by decide +kernel)
theorem kc_FS_seen : fx_cw mq_FS_seen ∈ fx_tb := fx_m1 390 (by decide +kernel)
theorem ki_FS_seen : Cond.instanceMethod (fx_y mq_FS_seen) ∈ fx_tb := fx_m1 388 (by decide +kernel)
theorem ke_FS_seen : Cond.selects (fx_y mq_FS_seen).cls (fx_y mq_FS_seen) (fx_y mq_FS_seen) ∈ fx_tb := fx_m1 389 (by decide +kernel)
theorem kc_FS_isOnScreen : fx_cw mq_FS_isOnScreen ∈ fx_tb := fx_m1 393 (by decide +kernel)
theorem ks_FS_isOnScreen : Cond.static (fx_y mq_FS_isOnScreen) ∈ fx_tb := fx_m1 392 (by decide +kernel)
theorem kc_FS_isWithin : fx_cw mq_FS_isWithin ∈ fx_tb := fx_m1 396 (by decide +kernel)
theorem ks_FS_isWithin : Cond.static (fx_y mq_FS_isWithin) ∈ fx_tb := fx_m1 395 (by decide +kernel)
theorem kc_FS_wanted : fx_cw mq_FS_wanted ∈ fx_tb := fx_m1 400 (by decide +kernel)
theorem ki_FS_wanted : Cond.instanceMethod (fx_y mq_FS_wanted) ∈ fx_tb := fx_m1 398 (by decide +kernel)
theorem ke_FS_wanted : Cond.selects (fx_y mq_FS_wanted).cls (fx_y mq_FS_wanted) (fx_y mq_FS_wanted) ∈ fx_tb := fx_m1 399 (by decide +kernel)
theorem kc_PL_colorAt : fx_cw mq_PL_colorAt ∈ fx_tb := fx_m1 404 (by decide +kernel)
theorem ki_PL_colorAt : Cond.instanceMethod (fx_y mq_PL_colorAt) ∈ fx_tb := fx_m1 402 (by decide +kernel)
theorem ke_PL_colorAt : Cond.selects (fx_y mq_PL_colorAt).cls (fx_y mq_PL_colorAt) (fx_y mq_PL_colorAt) ∈ fx_tb := fx_m1 403 (by decide +kernel)
theorem kc_RE_has : fx_cw mq_RE_has ∈ fx_tb := fx_m1 408 (by decide +kernel)
theorem ki_RE_has : Cond.instanceMethod (fx_y mq_RE_has) ∈ fx_tb := fx_m1 406 (by decide +kernel)
theorem ke_RE_has : Cond.selects (fx_y mq_RE_has).cls (fx_y mq_RE_has) (fx_y mq_RE_has) ∈ fx_tb := fx_m1 407 (by decide +kernel)
theorem kc_PI_colorAt : fx_cw mq_PI_colorAt ∈ fx_tb := fx_m1 412 (by decide +kernel)
theorem ki_PI_colorAt : Cond.instanceMethod (fx_y mq_PI_colorAt) ∈ fx_tb := fx_m1 410 (by decide +kernel)
theorem ke_PI_colorAt : Cond.selects (fx_y mq_PI_colorAt).cls (fx_y mq_PI_colorAt) (fx_y mq_PI_colorAt) ∈ fx_tb := fx_m1 411 (by decide +kernel)
theorem kc_FS_mix : fx_cw mq_FS_mix ∈ fx_tb := fx_m1 415 (by decide +kernel)
theorem ks_FS_mix : Cond.static (fx_y mq_FS_mix) ∈ fx_tb := fx_m1 414 (by decide +kernel)
theorem kc_FS_mixPart : fx_cw mq_FS_mixPart ∈ fx_tb := fx_m1 418 (by decide +kernel)
theorem ks_FS_mixPart : Cond.static (fx_y mq_FS_mixPart) ∈ fx_tb := fx_m1 417 (by decide +kernel)
theorem kc_FS_count : fx_cw mq_FS_count ∈ fx_tb := fx_m1 422 (by decide +kernel)
theorem ki_FS_count : Cond.instanceMethod (fx_y mq_FS_count) ∈ fx_tb := fx_m1 420 (by decide +kernel)
theorem ke_FS_count : Cond.selects (fx_y mq_FS_count).cls (fx_y mq_FS_count) (fx_y mq_FS_count) ∈ fx_tb := fx_m1 421 (by decide +kernel)
theorem kc_FS_missed : fx_cw mq_FS_missed ∈ fx_tb := fx_m1 426 (by decide +kernel)
theorem ki_FS_missed : Cond.instanceMethod (fx_y mq_FS_missed) ∈ fx_tb := fx_m1 424 (by decide +kernel)
theorem ke_FS_missed : Cond.selects (fx_y mq_FS_missed).cls (fx_y mq_FS_missed) (fx_y mq_FS_missed) ∈ fx_tb := fx_m1 425 (by decide +kernel)
theorem kc_FS_plane : fx_cw mq_FS_plane ∈ fx_tb := fx_m1 430 (by decide +kernel)
theorem ki_FS_plane : Cond.instanceMethod (fx_y mq_FS_plane) ∈ fx_tb := fx_m1 428 (by decide +kernel)
theorem ke_FS_plane : Cond.selects (fx_y mq_FS_plane).cls (fx_y mq_FS_plane) (fx_y mq_FS_plane) ∈ fx_tb := fx_m1 429 (by decide +kernel)
theorem kc_FS_free : fx_cw mq_FS_free ∈ fx_tb := fx_m1 434 (by decide +kernel)
theorem ki_FS_free : Cond.instanceMethod (fx_y mq_FS_free) ∈ fx_tb := fx_m1 432 (by decide +kernel)
theorem ke_FS_free : Cond.selects (fx_y mq_FS_free).cls (fx_y mq_FS_free) (fx_y mq_FS_free) ∈ fx_tb := fx_m1 433 (by decide +kernel)
theorem kc_LA_surface : fx_cw mq_LA_surface ∈ fx_tb := fx_m1 437 (by decide +kernel)
theorem ks_LA_surface : Cond.static (fx_y mq_LA_surface) ∈ fx_tb := fx_m1 436 (by decide +kernel)
theorem kc_FS_surface : fx_cw mq_FS_surface ∈ fx_tb := fx_m1 443 (by decide +kernel)
theorem ki_FS_surface : Cond.instanceMethod (fx_y mq_FS_surface) ∈ fx_tb := fx_m1 441 (by decide +kernel)
theorem ke_FS_surface : Cond.selects (fx_y mq_FS_surface).cls (fx_y mq_FS_surface) (fx_y mq_FS_surface) ∈ fx_tb := fx_m1 442 (by decide +kernel)
theorem kc_FS_isClient : fx_cw mq_FS_isClient ∈ fx_tb := fx_m1 446 (by decide +kernel)
theorem ks_FS_isClient : Cond.static (fx_y mq_FS_isClient) ∈ fx_tb := fx_m1 445 (by decide +kernel)
theorem kc_FS_demand : fx_cw mq_FS_demand ∈ fx_tb := fx_m1 449 (by decide +kernel)
theorem ks_FS_demand : Cond.static (fx_y mq_FS_demand) ∈ fx_tb := fx_m1 448 (by decide +kernel)
theorem kc_DE_lowestFreeNumber : fx_cw mq_DE_lowestFreeNumber ∈ fx_tb := fx_m1 516 (by decide +kernel)
theorem ki_DE_lowestFreeNumber : Cond.instanceMethod (fx_y mq_DE_lowestFreeNumber) ∈ fx_tb := fx_m1 514 (by decide +kernel)
theorem ke_DE_lowestFreeNumber : Cond.selects (fx_y mq_DE_lowestFreeNumber).cls (fx_y mq_DE_lowestFreeNumber) (fx_y mq_DE_lowestFreeNumber) ∈ fx_tb := fx_m1 515 (by decide +kernel)
theorem kc_DE_open : fx_cw mq_DE_open ∈ fx_tb := fx_m1 535 (by decide +kernel)
theorem ki_DE_open : Cond.instanceMethod (fx_y mq_DE_open) ∈ fx_tb := fx_m1 533 (by decide +kernel)
theorem ke_DE_open : Cond.selects (fx_y mq_DE_open).cls (fx_y mq_DE_open) (fx_y mq_DE_open) ∈ fx_tb := fx_m1 534 (by decide +kernel)
theorem kc_PI_start : fx_cw mq_PI_start ∈ fx_tb := fx_m1 539 (by decide +kernel)
theorem ki_PI_start : Cond.instanceMethod (fx_y mq_PI_start) ∈ fx_tb := fx_m1 537 (by decide +kernel)
theorem ke_PI_start : Cond.selects (fx_y mq_PI_start).cls (fx_y mq_PI_start) (fx_y mq_PI_start) ∈ fx_tb := fx_m1 538 (by decide +kernel)
theorem kc_PI_findShown : fx_cw mq_PI_findShown ∈ fx_tb := fx_m1 547 (by decide +kernel)
theorem ki_PI_findShown : Cond.instanceMethod (fx_y mq_PI_findShown) ∈ fx_tb := fx_m1 545 (by decide +kernel)
theorem ke_PI_findShown : Cond.selects (fx_y mq_PI_findShown).cls (fx_y mq_PI_findShown) (fx_y mq_PI_findShown) ∈ fx_tb := fx_m1 546 (by decide +kernel)
theorem kc_RE_shift : fx_cw mq_RE_shift ∈ fx_tb := fx_m1 552 (by decide +kernel)
theorem ki_RE_shift : Cond.instanceMethod (fx_y mq_RE_shift) ∈ fx_tb := fx_m1 550 (by decide +kernel)
theorem ke_RE_shift : Cond.selects (fx_y mq_RE_shift).cls (fx_y mq_RE_shift) (fx_y mq_RE_shift) ∈ fx_tb := fx_m1 551 (by decide +kernel)
theorem kc_RE_cut : fx_cw mq_RE_cut ∈ fx_tb := fx_m1 556 (by decide +kernel)
theorem ki_RE_cut : Cond.instanceMethod (fx_y mq_RE_cut) ∈ fx_tb := fx_m1 554 (by decide +kernel)
theorem ke_RE_cut : Cond.selects (fx_y mq_RE_cut).cls (fx_y mq_RE_cut) (fx_y mq_RE_cut) ∈ fx_tb := fx_m1 555 (by decide +kernel)
theorem kc_LA_destroy : fx_cw mq_LA_destroy ∈ fx_tb := fx_m1 565 (by decide +kernel)
theorem ks_LA_destroy : Cond.static (fx_y mq_LA_destroy) ∈ fx_tb := fx_m1 564 (by decide +kernel)
theorem kc_FS_destroy : fx_cw mq_FS_destroy ∈ fx_tb := fx_m1 569 (by decide +kernel)
theorem ki_FS_destroy : Cond.instanceMethod (fx_y mq_FS_destroy) ∈ fx_tb := fx_m1 567 (by decide +kernel)
theorem ke_FS_destroy : Cond.selects (fx_y mq_FS_destroy).cls (fx_y mq_FS_destroy) (fx_y mq_FS_destroy) ∈ fx_tb := fx_m1 568 (by decide +kernel)
theorem kc_DE_hasDraft : fx_cw mq_DE_hasDraft ∈ fx_tb := fx_m1 573 (by decide +kernel)
theorem ki_DE_hasDraft : Cond.instanceMethod (fx_y mq_DE_hasDraft) ∈ fx_tb := fx_m1 571 (by decide +kernel)
theorem ke_DE_hasDraft : Cond.selects (fx_y mq_DE_hasDraft).cls (fx_y mq_DE_hasDraft) (fx_y mq_DE_hasDraft) ∈ fx_tb := fx_m1 572 (by decide +kernel)
theorem kc_PI_remove : fx_cw mq_PI_remove ∈ fx_tb := fx_m1 577 (by decide +kernel)
theorem ki_PI_remove : Cond.instanceMethod (fx_y mq_PI_remove) ∈ fx_tb := fx_m1 575 (by decide +kernel)
theorem ke_PI_remove : Cond.selects (fx_y mq_PI_remove).cls (fx_y mq_PI_remove) (fx_y mq_PI_remove) ∈ fx_tb := fx_m1 576 (by decide +kernel)
theorem kc_LA_place : fx_cw mq_LA_place ∈ fx_tb := fx_m1 580 (by decide +kernel)
theorem ks_LA_place : Cond.static (fx_y mq_LA_place) ∈ fx_tb := fx_m1 579 (by decide +kernel)
theorem kc_FS_place : fx_cw mq_FS_place ∈ fx_tb := fx_m1 584 (by decide +kernel)
theorem ki_FS_place : Cond.instanceMethod (fx_y mq_FS_place) ∈ fx_tb := fx_m1 582 (by decide +kernel)
theorem ke_FS_place : Cond.selects (fx_y mq_FS_place).cls (fx_y mq_FS_place) (fx_y mq_FS_place) ∈ fx_tb := fx_m1 583 (by decide +kernel)
theorem kc_FS_isPlace : fx_cw mq_FS_isPlace ∈ fx_tb := fx_m1 587 (by decide +kernel)
theorem ks_FS_isPlace : Cond.static (fx_y mq_FS_isPlace) ∈ fx_tb := fx_m1 586 (by decide +kernel)
theorem kc_LA_clip : fx_cw mq_LA_clip ∈ fx_tb := fx_m1 591 (by decide +kernel)
theorem ks_LA_clip : Cond.static (fx_y mq_LA_clip) ∈ fx_tb := fx_m1 590 (by decide +kernel)
theorem kc_FS_clip : fx_cw mq_FS_clip ∈ fx_tb := fx_m1 595 (by decide +kernel)
theorem ki_FS_clip : Cond.instanceMethod (fx_y mq_FS_clip) ∈ fx_tb := fx_m1 593 (by decide +kernel)
theorem ke_FS_clip : Cond.selects (fx_y mq_FS_clip).cls (fx_y mq_FS_clip) (fx_y mq_FS_clip) ∈ fx_tb := fx_m1 594 (by decide +kernel)
theorem kc_FS_isArea : fx_cw mq_FS_isArea ∈ fx_tb := fx_m1 598 (by decide +kernel)
theorem ks_FS_isArea : Cond.static (fx_y mq_FS_isArea) ∈ fx_tb := fx_m1 597 (by decide +kernel)
theorem kc_LA_put : fx_cw mq_LA_put ∈ fx_tb := fx_m1 603 (by decide +kernel)
theorem ks_LA_put : Cond.static (fx_y mq_LA_put) ∈ fx_tb := fx_m1 602 (by decide +kernel)
theorem kc_FS_put : fx_cw mq_FS_put ∈ fx_tb := fx_m1 608 (by decide +kernel)
theorem ki_FS_put : Cond.instanceMethod (fx_y mq_FS_put) ∈ fx_tb := fx_m1 606 (by decide +kernel)
theorem ke_FS_put : Cond.selects (fx_y mq_FS_put).cls (fx_y mq_FS_put) (fx_y mq_FS_put) ∈ fx_tb := fx_m1 607 (by decide +kernel)
theorem kc_FS_isColor : fx_cw mq_FS_isColor ∈ fx_tb := fx_m1 611 (by decide +kernel)
theorem ks_FS_isColor : Cond.static (fx_y mq_FS_isColor) ∈ fx_tb := fx_m1 610 (by decide +kernel)
theorem kc_LA_fill : fx_cw mq_LA_fill ∈ fx_tb := fx_m1 630 (by decide +kernel)
theorem ks_LA_fill : Cond.static (fx_y mq_LA_fill) ∈ fx_tb := fx_m1 629 (by decide +kernel)
theorem kc_FS_fill : fx_cw mq_FS_fill ∈ fx_tb := fx_m1 634 (by decide +kernel)
theorem ki_FS_fill : Cond.instanceMethod (fx_y mq_FS_fill) ∈ fx_tb := fx_m1 632 (by decide +kernel)
theorem ke_FS_fill : Cond.selects (fx_y mq_FS_fill).cls (fx_y mq_FS_fill) (fx_y mq_FS_fill) ∈ fx_tb := fx_m1 633 (by decide +kernel)
theorem kc_PI_paintOver : fx_cw mq_PI_paintOver ∈ fx_tb := fx_m1 638 (by decide +kernel)
theorem ki_PI_paintOver : Cond.instanceMethod (fx_y mq_PI_paintOver) ∈ fx_tb := fx_m1 636 (by decide +kernel)
theorem ke_PI_paintOver : Cond.selects (fx_y mq_PI_paintOver).cls (fx_y mq_PI_paintOver) (fx_y mq_PI_paintOver) ∈ fx_tb := fx_m1 637 (by decide +kernel)
theorem kc_RE_pixels : fx_cw mq_RE_pixels ∈ fx_tb := fx_m1 642 (by decide +kernel)
theorem ki_RE_pixels : Cond.instanceMethod (fx_y mq_RE_pixels) ∈ fx_tb := fx_m1 640 (by decide +kernel)
theorem ke_RE_pixels : Cond.selects (fx_y mq_RE_pixels).cls (fx_y mq_RE_pixels) (fx_y mq_RE_pixels) ∈ fx_tb := fx_m1 641 (by decide +kernel)
theorem kc_LA_copy : fx_cw mq_LA_copy ∈ fx_tb := fx_m1 645 (by decide +kernel)
theorem ks_LA_copy : Cond.static (fx_y mq_LA_copy) ∈ fx_tb := fx_m1 644 (by decide +kernel)
theorem kc_FS_copy : fx_cw mq_FS_copy ∈ fx_tb := fx_m1 649 (by decide +kernel)
theorem ki_FS_copy : Cond.instanceMethod (fx_y mq_FS_copy) ∈ fx_tb := fx_m1 647 (by decide +kernel)
theorem ke_FS_copy : Cond.selects (fx_y mq_FS_copy).cls (fx_y mq_FS_copy) (fx_y mq_FS_copy) ∈ fx_tb := fx_m1 648 (by decide +kernel)
theorem kc_PI_become : fx_cw mq_PI_become ∈ fx_tb := fx_m1 654 (by decide +kernel)
theorem ki_PI_become : Cond.instanceMethod (fx_y mq_PI_become) ∈ fx_tb := fx_m1 652 (by decide +kernel)
theorem ke_PI_become : Cond.selects (fx_y mq_PI_become).cls (fx_y mq_PI_become) (fx_y mq_PI_become) ∈ fx_tb := fx_m1 653 (by decide +kernel)
theorem kc_PI_layDown : fx_cw mq_PI_layDown ∈ fx_tb := fx_m1 659 (by decide +kernel)
theorem ki_PI_layDown : Cond.instanceMethod (fx_y mq_PI_layDown) ∈ fx_tb := fx_m1 657 (by decide +kernel)
theorem ke_PI_layDown : Cond.selects (fx_y mq_PI_layDown).cls (fx_y mq_PI_layDown) (fx_y mq_PI_layDown) ∈ fx_tb := fx_m1 658 (by decide +kernel)
theorem kc_LA_commit : fx_cw mq_LA_commit ∈ fx_tb := fx_m1 663 (by decide +kernel)
theorem ks_LA_commit : Cond.static (fx_y mq_LA_commit) ∈ fx_tb := fx_m1 662 (by decide +kernel)
theorem kc_FS_commit : fx_cw mq_FS_commit ∈ fx_tb := fx_m1 667 (by decide +kernel)
theorem ki_FS_commit : Cond.instanceMethod (fx_y mq_FS_commit) ∈ fx_tb := fx_m1 665 (by decide +kernel)
theorem ke_FS_commit : Cond.selects (fx_y mq_FS_commit).cls (fx_y mq_FS_commit) (fx_y mq_FS_commit) ∈ fx_tb := fx_m1 666 (by decide +kernel)
theorem kc_DE_commitAll : fx_cw mq_DE_commitAll ∈ fx_tb := fx_m1 671 (by decide +kernel)
theorem ki_DE_commitAll : Cond.instanceMethod (fx_y mq_DE_commitAll) ∈ fx_tb := fx_m1 669 (by decide +kernel)
theorem ke_DE_commitAll : Cond.selects (fx_y mq_DE_commitAll).cls (fx_y mq_DE_commitAll) (fx_y mq_DE_commitAll) ∈ fx_tb := fx_m1 670 (by decide +kernel)
theorem kc_PL_sort : fx_cw mq_PL_sort ∈ fx_tb := fx_m1 676 (by decide +kernel)
theorem ki_PL_sort : Cond.instanceMethod (fx_y mq_PL_sort) ∈ fx_tb := fx_m1 674 (by decide +kernel)
theorem ke_PL_sort : Cond.selects (fx_y mq_PL_sort).cls (fx_y mq_PL_sort) (fx_y mq_PL_sort) ∈ fx_tb := fx_m1 675 (by decide +kernel)
theorem kc_LA_draw : fx_cw mq_LA_draw ∈ fx_tb := fx_m1 679 (by decide +kernel)
theorem ks_LA_draw : Cond.static (fx_y mq_LA_draw) ∈ fx_tb := fx_m1 678 (by decide +kernel)
theorem kc_FS_draw : fx_cw mq_FS_draw ∈ fx_tb := fx_m1 683 (by decide +kernel)
theorem ki_FS_draw : Cond.instanceMethod (fx_y mq_FS_draw) ∈ fx_tb := fx_m1 681 (by decide +kernel)
theorem ke_FS_draw : Cond.selects (fx_y mq_FS_draw).cls (fx_y mq_FS_draw) (fx_y mq_FS_draw) ∈ fx_tb := fx_m1 682 (by decide +kernel)
theorem kc_CO_begin : fx_cw mq_CO_begin ∈ fx_tb := fx_m1 687 (by decide +kernel)
theorem ki_CO_begin : Cond.instanceMethod (fx_y mq_CO_begin) ∈ fx_tb := fx_m1 685 (by decide +kernel)
theorem ke_CO_begin : Cond.selects (fx_y mq_CO_begin).cls (fx_y mq_CO_begin) (fx_y mq_CO_begin) ∈ fx_tb := fx_m1 686 (by decide +kernel)
theorem kc_CO_rememberBefore : fx_cw mq_CO_rememberBefore ∈ fx_tb := fx_m1 691 (by decide +kernel)
theorem ki_CO_rememberBefore : Cond.instanceMethod (fx_y mq_CO_rememberBefore) ∈ fx_tb := fx_m1 690 (by decide +kernel)
theorem ke_CO_rememberBefore : Cond.selects (fx_y mq_CO_rememberBefore).cls (fx_y mq_CO_rememberBefore) (fx_y mq_CO_rememberBefore) ∈ fx_tb := fx_m0 1 (by decide +kernel)
theorem kc_PN_has : fx_cw mq_PN_has ∈ fx_tb := fx_m1 695 (by decide +kernel)
theorem ki_PN_has : Cond.instanceMethod (fx_y mq_PN_has) ∈ fx_tb := fx_m1 693 (by decide +kernel)
theorem ke_PN_has : Cond.selects (fx_y mq_PN_has).cls (fx_y mq_PN_has) (fx_y mq_PN_has) ∈ fx_tb := fx_m1 694 (by decide +kernel)
theorem kc_PL_become : fx_cw mq_PL_become ∈ fx_tb := fx_m1 700 (by decide +kernel)
theorem ki_PL_become : Cond.instanceMethod (fx_y mq_PL_become) ∈ fx_tb := fx_m1 698 (by decide +kernel)
theorem ke_PL_become : Cond.selects (fx_y mq_PL_become).cls (fx_y mq_PL_become) (fx_y mq_PL_become) ∈ fx_tb := fx_m1 699 (by decide +kernel)
theorem kc_PN_choose : fx_cw mq_PN_choose ∈ fx_tb := fx_m1 706 (by decide +kernel)
theorem ki_PN_choose : Cond.instanceMethod (fx_y mq_PN_choose) ∈ fx_tb := fx_m1 704 (by decide +kernel)
theorem ke_PN_choose : Cond.selects (fx_y mq_PN_choose).cls (fx_y mq_PN_choose) (fx_y mq_PN_choose) ∈ fx_tb := fx_m1 705 (by decide +kernel)
theorem kc_PN_isFit : fx_cw mq_PN_isFit ∈ fx_tb := fx_m1 711 (by decide +kernel)
theorem ki_PN_isFit : Cond.instanceMethod (fx_y mq_PN_isFit) ∈ fx_tb := fx_m1 710 (by decide +kernel)
theorem ke_PN_isFit : Cond.selects (fx_y mq_PN_isFit).cls (fx_y mq_PN_isFit) (fx_y mq_PN_isFit) ∈ fx_tb := fx_m0 2 (by decide +kernel)
theorem kc_RE_isEmpty : fx_cw mq_RE_isEmpty ∈ fx_tb := fx_m1 715 (by decide +kernel)
theorem ki_RE_isEmpty : Cond.instanceMethod (fx_y mq_RE_isEmpty) ∈ fx_tb := fx_m1 713 (by decide +kernel)
theorem ke_RE_isEmpty : Cond.selects (fx_y mq_RE_isEmpty).cls (fx_y mq_RE_isEmpty) (fx_y mq_RE_isEmpty) ∈ fx_tb := fx_m1 714 (by decide +kernel)
theorem kc_RE_meets : fx_cw mq_RE_meets ∈ fx_tb := fx_m1 720 (by decide +kernel)
theorem ki_RE_meets : Cond.instanceMethod (fx_y mq_RE_meets) ∈ fx_tb := fx_m1 718 (by decide +kernel)
theorem ke_RE_meets : Cond.selects (fx_y mq_RE_meets).cls (fx_y mq_RE_meets) (fx_y mq_RE_meets) ∈ fx_tb := fx_m1 719 (by decide +kernel)
theorem kc_PN_give : fx_cw mq_PN_give ∈ fx_tb := fx_m1 724 (by decide +kernel)
theorem ki_PN_give : Cond.instanceMethod (fx_y mq_PN_give) ∈ fx_tb := fx_m1 723 (by decide +kernel)
theorem ke_PN_give : Cond.selects (fx_y mq_PN_give).cls (fx_y mq_PN_give) (fx_y mq_PN_give) ∈ fx_tb := fx_m0 3 (by decide +kernel)
theorem kc_CO_noteChanges : fx_cw mq_CO_noteChanges ∈ fx_tb := fx_m1 729 (by decide +kernel)
theorem ki_CO_noteChanges : Cond.instanceMethod (fx_y mq_CO_noteChanges) ∈ fx_tb := fx_m1 728 (by decide +kernel)
theorem ke_CO_noteChanges : Cond.selects (fx_y mq_CO_noteChanges).cls (fx_y mq_CO_noteChanges) (fx_y mq_CO_noteChanges) ∈ fx_tb := fx_m0 4 (by decide +kernel)
theorem kc_DE_isWaiting : fx_cw mq_DE_isWaiting ∈ fx_tb := fx_m1 733 (by decide +kernel)
theorem ki_DE_isWaiting : Cond.instanceMethod (fx_y mq_DE_isWaiting) ∈ fx_tb := fx_m1 731 (by decide +kernel)
theorem ke_DE_isWaiting : Cond.selects (fx_y mq_DE_isWaiting).cls (fx_y mq_DE_isWaiting) (fx_y mq_DE_isWaiting) ∈ fx_tb := fx_m1 732 (by decide +kernel)
theorem kc_MI_add : fx_cw mq_MI_add ∈ fx_tb := fx_m1 737 (by decide +kernel)
theorem ki_MI_add : Cond.instanceMethod (fx_y mq_MI_add) ∈ fx_tb := fx_m1 735 (by decide +kernel)
theorem ke_MI_add : Cond.selects (fx_y mq_MI_add).cls (fx_y mq_MI_add) (fx_y mq_MI_add) ∈ fx_tb := fx_m1 736 (by decide +kernel)
theorem kc_MI_isCovered : fx_cw mq_MI_isCovered ∈ fx_tb := fx_m1 742 (by decide +kernel)
theorem ki_MI_isCovered : Cond.instanceMethod (fx_y mq_MI_isCovered) ∈ fx_tb := fx_m1 741 (by decide +kernel)
theorem ke_MI_isCovered : Cond.selects (fx_y mq_MI_isCovered).cls (fx_y mq_MI_isCovered) (fx_y mq_MI_isCovered) ∈ fx_tb := fx_m0 5 (by decide +kernel)
theorem kc_RE_contains : fx_cw mq_RE_contains ∈ fx_tb := fx_m1 746 (by decide +kernel)
theorem ki_RE_contains : Cond.instanceMethod (fx_y mq_RE_contains) ∈ fx_tb := fx_m1 744 (by decide +kernel)
theorem ke_RE_contains : Cond.selects (fx_y mq_RE_contains).cls (fx_y mq_RE_contains) (fx_y mq_RE_contains) ∈ fx_tb := fx_m1 745 (by decide +kernel)
theorem kc_MI_joinNearest : fx_cw mq_MI_joinNearest ∈ fx_tb := fx_m1 751 (by decide +kernel)
theorem ki_MI_joinNearest : Cond.instanceMethod (fx_y mq_MI_joinNearest) ∈ fx_tb := fx_m1 750 (by decide +kernel)
theorem ke_MI_joinNearest : Cond.selects (fx_y mq_MI_joinNearest).cls (fx_y mq_MI_joinNearest) (fx_y mq_MI_joinNearest) ∈ fx_tb := fx_m0 6 (by decide +kernel)
theorem kc_RE_wasteWith : fx_cw mq_RE_wasteWith ∈ fx_tb := fx_m1 755 (by decide +kernel)
theorem ki_RE_wasteWith : Cond.instanceMethod (fx_y mq_RE_wasteWith) ∈ fx_tb := fx_m1 753 (by decide +kernel)
theorem ke_RE_wasteWith : Cond.selects (fx_y mq_RE_wasteWith).cls (fx_y mq_RE_wasteWith) (fx_y mq_RE_wasteWith) ∈ fx_tb := fx_m1 754 (by decide +kernel)
theorem kc_RE_growOver : fx_cw mq_RE_growOver ∈ fx_tb := fx_m1 759 (by decide +kernel)
theorem ki_RE_growOver : Cond.instanceMethod (fx_y mq_RE_growOver) ∈ fx_tb := fx_m1 757 (by decide +kernel)
theorem ke_RE_growOver : Cond.selects (fx_y mq_RE_growOver).cls (fx_y mq_RE_growOver) (fx_y mq_RE_growOver) ∈ fx_tb := fx_m1 758 (by decide +kernel)
theorem kc_MI_dropAt : fx_cw mq_MI_dropAt ∈ fx_tb := fx_m1 763 (by decide +kernel)
theorem ki_MI_dropAt : Cond.instanceMethod (fx_y mq_MI_dropAt) ∈ fx_tb := fx_m1 762 (by decide +kernel)
theorem ke_MI_dropAt : Cond.selects (fx_y mq_MI_dropAt).cls (fx_y mq_MI_dropAt) (fx_y mq_MI_dropAt) ∈ fx_tb := fx_m0 7 (by decide +kernel)
theorem kc_DE_allTaken : fx_cw mq_DE_allTaken ∈ fx_tb := fx_m1 767 (by decide +kernel)
theorem ki_DE_allTaken : Cond.instanceMethod (fx_y mq_DE_allTaken) ∈ fx_tb := fx_m1 765 (by decide +kernel)
theorem ke_DE_allTaken : Cond.selects (fx_y mq_DE_allTaken).cls (fx_y mq_DE_allTaken) (fx_y mq_DE_allTaken) ∈ fx_tb := fx_m1 766 (by decide +kernel)
theorem kc_CO_startHole : fx_cw mq_CO_startHole ∈ fx_tb := fx_m1 771 (by decide +kernel)
theorem ki_CO_startHole : Cond.instanceMethod (fx_y mq_CO_startHole) ∈ fx_tb := fx_m1 770 (by decide +kernel)
theorem ke_CO_startHole : Cond.selects (fx_y mq_CO_startHole).cls (fx_y mq_CO_startHole) (fx_y mq_CO_startHole) ∈ fx_tb := fx_m0 8 (by decide +kernel)
theorem kc_CO_makeSteps : fx_cw mq_CO_makeSteps ∈ fx_tb := fx_m1 775 (by decide +kernel)
theorem ki_CO_makeSteps : Cond.instanceMethod (fx_y mq_CO_makeSteps) ∈ fx_tb := fx_m1 773 (by decide +kernel)
theorem ke_CO_makeSteps : Cond.selects (fx_y mq_CO_makeSteps).cls (fx_y mq_CO_makeSteps) (fx_y mq_CO_makeSteps) ∈ fx_tb := fx_m1 774 (by decide +kernel)
theorem kc_CO_makeStep : fx_cw mq_CO_makeStep ∈ fx_tb := fx_m1 779 (by decide +kernel)
theorem ki_CO_makeStep : Cond.instanceMethod (fx_y mq_CO_makeStep) ∈ fx_tb := fx_m1 778 (by decide +kernel)
theorem ke_CO_makeStep : Cond.selects (fx_y mq_CO_makeStep).cls (fx_y mq_CO_makeStep) (fx_y mq_CO_makeStep) ∈ fx_tb := fx_m0 9 (by decide +kernel)
theorem kc_ME_blacken : fx_cw mq_ME_blacken ∈ fx_tb := fx_m1 783 (by decide +kernel)
theorem ki_ME_blacken : Cond.instanceMethod (fx_y mq_ME_blacken) ∈ fx_tb := fx_m1 781 (by decide +kernel)
theorem ke_ME_blacken : Cond.selects (fx_y mq_ME_blacken).cls (fx_y mq_ME_blacken) (fx_y mq_ME_blacken) ∈ fx_tb := fx_m1 782 (by decide +kernel)
theorem kc_ME_paint : fx_cw mq_ME_paint ∈ fx_tb := fx_m1 787 (by decide +kernel)
theorem ki_ME_paint : Cond.instanceMethod (fx_y mq_ME_paint) ∈ fx_tb := fx_m1 785 (by decide +kernel)
theorem ke_ME_paint : Cond.selects (fx_y mq_ME_paint).cls (fx_y mq_ME_paint) (fx_y mq_ME_paint) ∈ fx_tb := fx_m1 786 (by decide +kernel)
theorem kc_CO_nextLevel : fx_cw mq_CO_nextLevel ∈ fx_tb := fx_m1 794 (by decide +kernel)
theorem ki_CO_nextLevel : Cond.instanceMethod (fx_y mq_CO_nextLevel) ∈ fx_tb := fx_m1 793 (by decide +kernel)
theorem ke_CO_nextLevel : Cond.selects (fx_y mq_CO_nextLevel).cls (fx_y mq_CO_nextLevel) (fx_y mq_CO_nextLevel) ∈ fx_tb := fx_m0 10 (by decide +kernel)
theorem kc_MO_init : fx_cw mq_MO_init ∈ fx_tb := fx_m1 800 (by decide +kernel)
theorem ki_MO_init : Cond.instanceMethod (fx_y mq_MO_init) ∈ fx_tb := fx_m1 799 (by decide +kernel)
theorem kc_MO_thrown : fx_cw mq_MO_thrown ∈ fx_tb := fx_m1 962 (by decide +kernel)
theorem ki_MO_thrown : Cond.instanceMethod (fx_y mq_MO_thrown) ∈ fx_tb := fx_m1 960 (by decide +kernel)
theorem ke_MO_thrown : Cond.selects (fx_y mq_MO_thrown).cls (fx_y mq_MO_thrown) (fx_y mq_MO_thrown) ∈ fx_tb := fx_m1 961 (by decide +kernel)
theorem kc_MO_surface : fx_cw mq_MO_surface ∈ fx_tb := fx_m1 966 (by decide +kernel)
theorem ki_MO_surface : Cond.instanceMethod (fx_y mq_MO_surface) ∈ fx_tb := fx_m1 964 (by decide +kernel)
theorem ke_MO_surface : Cond.selects (fx_y mq_MO_surface).cls (fx_y mq_MO_surface) (fx_y mq_MO_surface) ∈ fx_tb := fx_m1 965 (by decide +kernel)
theorem kc_MO_within : fx_cw mq_MO_within ∈ fx_tb := fx_m1 969 (by decide +kernel)
theorem ks_MO_within : Cond.static (fx_y mq_MO_within) ∈ fx_tb := fx_m1 968 (by decide +kernel)
theorem kc_MO_freePixels : fx_cw mq_MO_freePixels ∈ fx_tb := fx_m1 973 (by decide +kernel)
theorem ki_MO_freePixels : Cond.instanceMethod (fx_y mq_MO_freePixels) ∈ fx_tb := fx_m1 972 (by decide +kernel)
theorem ke_MO_freePixels : Cond.selects (fx_y mq_MO_freePixels).cls (fx_y mq_MO_freePixels) (fx_y mq_MO_freePixels) ∈ fx_tb := fx_m0 11 (by decide +kernel)
theorem kc_MO_destroy : fx_cw mq_MO_destroy ∈ fx_tb := fx_m1 977 (by decide +kernel)
theorem ki_MO_destroy : Cond.instanceMethod (fx_y mq_MO_destroy) ∈ fx_tb := fx_m1 975 (by decide +kernel)
theorem ke_MO_destroy : Cond.selects (fx_y mq_MO_destroy).cls (fx_y mq_MO_destroy) (fx_y mq_MO_destroy) ∈ fx_tb := fx_m1 976 (by decide +kernel)
theorem kc_MO_hasDraft : fx_cw mq_MO_hasDraft ∈ fx_tb := fx_m1 981 (by decide +kernel)
theorem ki_MO_hasDraft : Cond.instanceMethod (fx_y mq_MO_hasDraft) ∈ fx_tb := fx_m1 980 (by decide +kernel)
theorem ke_MO_hasDraft : Cond.selects (fx_y mq_MO_hasDraft).cls (fx_y mq_MO_hasDraft) (fx_y mq_MO_hasDraft) ∈ fx_tb := fx_m0 12 (by decide +kernel)
theorem kc_MO_place : fx_cw mq_MO_place ∈ fx_tb := fx_m1 985 (by decide +kernel)
theorem ki_MO_place : Cond.instanceMethod (fx_y mq_MO_place) ∈ fx_tb := fx_m1 983 (by decide +kernel)
theorem ke_MO_place : Cond.selects (fx_y mq_MO_place).cls (fx_y mq_MO_place) (fx_y mq_MO_place) ∈ fx_tb := fx_m1 984 (by decide +kernel)
theorem kc_MO_clip : fx_cw mq_MO_clip ∈ fx_tb := fx_m1 989 (by decide +kernel)
theorem ki_MO_clip : Cond.instanceMethod (fx_y mq_MO_clip) ∈ fx_tb := fx_m1 987 (by decide +kernel)
theorem ke_MO_clip : Cond.selects (fx_y mq_MO_clip).cls (fx_y mq_MO_clip) (fx_y mq_MO_clip) ∈ fx_tb := fx_m1 988 (by decide +kernel)
theorem kc_MO_isArea : fx_cw mq_MO_isArea ∈ fx_tb := fx_m1 992 (by decide +kernel)
theorem ks_MO_isArea : Cond.static (fx_y mq_MO_isArea) ∈ fx_tb := fx_m1 991 (by decide +kernel)
theorem kc_MO_put : fx_cw mq_MO_put ∈ fx_tb := fx_m1 996 (by decide +kernel)
theorem ki_MO_put : Cond.instanceMethod (fx_y mq_MO_put) ∈ fx_tb := fx_m1 994 (by decide +kernel)
theorem ke_MO_put : Cond.selects (fx_y mq_MO_put).cls (fx_y mq_MO_put) (fx_y mq_MO_put) ∈ fx_tb := fx_m1 995 (by decide +kernel)
theorem kc_MO_has : fx_cw mq_MO_has ∈ fx_tb := fx_m1 1001 (by decide +kernel)
theorem ki_MO_has : Cond.instanceMethod (fx_y mq_MO_has) ∈ fx_tb := fx_m1 1000 (by decide +kernel)
theorem ke_MO_has : Cond.selects (fx_y mq_MO_has).cls (fx_y mq_MO_has) (fx_y mq_MO_has) ∈ fx_tb := fx_m0 13 (by decide +kernel)
theorem kc_MO_fill : fx_cw mq_MO_fill ∈ fx_tb := fx_m1 1005 (by decide +kernel)
theorem ki_MO_fill : Cond.instanceMethod (fx_y mq_MO_fill) ∈ fx_tb := fx_m1 1003 (by decide +kernel)
theorem ke_MO_fill : Cond.selects (fx_y mq_MO_fill).cls (fx_y mq_MO_fill) (fx_y mq_MO_fill) ∈ fx_tb := fx_m1 1004 (by decide +kernel)
theorem kc_MO_copy : fx_cw mq_MO_copy ∈ fx_tb := fx_m1 1009 (by decide +kernel)
theorem ki_MO_copy : Cond.instanceMethod (fx_y mq_MO_copy) ∈ fx_tb := fx_m1 1007 (by decide +kernel)
theorem ke_MO_copy : Cond.selects (fx_y mq_MO_copy).cls (fx_y mq_MO_copy) (fx_y mq_MO_copy) ∈ fx_tb := fx_m1 1008 (by decide +kernel)
theorem kc_MO_isCopy : fx_cw mq_MO_isCopy ∈ fx_tb := fx_m1 1013 (by decide +kernel)
theorem ki_MO_isCopy : Cond.instanceMethod (fx_y mq_MO_isCopy) ∈ fx_tb := fx_m1 1012 (by decide +kernel)
theorem ke_MO_isCopy : Cond.selects (fx_y mq_MO_isCopy).cls (fx_y mq_MO_isCopy) (fx_y mq_MO_isCopy) ∈ fx_tb := fx_m0 14 (by decide +kernel)
theorem kc_MO_commit : fx_cw mq_MO_commit ∈ fx_tb := fx_m1 1017 (by decide +kernel)
theorem ki_MO_commit : Cond.instanceMethod (fx_y mq_MO_commit) ∈ fx_tb := fx_m1 1015 (by decide +kernel)
theorem ke_MO_commit : Cond.selects (fx_y mq_MO_commit).cls (fx_y mq_MO_commit) (fx_y mq_MO_commit) ∈ fx_tb := fx_m1 1016 (by decide +kernel)
theorem kc_MO_copyPicture : fx_cw mq_MO_copyPicture ∈ fx_tb := fx_m1 1021 (by decide +kernel)
theorem ki_MO_copyPicture : Cond.instanceMethod (fx_y mq_MO_copyPicture) ∈ fx_tb := fx_m1 1020 (by decide +kernel)
theorem ke_MO_copyPicture : Cond.selects (fx_y mq_MO_copyPicture).cls (fx_y mq_MO_copyPicture) (fx_y mq_MO_copyPicture) ∈ fx_tb := fx_m0 15 (by decide +kernel)
theorem kc_MO_draw : fx_cw mq_MO_draw ∈ fx_tb := fx_m1 1025 (by decide +kernel)
theorem ki_MO_draw : Cond.instanceMethod (fx_y mq_MO_draw) ∈ fx_tb := fx_m1 1023 (by decide +kernel)
theorem ke_MO_draw : Cond.selects (fx_y mq_MO_draw).cls (fx_y mq_MO_draw) (fx_y mq_MO_draw) ∈ fx_tb := fx_m1 1024 (by decide +kernel)
theorem kc_MO_begin : fx_cw mq_MO_begin ∈ fx_tb := fx_m1 1029 (by decide +kernel)
theorem ki_MO_begin : Cond.instanceMethod (fx_y mq_MO_begin) ∈ fx_tb := fx_m1 1028 (by decide +kernel)
theorem ke_MO_begin : Cond.selects (fx_y mq_MO_begin).cls (fx_y mq_MO_begin) (fx_y mq_MO_begin) ∈ fx_tb := fx_m0 16 (by decide +kernel)
theorem kc_MO_show : fx_cw mq_MO_show ∈ fx_tb := fx_m1 1033 (by decide +kernel)
theorem ki_MO_show : Cond.instanceMethod (fx_y mq_MO_show) ∈ fx_tb := fx_m1 1032 (by decide +kernel)
theorem ke_MO_show : Cond.selects (fx_y mq_MO_show).cls (fx_y mq_MO_show) (fx_y mq_MO_show) ∈ fx_tb := fx_m0 17 (by decide +kernel)
theorem kc_MO_cut : fx_cw mq_MO_cut ∈ fx_tb := fx_m1 1037 (by decide +kernel)
theorem ki_MO_cut : Cond.instanceMethod (fx_y mq_MO_cut) ∈ fx_tb := fx_m1 1036 (by decide +kernel)
theorem ke_MO_cut : Cond.selects (fx_y mq_MO_cut).cls (fx_y mq_MO_cut) (fx_y mq_MO_cut) ∈ fx_tb := fx_m0 18 (by decide +kernel)
theorem kc_MO_isPlane : fx_cw mq_MO_isPlane ∈ fx_tb := fx_m1 1041 (by decide +kernel)
theorem ki_MO_isPlane : Cond.instanceMethod (fx_y mq_MO_isPlane) ∈ fx_tb := fx_m1 1040 (by decide +kernel)
theorem ke_MO_isPlane : Cond.selects (fx_y mq_MO_isPlane).cls (fx_y mq_MO_isPlane) (fx_y mq_MO_isPlane) ∈ fx_tb := fx_m0 19 (by decide +kernel)
theorem kc_MO_choosePlanes : fx_cw mq_MO_choosePlanes ∈ fx_tb := fx_m1 1045 (by decide +kernel)
theorem ki_MO_choosePlanes : Cond.instanceMethod (fx_y mq_MO_choosePlanes) ∈ fx_tb := fx_m1 1044 (by decide +kernel)
theorem ke_MO_choosePlanes : Cond.selects (fx_y mq_MO_choosePlanes).cls (fx_y mq_MO_choosePlanes) (fx_y mq_MO_choosePlanes) ∈ fx_tb := fx_m0 20 (by decide +kernel)
theorem kc_MO_nth : fx_cw mq_MO_nth ∈ fx_tb := fx_m1 1049 (by decide +kernel)
theorem ki_MO_nth : Cond.instanceMethod (fx_y mq_MO_nth) ∈ fx_tb := fx_m1 1048 (by decide +kernel)
theorem ke_MO_nth : Cond.selects (fx_y mq_MO_nth).cls (fx_y mq_MO_nth) (fx_y mq_MO_nth) ∈ fx_tb := fx_m0 21 (by decide +kernel)
theorem kc_MO_isAbove : fx_cw mq_MO_isAbove ∈ fx_tb := fx_m1 1053 (by decide +kernel)
theorem ki_MO_isAbove : Cond.instanceMethod (fx_y mq_MO_isAbove) ∈ fx_tb := fx_m1 1052 (by decide +kernel)
theorem ke_MO_isAbove : Cond.selects (fx_y mq_MO_isAbove).cls (fx_y mq_MO_isAbove) (fx_y mq_MO_isAbove) ∈ fx_tb := fx_m0 22 (by decide +kernel)
theorem kc_MO_miss : fx_cw mq_MO_miss ∈ fx_tb := fx_m1 1057 (by decide +kernel)
theorem ki_MO_miss : Cond.instanceMethod (fx_y mq_MO_miss) ∈ fx_tb := fx_m1 1056 (by decide +kernel)
theorem ke_MO_miss : Cond.selects (fx_y mq_MO_miss).cls (fx_y mq_MO_miss) (fx_y mq_MO_miss) ∈ fx_tb := fx_m0 23 (by decide +kernel)
theorem kc_MO_lies : fx_cw mq_MO_lies ∈ fx_tb := fx_m1 1061 (by decide +kernel)
theorem ki_MO_lies : Cond.instanceMethod (fx_y mq_MO_lies) ∈ fx_tb := fx_m1 1060 (by decide +kernel)
theorem ke_MO_lies : Cond.selects (fx_y mq_MO_lies).cls (fx_y mq_MO_lies) (fx_y mq_MO_lies) ∈ fx_tb := fx_m0 24 (by decide +kernel)
theorem kc_MO_join : fx_cw mq_MO_join ∈ fx_tb := fx_m1 1065 (by decide +kernel)
theorem ki_MO_join : Cond.instanceMethod (fx_y mq_MO_join) ∈ fx_tb := fx_m1 1064 (by decide +kernel)
theorem ke_MO_join : Cond.selects (fx_y mq_MO_join).cls (fx_y mq_MO_join) (fx_y mq_MO_join) ∈ fx_tb := fx_m0 25 (by decide +kernel)
theorem kc_MO_hullWide : fx_cw mq_MO_hullWide ∈ fx_tb := fx_m1 1070 (by decide +kernel)
theorem ki_MO_hullWide : Cond.instanceMethod (fx_y mq_MO_hullWide) ∈ fx_tb := fx_m1 1069 (by decide +kernel)
theorem ke_MO_hullWide : Cond.selects (fx_y mq_MO_hullWide).cls (fx_y mq_MO_hullWide) (fx_y mq_MO_hullWide) ∈ fx_tb := fx_m0 26 (by decide +kernel)
theorem kc_MO_hullHigh : fx_cw mq_MO_hullHigh ∈ fx_tb := fx_m1 1074 (by decide +kernel)
theorem ki_MO_hullHigh : Cond.instanceMethod (fx_y mq_MO_hullHigh) ∈ fx_tb := fx_m1 1073 (by decide +kernel)
theorem ke_MO_hullHigh : Cond.selects (fx_y mq_MO_hullHigh).cls (fx_y mq_MO_hullHigh) (fx_y mq_MO_hullHigh) ∈ fx_tb := fx_m0 27 (by decide +kernel)
theorem kc_MO_findStep : fx_cw mq_MO_findStep ∈ fx_tb := fx_m1 1078 (by decide +kernel)
theorem ki_MO_findStep : Cond.instanceMethod (fx_y mq_MO_findStep) ∈ fx_tb := fx_m1 1077 (by decide +kernel)
theorem ke_MO_findStep : Cond.selects (fx_y mq_MO_findStep).cls (fx_y mq_MO_findStep) (fx_y mq_MO_findStep) ∈ fx_tb := fx_m0 28 (by decide +kernel)
theorem kc_MO_meet : fx_cw mq_MO_meet ∈ fx_tb := fx_m1 1082 (by decide +kernel)
theorem ki_MO_meet : Cond.instanceMethod (fx_y mq_MO_meet) ∈ fx_tb := fx_m1 1081 (by decide +kernel)
theorem ke_MO_meet : Cond.selects (fx_y mq_MO_meet).cls (fx_y mq_MO_meet) (fx_y mq_MO_meet) ∈ fx_tb := fx_m0 29 (by decide +kernel)
theorem kc_MO_make : fx_cw mq_MO_make ∈ fx_tb := fx_m1 1086 (by decide +kernel)
theorem ki_MO_make : Cond.instanceMethod (fx_y mq_MO_make) ∈ fx_tb := fx_m1 1085 (by decide +kernel)
theorem ke_MO_make : Cond.selects (fx_y mq_MO_make).cls (fx_y mq_MO_make) (fx_y mq_MO_make) ∈ fx_tb := fx_m0 30 (by decide +kernel)
theorem kc_MO_paint : fx_cw mq_MO_paint ∈ fx_tb := fx_m1 1090 (by decide +kernel)
theorem ki_MO_paint : Cond.instanceMethod (fx_y mq_MO_paint) ∈ fx_tb := fx_m1 1089 (by decide +kernel)
theorem ke_MO_paint : Cond.selects (fx_y mq_MO_paint).cls (fx_y mq_MO_paint) (fx_y mq_MO_paint) ∈ fx_tb := fx_m0 31 (by decide +kernel)
theorem kc_MO_pixelOf : fx_cw mq_MO_pixelOf ∈ fx_tb := fx_m1 1094 (by decide +kernel)
theorem ki_MO_pixelOf : Cond.instanceMethod (fx_y mq_MO_pixelOf) ∈ fx_tb := fx_m1 1093 (by decide +kernel)
theorem ke_MO_pixelOf : Cond.selects (fx_y mq_MO_pixelOf).cls (fx_y mq_MO_pixelOf) (fx_y mq_MO_pixelOf) ∈ fx_tb := fx_m0 32 (by decide +kernel)
theorem kc_MO_mixed : fx_cw mq_MO_mixed ∈ fx_tb := fx_m1 1097 (by decide +kernel)
theorem ks_MO_mixed : Cond.static (fx_y mq_MO_mixed) ∈ fx_tb := fx_m1 1096 (by decide +kernel)
theorem kc_MO_part : fx_cw mq_MO_part ∈ fx_tb := fx_m1 1100 (by decide +kernel)
theorem ks_MO_part : Cond.static (fx_y mq_MO_part) ∈ fx_tb := fx_m1 1099 (by decide +kernel)
theorem kc_MO_scan : fx_cw mq_MO_scan ∈ fx_tb := fx_m1 1104 (by decide +kernel)
theorem ki_MO_scan : Cond.instanceMethod (fx_y mq_MO_scan) ∈ fx_tb := fx_m1 1102 (by decide +kernel)
theorem ke_MO_scan : Cond.selects (fx_y mq_MO_scan).cls (fx_y mq_MO_scan) (fx_y mq_MO_scan) ∈ fx_tb := fx_m1 1103 (by decide +kernel)
theorem kc_MO_look : fx_cw mq_MO_look ∈ fx_tb := fx_m1 1108 (by decide +kernel)
theorem ki_MO_look : Cond.instanceMethod (fx_y mq_MO_look) ∈ fx_tb := fx_m1 1107 (by decide +kernel)
theorem ke_MO_look : Cond.selects (fx_y mq_MO_look).cls (fx_y mq_MO_look) (fx_y mq_MO_look) ∈ fx_tb := fx_m0 33 (by decide +kernel)
theorem kc_MO_change : fx_cw mq_MO_change ∈ fx_tb := fx_m1 1112 (by decide +kernel)
theorem ki_MO_change : Cond.instanceMethod (fx_y mq_MO_change) ∈ fx_tb := fx_m1 1111 (by decide +kernel)
theorem ke_MO_change : Cond.selects (fx_y mq_MO_change).cls (fx_y mq_MO_change) (fx_y mq_MO_change) ∈ fx_tb := fx_m0 34 (by decide +kernel)
theorem kc_MO_state : fx_cw mq_MO_state ∈ fx_tb := fx_m1 1116 (by decide +kernel)
theorem ki_MO_state : Cond.instanceMethod (fx_y mq_MO_state) ∈ fx_tb := fx_m1 1114 (by decide +kernel)
theorem ke_MO_state : Cond.selects (fx_y mq_MO_state).cls (fx_y mq_MO_state) (fx_y mq_MO_state) ∈ fx_tb := fx_m1 1115 (by decide +kernel)
theorem kc_MO_seen : fx_cw mq_MO_seen ∈ fx_tb := fx_m1 1120 (by decide +kernel)
theorem ki_MO_seen : Cond.instanceMethod (fx_y mq_MO_seen) ∈ fx_tb := fx_m1 1118 (by decide +kernel)
theorem ke_MO_seen : Cond.selects (fx_y mq_MO_seen).cls (fx_y mq_MO_seen) (fx_y mq_MO_seen) ∈ fx_tb := fx_m1 1119 (by decide +kernel)
theorem kc_MO_isPixel : fx_cw mq_MO_isPixel ∈ fx_tb := fx_m1 1123 (by decide +kernel)
theorem ks_MO_isPixel : Cond.static (fx_y mq_MO_isPixel) ∈ fx_tb := fx_m1 1122 (by decide +kernel)
theorem kc_MO_wanted : fx_cw mq_MO_wanted ∈ fx_tb := fx_m1 1127 (by decide +kernel)
theorem ki_MO_wanted : Cond.instanceMethod (fx_y mq_MO_wanted) ∈ fx_tb := fx_m1 1125 (by decide +kernel)
theorem ke_MO_wanted : Cond.selects (fx_y mq_MO_wanted).cls (fx_y mq_MO_wanted) (fx_y mq_MO_wanted) ∈ fx_tb := fx_m1 1126 (by decide +kernel)
theorem kc_MO_count : fx_cw mq_MO_count ∈ fx_tb := fx_m1 1131 (by decide +kernel)
theorem ki_MO_count : Cond.instanceMethod (fx_y mq_MO_count) ∈ fx_tb := fx_m1 1129 (by decide +kernel)
theorem ke_MO_count : Cond.selects (fx_y mq_MO_count).cls (fx_y mq_MO_count) (fx_y mq_MO_count) ∈ fx_tb := fx_m1 1130 (by decide +kernel)
theorem kc_MO_missed : fx_cw mq_MO_missed ∈ fx_tb := fx_m1 1135 (by decide +kernel)
theorem ki_MO_missed : Cond.instanceMethod (fx_y mq_MO_missed) ∈ fx_tb := fx_m1 1133 (by decide +kernel)
theorem ke_MO_missed : Cond.selects (fx_y mq_MO_missed).cls (fx_y mq_MO_missed) (fx_y mq_MO_missed) ∈ fx_tb := fx_m1 1134 (by decide +kernel)
theorem kc_MO_plane : fx_cw mq_MO_plane ∈ fx_tb := fx_m1 1139 (by decide +kernel)
theorem ki_MO_plane : Cond.instanceMethod (fx_y mq_MO_plane) ∈ fx_tb := fx_m1 1137 (by decide +kernel)
theorem ke_MO_plane : Cond.selects (fx_y mq_MO_plane).cls (fx_y mq_MO_plane) (fx_y mq_MO_plane) ∈ fx_tb := fx_m1 1138 (by decide +kernel)
theorem kc_MO_free : fx_cw mq_MO_free ∈ fx_tb := fx_m1 1143 (by decide +kernel)
theorem ki_MO_free : Cond.instanceMethod (fx_y mq_MO_free) ∈ fx_tb := fx_m1 1141 (by decide +kernel)
theorem ke_MO_free : Cond.selects (fx_y mq_MO_free).cls (fx_y mq_MO_free) (fx_y mq_MO_free) ∈ fx_tb := fx_m1 1142 (by decide +kernel)
theorem kc_AR_fill : fx_cw mq_AR_fill ∈ fx_tb := fx_m1 542 (by decide +kernel)
theorem ks_AR_fill : Cond.static (fx_y mq_AR_fill) ∈ fx_tb := fx_m1 541 (by decide +kernel)
theorem kn_FS : Cond.initialized "FrameSwapper" ∈ fx_tb := fx_m1 1 (by decide +kernel)
theorem kn_RE : Cond.initialized "FrameSwapper$Rectangle" ∈ fx_tb := fx_m1 5 (by decide +kernel)
theorem kn_PI : Cond.initialized "FrameSwapper$Picture" ∈ fx_tb := fx_m1 4 (by decide +kernel)
theorem kn_PL : Cond.initialized "FrameSwapper$Pile" ∈ fx_tb := fx_m1 3 (by decide +kernel)
theorem kn_DE : Cond.initialized "FrameSwapper$Desk" ∈ fx_tb := fx_m1 2 (by decide +kernel)
theorem kn_MI : Cond.initialized "FrameSwapper$Misses" ∈ fx_tb := fx_m1 9 (by decide +kernel)
theorem kn_ME : Cond.initialized "FrameSwapper$Memory" ∈ fx_tb := fx_m1 8 (by decide +kernel)
theorem kn_PN : Cond.initialized "FrameSwapper$Planes" ∈ fx_tb := fx_m1 7 (by decide +kernel)
theorem kn_CO : Cond.initialized "FrameSwapper$Composer" ∈ fx_tb := fx_m1 6 (by decide +kernel)
theorem kn_BE : Cond.initialized "FrameSwapper$Beam" ∈ fx_tb := fx_m1 10 (by decide +kernel)
theorem kn_MO : Cond.initialized "FrameSwapperModel" ∈ fx_tb := fx_m1 11 (by decide +kernel)
theorem kn_LA : Cond.initialized "FrameSwapperLaw" ∈ fx_tb := fx_m1 0 (by decide +kernel)
theorem kn_AR : Cond.initialized "java/util/Arrays" ∈ fx_tb := fx_m1 17 (by decide +kernel)
end
section
/-! ===== the words of calls, by the class that calls and its pool ===== -/
theorem sq_FS_1 : Cond.methodLink "FrameSwapper" 1 ⟨"java/lang/Object", "<init>", "()V"⟩ ∈ fx_tb := fx_m1 26 (by decide +kernel)
theorem sq_FS_9 : fx_wI "FrameSwapper" 9 0 mq_DE_init := ⟨⟨kc_DE_init, kn_DE, ⟨by decide, by decide⟩, by decide +kernel, fx_m1 31 (by decide +kernel)⟩, ki_DE_init, rfl, rfl, rfl⟩
theorem sq_FS_18 : fx_wI "FrameSwapper" 18 0 mq_CO_init := ⟨⟨kc_CO_init, kn_CO, ⟨by decide, by decide⟩, by decide +kernel, fx_m1 190 (by decide +kernel)⟩, ki_CO_init, rfl, rfl, rfl⟩
theorem sq_FS_25 : fx_wN "FrameSwapper" 25 0 mq_BE_init "FrameSwapper" := ⟨⟨kc_BE_init, kn_BE, ⟨by decide, by decide⟩, by decide +kernel, fx_m1 297 (by decide +kernel)⟩, ki_BE_init, rfl, rfl, rfl⟩
theorem sq_FS_32 : fx_wN "FrameSwapper" 32 0 mq_RE_init "FrameSwapper" := ⟨⟨kc_RE_init, kn_RE, ⟨by decide, by decide⟩, by decide +kernel, fx_m1 328 (by decide +kernel)⟩, ki_RE_init, rfl, rfl, rfl⟩
theorem sq_FS_39 : fx_wN "FrameSwapper" 39 0 mq_PI_init "FrameSwapper" := ⟨⟨kc_PI_init, kn_PI, ⟨by decide, by decide⟩, by decide +kernel, fx_m1 330 (by decide +kernel)⟩, ki_PI_init, rfl, rfl, rfl⟩
theorem sq_DE_3 : Cond.methodLink "FrameSwapper$Desk" 3 ⟨"java/lang/Object", "<init>", "()V"⟩ ∈ fx_tb := fx_m1 34 (by decide +kernel)
theorem sq_DE_19 : fx_wI "FrameSwapper$Desk" 19 0 mq_PL_init := ⟨⟨kc_PL_init, kn_PL, ⟨by decide, by decide⟩, by decide +kernel, fx_m1 39 (by decide +kernel)⟩, ki_PL_init, rfl, rfl, rfl⟩
theorem sq_DE_39 : fx_wN "FrameSwapper$Desk" 39 0 mq_PI_init "FrameSwapper" := ⟨⟨kc_PI_init, kn_PI, ⟨by decide, by decide⟩, by decide +kernel, fx_m1 157 (by decide +kernel)⟩, ki_PI_init, rfl, rfl, rfl⟩
theorem sq_PL_3 : Cond.methodLink "FrameSwapper$Pile" 3 ⟨"java/lang/Object", "<init>", "()V"⟩ ∈ fx_tb := fx_m1 42 (by decide +kernel)
theorem sq_PL_21 : fx_wN "FrameSwapper$Pile" 21 0 mq_PI_init "FrameSwapper" := ⟨⟨kc_PI_init, kn_PI, ⟨by decide, by decide⟩, by decide +kernel, fx_m1 45 (by decide +kernel)⟩, ki_PI_init, rfl, rfl, rfl⟩
theorem sq_PI_3 : Cond.methodLink "FrameSwapper$Picture" 3 ⟨"java/lang/Object", "<init>", "()V"⟩ ∈ fx_tb := fx_m1 48 (by decide +kernel)
theorem sq_PI_17 : fx_wN "FrameSwapper$Picture" 17 0 mq_RE_init "FrameSwapper" := ⟨⟨kc_RE_init, kn_RE, ⟨by decide, by decide⟩, by decide +kernel, fx_m1 51 (by decide +kernel)⟩, ki_RE_init, rfl, rfl, rfl⟩
theorem sq_RE_1 : Cond.methodLink "FrameSwapper$Rectangle" 1 ⟨"java/lang/Object", "<init>", "()V"⟩ ∈ fx_tb := fx_m1 54 (by decide +kernel)
theorem sq_CO_3 : Cond.methodLink "FrameSwapper$Composer" 3 ⟨"java/lang/Object", "<init>", "()V"⟩ ∈ fx_tb := fx_m1 193 (by decide +kernel)
theorem sq_CO_11 : fx_wI "FrameSwapper$Composer" 11 0 mq_PL_init := ⟨⟨kc_PL_init, kn_PL, ⟨by decide, by decide⟩, by decide +kernel, fx_m1 195 (by decide +kernel)⟩, ki_PL_init, rfl, rfl, rfl⟩
theorem sq_CO_20 : fx_wN "FrameSwapper$Composer" 20 0 mq_PN_init "FrameSwapper" := ⟨⟨kc_PN_init, kn_PN, ⟨by decide, by decide⟩, by decide +kernel, fx_m1 198 (by decide +kernel)⟩, ki_PN_init, rfl, rfl, rfl⟩
theorem sq_CO_37 : fx_wN "FrameSwapper$Composer" 37 0 mq_ME_init "FrameSwapper" := ⟨⟨kc_ME_init, kn_ME, ⟨by decide, by decide⟩, by decide +kernel, fx_m1 221 (by decide +kernel)⟩, ki_ME_init, rfl, rfl, rfl⟩
theorem sq_CO_49 : fx_wN "FrameSwapper$Composer" 49 0 mq_RE_init "FrameSwapper" := ⟨⟨kc_RE_init, kn_RE, ⟨by decide, by decide⟩, by decide +kernel, fx_m1 254 (by decide +kernel)⟩, ki_RE_init, rfl, rfl, rfl⟩
theorem sq_PN_3 : Cond.methodLink "FrameSwapper$Planes" 3 ⟨"java/lang/Object", "<init>", "()V"⟩ ∈ fx_tb := fx_m1 201 (by decide +kernel)
theorem sq_PN_17 : fx_wN "FrameSwapper$Planes" 17 0 mq_RE_init "FrameSwapper" := ⟨⟨kc_RE_init, kn_RE, ⟨by decide, by decide⟩, by decide +kernel, fx_m1 204 (by decide +kernel)⟩, ki_RE_init, rfl, rfl, rfl⟩
theorem sq_ME_3 : Cond.methodLink "FrameSwapper$Memory" 3 ⟨"java/lang/Object", "<init>", "()V"⟩ ∈ fx_tb := fx_m1 224 (by decide +kernel)
theorem sq_ME_17 : fx_wI "FrameSwapper$Memory" 17 0 mq_MI_init := ⟨⟨kc_MI_init, kn_MI, ⟨by decide, by decide⟩, by decide +kernel, fx_m1 227 (by decide +kernel)⟩, ki_MI_init, rfl, rfl, rfl⟩
theorem sq_MI_3 : Cond.methodLink "FrameSwapper$Misses" 3 ⟨"java/lang/Object", "<init>", "()V"⟩ ∈ fx_tb := fx_m1 230 (by decide +kernel)
theorem sq_MI_17 : fx_wN "FrameSwapper$Misses" 17 0 mq_RE_init "FrameSwapper" := ⟨⟨kc_RE_init, kn_RE, ⟨by decide, by decide⟩, by decide +kernel, fx_m1 232 (by decide +kernel)⟩, ki_RE_init, rfl, rfl, rfl⟩
theorem sq_BE_3 : Cond.methodLink "FrameSwapper$Beam" 3 ⟨"java/lang/Object", "<init>", "()V"⟩ ∈ fx_tb := fx_m1 300 (by decide +kernel)
theorem sq_BE_11 : fx_wN "FrameSwapper$Beam" 11 0 mq_PN_init "FrameSwapper" := ⟨⟨kc_PN_init, kn_PN, ⟨by decide, by decide⟩, by decide +kernel, fx_m1 302 (by decide +kernel)⟩, ki_PN_init, rfl, rfl, rfl⟩
theorem sq_FS_188 : fx_wV "FrameSwapper" 188 1 mq_BE_endFrame 9 := ⟨⟨kc_BE_endFrame, kn_BE, ⟨by decide, by decide⟩, by decide +kernel, fx_m1 363 (by decide +kernel)⟩, ki_BE_endFrame, ke_BE_endFrame, _, rfl, rfl⟩
theorem sq_FS_191 : fx_wV "FrameSwapper" 191 0 mq_CO_swap 8 := ⟨⟨kc_CO_swap, kn_CO, ⟨by decide, by decide⟩, by decide +kernel, fx_m1 367 (by decide +kernel)⟩, ki_CO_swap, ke_CO_swap, _, rfl, rfl⟩
theorem sq_FS_201 : fx_wV "FrameSwapper" 201 1 mq_PN_become 7 := ⟨⟨kc_PN_become, kn_PN, ⟨by decide, by decide⟩, by decide +kernel, fx_m1 371 (by decide +kernel)⟩, ki_PN_become, ke_PN_become, _, rfl, rfl⟩
theorem sq_FS_181 : fx_wV "FrameSwapper" 181 1 mq_BE_scanRow 9 := ⟨⟨kc_BE_scanRow, kn_BE, ⟨by decide, by decide⟩, by decide +kernel, fx_m1 351 (by decide +kernel)⟩, ki_BE_scanRow, ke_BE_scanRow, _, rfl, rfl⟩
theorem sq_BE_34 : Cond.methodLink "FrameSwapper$Beam" 34 ⟨"java/lang/System", "arraycopy", "(Ljava/lang/Object;ILjava/lang/Object;II)V"⟩ ∈ fx_tb := fx_m1 355 (by decide +kernel)
theorem sq_BE_40 : fx_wV "FrameSwapper$Beam" 40 2 mq_PN_mixInto 7 := ⟨⟨kc_PN_mixInto, kn_PN, ⟨by decide, by decide⟩, by decide +kernel, fx_m1 358 (by decide +kernel)⟩, ki_PN_mixInto, ke_PN_mixInto, _, rfl, rfl⟩
theorem sq_PN_31 : Cond.methodLink "FrameSwapper$Planes" 31 ⟨"java/lang/System", "arraycopy", "(Ljava/lang/Object;ILjava/lang/Object;II)V"⟩ ∈ fx_tb := fx_m1 362 (by decide +kernel)
theorem sq_PN_27 : fx_wV "FrameSwapper$Planes" 27 1 mq_RE_become 1 := ⟨⟨kc_RE_become, kn_RE, ⟨by decide, by decide⟩, by decide +kernel, fx_m1 375 (by decide +kernel)⟩, ki_RE_become, ke_RE_become, _, rfl, rfl⟩
theorem sq_RE_22 : fx_wV "FrameSwapper$Rectangle" 22 4 mq_RE_set 1 := ⟨⟨kc_RE_set, kn_RE, ⟨by decide, by decide⟩, by decide +kernel, fx_m1 379 (by decide +kernel)⟩, ki_RE_set, ke_RE_set, _, rfl, rfl⟩
theorem sq_FS_206 : fx_wS "FrameSwapper" 206 2 mq_FS_isOnScreen := ⟨⟨kc_FS_isOnScreen, kn_FS, ⟨by decide, by decide⟩, by decide +kernel, fx_m1 391 (by decide +kernel)⟩, ks_FS_isOnScreen⟩
theorem sq_FS_48 : fx_wS "FrameSwapper" 48 3 mq_FS_isWithin := ⟨⟨kc_FS_isWithin, kn_FS, ⟨by decide, by decide⟩, by decide +kernel, fx_m1 394 (by decide +kernel)⟩, ks_FS_isWithin⟩
theorem sq_FS_217 : fx_wV "FrameSwapper" 217 2 mq_PL_colorAt 3 := ⟨⟨kc_PL_colorAt, kn_PL, ⟨by decide, by decide⟩, by decide +kernel, fx_m1 401 (by decide +kernel)⟩, ki_PL_colorAt, ke_PL_colorAt, _, rfl, rfl⟩
theorem sq_PL_44 : fx_wV "FrameSwapper$Pile" 44 2 mq_RE_has 1 := ⟨⟨kc_RE_has, kn_RE, ⟨by decide, by decide⟩, by decide +kernel, fx_m1 405 (by decide +kernel)⟩, ki_RE_has, ke_RE_has, _, rfl, rfl⟩
theorem sq_PL_50 : fx_wV "FrameSwapper$Pile" 50 2 mq_PI_colorAt 2 := ⟨⟨kc_PI_colorAt, kn_PI, ⟨by decide, by decide⟩, by decide +kernel, fx_m1 409 (by decide +kernel)⟩, ki_PI_colorAt, ke_PI_colorAt, _, rfl, rfl⟩
theorem sq_PL_57 : fx_wSN "FrameSwapper$Pile" 57 3 mq_FS_mix "FrameSwapper" := ⟨⟨kc_FS_mix, kn_FS, ⟨by decide, by decide⟩, by decide +kernel, fx_m1 413 (by decide +kernel)⟩, ks_FS_mix⟩
theorem sq_FS_258 : fx_wS "FrameSwapper" 258 3 mq_FS_mixPart := ⟨⟨kc_FS_mixPart, kn_FS, ⟨by decide, by decide⟩, by decide +kernel, fx_m1 416 (by decide +kernel)⟩, ks_FS_mixPart⟩
theorem sq_LA_7 : fx_wV "FrameSwapperLaw" 7 3 mq_FS_surface 0 := ⟨⟨kc_FS_surface, kn_FS, ⟨by decide, by decide⟩, by decide +kernel, fx_m1 440 (by decide +kernel)⟩, ki_FS_surface, ke_FS_surface, _, rfl, rfl⟩
theorem sq_FS_44 : fx_wS "FrameSwapper" 44 1 mq_FS_isClient := ⟨⟨kc_FS_isClient, kn_FS, ⟨by decide, by decide⟩, by decide +kernel, fx_m1 444 (by decide +kernel)⟩, ks_FS_isClient⟩
theorem sq_FS_52 : fx_wS "FrameSwapper" 52 1 mq_FS_demand := ⟨⟨kc_FS_demand, kn_FS, ⟨by decide, by decide⟩, by decide +kernel, fx_m1 447 (by decide +kernel)⟩, ks_FS_demand⟩
theorem sq_FS_56 : fx_wV "FrameSwapper" 56 0 mq_DE_lowestFreeNumber 4 := ⟨⟨kc_DE_lowestFreeNumber, kn_DE, ⟨by decide, by decide⟩, by decide +kernel, fx_m1 513 (by decide +kernel)⟩, ki_DE_lowestFreeNumber, ke_DE_lowestFreeNumber, _, rfl, rfl⟩
theorem sq_FS_66 : Cond.methodLink "FrameSwapper" 66 ⟨"java/lang/IllegalStateException", "<init>", "()V"⟩ ∈ fx_tb := fx_m1 526 (by decide +kernel)
theorem sq_FS_67 : fx_wV "FrameSwapper" 67 4 mq_DE_open 4 := ⟨⟨kc_DE_open, kn_DE, ⟨by decide, by decide⟩, by decide +kernel, fx_m1 532 (by decide +kernel)⟩, ki_DE_open, ke_DE_open, _, rfl, rfl⟩
theorem sq_FS_256 : Cond.methodLink "FrameSwapper" 256 ⟨"java/lang/IllegalArgumentException", "<init>", "()V"⟩ ∈ fx_tb := fx_m1 491 (by decide +kernel)
theorem sq_DE_44 : fx_wV "FrameSwapper$Desk" 44 2 mq_PI_start 2 := ⟨⟨kc_PI_start, kn_PI, ⟨by decide, by decide⟩, by decide +kernel, fx_m1 536 (by decide +kernel)⟩, ki_PI_start, ke_PI_start, _, rfl, rfl⟩
theorem sq_PI_51 : fx_wS "FrameSwapper$Picture" 51 2 mq_AR_fill := ⟨⟨kc_AR_fill, kn_AR, ⟨by decide, by decide⟩, by decide +kernel, fx_m1 540 (by decide +kernel)⟩, ks_AR_fill⟩
theorem sq_PI_57 : fx_wV "FrameSwapper$Picture" 57 4 mq_RE_set 1 := ⟨⟨kc_RE_set, kn_RE, ⟨by decide, by decide⟩, by decide +kernel, fx_m1 543 (by decide +kernel)⟩, ki_RE_set, ke_RE_set, _, rfl, rfl⟩
theorem sq_PI_61 : fx_wV "FrameSwapper$Picture" 61 0 mq_PI_findShown 2 := ⟨⟨kc_PI_findShown, kn_PI, ⟨by decide, by decide⟩, by decide +kernel, fx_m1 544 (by decide +kernel)⟩, ki_PI_findShown, ke_PI_findShown, _, rfl, rfl⟩
theorem sq_PI_70 : fx_wV "FrameSwapper$Picture" 70 1 mq_RE_become 1 := ⟨⟨kc_RE_become, kn_RE, ⟨by decide, by decide⟩, by decide +kernel, fx_m1 548 (by decide +kernel)⟩, ki_RE_become, ke_RE_become, _, rfl, rfl⟩
theorem sq_PI_74 : fx_wV "FrameSwapper$Picture" 74 2 mq_RE_shift 1 := ⟨⟨kc_RE_shift, kn_RE, ⟨by decide, by decide⟩, by decide +kernel, fx_m1 549 (by decide +kernel)⟩, ki_RE_shift, ke_RE_shift, _, rfl, rfl⟩
theorem sq_PI_78 : fx_wV "FrameSwapper$Picture" 78 2 mq_RE_cut 1 := ⟨⟨kc_RE_cut, kn_RE, ⟨by decide, by decide⟩, by decide +kernel, fx_m1 553 (by decide +kernel)⟩, ki_RE_cut, ke_RE_cut, _, rfl, rfl⟩
theorem sq_RE_26 : Cond.methodLink "FrameSwapper$Rectangle" 26 ⟨"java/lang/Math", "min", "(II)I"⟩ ∈ fx_tb := fx_m1 557 (by decide +kernel)
theorem sq_RE_32 : Cond.methodLink "FrameSwapper$Rectangle" 32 ⟨"java/lang/Math", "max", "(II)I"⟩ ∈ fx_tb := fx_m1 560 (by decide +kernel)
theorem sq_LA_17 : fx_wV "FrameSwapperLaw" 17 1 mq_FS_destroy 0 := ⟨⟨kc_FS_destroy, kn_FS, ⟨by decide, by decide⟩, by decide +kernel, fx_m1 566 (by decide +kernel)⟩, ki_FS_destroy, ke_FS_destroy, _, rfl, rfl⟩
theorem sq_FS_71 : fx_wV "FrameSwapper" 71 1 mq_DE_hasDraft 4 := ⟨⟨kc_DE_hasDraft, kn_DE, ⟨by decide, by decide⟩, by decide +kernel, fx_m1 570 (by decide +kernel)⟩, ki_DE_hasDraft, ke_DE_hasDraft, _, rfl, rfl⟩
theorem sq_FS_78 : fx_wV "FrameSwapper" 78 0 mq_PI_remove 2 := ⟨⟨kc_PI_remove, kn_PI, ⟨by decide, by decide⟩, by decide +kernel, fx_m1 574 (by decide +kernel)⟩, ki_PI_remove, ke_PI_remove, _, rfl, rfl⟩
theorem sq_LA_21 : fx_wV "FrameSwapperLaw" 21 6 mq_FS_place 0 := ⟨⟨kc_FS_place, kn_FS, ⟨by decide, by decide⟩, by decide +kernel, fx_m1 581 (by decide +kernel)⟩, ki_FS_place, ke_FS_place, _, rfl, rfl⟩
theorem sq_FS_100 : fx_wV "FrameSwapper" 100 0 mq_PI_findShown 2 := ⟨⟨kc_PI_findShown, kn_PI, ⟨by decide, by decide⟩, by decide +kernel, fx_m1 588 (by decide +kernel)⟩, ki_PI_findShown, ke_PI_findShown, _, rfl, rfl⟩
theorem sq_FS_81 : fx_wS "FrameSwapper" 81 1 mq_FS_isPlace := ⟨⟨kc_FS_isPlace, kn_FS, ⟨by decide, by decide⟩, by decide +kernel, fx_m1 585 (by decide +kernel)⟩, ks_FS_isPlace⟩
theorem sq_LA_25 : fx_wV "FrameSwapperLaw" 25 5 mq_FS_clip 0 := ⟨⟨kc_FS_clip, kn_FS, ⟨by decide, by decide⟩, by decide +kernel, fx_m1 592 (by decide +kernel)⟩, ki_FS_clip, ke_FS_clip, _, rfl, rfl⟩
theorem sq_FS_110 : fx_wV "FrameSwapper" 110 4 mq_RE_set 1 := ⟨⟨kc_RE_set, kn_RE, ⟨by decide, by decide⟩, by decide +kernel, fx_m1 599 (by decide +kernel)⟩, ki_RE_set, ke_RE_set, _, rfl, rfl⟩
theorem sq_FS_119 : fx_wV "FrameSwapper" 119 2 mq_RE_cut 1 := ⟨⟨kc_RE_cut, kn_RE, ⟨by decide, by decide⟩, by decide +kernel, fx_m1 600 (by decide +kernel)⟩, ki_RE_cut, ke_RE_cut, _, rfl, rfl⟩
theorem sq_FS_103 : fx_wS "FrameSwapper" 103 4 mq_FS_isArea := ⟨⟨kc_FS_isArea, kn_FS, ⟨by decide, by decide⟩, by decide +kernel, fx_m1 596 (by decide +kernel)⟩, ks_FS_isArea⟩
theorem sq_LA_29 : fx_wV "FrameSwapperLaw" 29 4 mq_FS_put 0 := ⟨⟨kc_FS_put, kn_FS, ⟨by decide, by decide⟩, by decide +kernel, fx_m1 605 (by decide +kernel)⟩, ki_FS_put, ke_FS_put, _, rfl, rfl⟩
theorem sq_FS_128 : Cond.methodLink "FrameSwapper" 128 ⟨"java/lang/IndexOutOfBoundsException", "<init>", "()V"⟩ ∈ fx_tb := fx_m1 622 (by decide +kernel)
theorem sq_FS_123 : fx_wS "FrameSwapper" 123 1 mq_FS_isColor := ⟨⟨kc_FS_isColor, kn_FS, ⟨by decide, by decide⟩, by decide +kernel, fx_m1 609 (by decide +kernel)⟩, ks_FS_isColor⟩
theorem sq_LA_35 : fx_wV "FrameSwapperLaw" 35 6 mq_FS_fill 0 := ⟨⟨kc_FS_fill, kn_FS, ⟨by decide, by decide⟩, by decide +kernel, fx_m1 631 (by decide +kernel)⟩, ki_FS_fill, ke_FS_fill, _, rfl, rfl⟩
theorem sq_FS_133 : fx_wV "FrameSwapper" 133 2 mq_PI_paintOver 2 := ⟨⟨kc_PI_paintOver, kn_PI, ⟨by decide, by decide⟩, by decide +kernel, fx_m1 635 (by decide +kernel)⟩, ki_PI_paintOver, ke_PI_paintOver, _, rfl, rfl⟩
theorem sq_FS_137 : fx_wV "FrameSwapper" 137 0 mq_RE_pixels 1 := ⟨⟨kc_RE_pixels, kn_RE, ⟨by decide, by decide⟩, by decide +kernel, fx_m1 639 (by decide +kernel)⟩, ki_RE_pixels, ke_RE_pixels, _, rfl, rfl⟩
theorem sq_LA_39 : fx_wV "FrameSwapperLaw" 39 8 mq_FS_copy 0 := ⟨⟨kc_FS_copy, kn_FS, ⟨by decide, by decide⟩, by decide +kernel, fx_m1 646 (by decide +kernel)⟩, ki_FS_copy, ke_FS_copy, _, rfl, rfl⟩
theorem sq_FS_142 : fx_wV "FrameSwapper" 142 2 mq_RE_shift 1 := ⟨⟨kc_RE_shift, kn_RE, ⟨by decide, by decide⟩, by decide +kernel, fx_m1 650 (by decide +kernel)⟩, ki_RE_shift, ke_RE_shift, _, rfl, rfl⟩
theorem sq_FS_145 : fx_wV "FrameSwapper" 145 1 mq_PI_become 2 := ⟨⟨kc_PI_become, kn_PI, ⟨by decide, by decide⟩, by decide +kernel, fx_m1 651 (by decide +kernel)⟩, ki_PI_become, ke_PI_become, _, rfl, rfl⟩
theorem sq_FS_149 : fx_wV "FrameSwapper" 149 2 mq_PI_layDown 2 := ⟨⟨kc_PI_layDown, kn_PI, ⟨by decide, by decide⟩, by decide +kernel, fx_m1 656 (by decide +kernel)⟩, ki_PI_layDown, ke_PI_layDown, _, rfl, rfl⟩
theorem sq_PI_64 : Cond.methodLink "FrameSwapper$Picture" 64 ⟨"java/lang/System", "arraycopy", "(Ljava/lang/Object;ILjava/lang/Object;II)V"⟩ ∈ fx_tb := fx_m1 655 (by decide +kernel)
theorem sq_PI_85 : fx_wV "FrameSwapper$Picture" 85 2 mq_PI_colorAt 2 := ⟨⟨kc_PI_colorAt, kn_PI, ⟨by decide, by decide⟩, by decide +kernel, fx_m1 660 (by decide +kernel)⟩, ki_PI_colorAt, ke_PI_colorAt, _, rfl, rfl⟩
theorem sq_LA_43 : fx_wV "FrameSwapperLaw" 43 1 mq_FS_commit 0 := ⟨⟨kc_FS_commit, kn_FS, ⟨by decide, by decide⟩, by decide +kernel, fx_m1 664 (by decide +kernel)⟩, ki_FS_commit, ke_FS_commit, _, rfl, rfl⟩
theorem sq_FS_159 : fx_wV "FrameSwapper" 159 1 mq_DE_commitAll 4 := ⟨⟨kc_DE_commitAll, kn_DE, ⟨by decide, by decide⟩, by decide +kernel, fx_m1 668 (by decide +kernel)⟩, ki_DE_commitAll, ke_DE_commitAll, _, rfl, rfl⟩
theorem sq_DE_55 : fx_wV "FrameSwapper$Desk" 55 0 mq_PL_sort 3 := ⟨⟨kc_PL_sort, kn_PL, ⟨by decide, by decide⟩, by decide +kernel, fx_m1 673 (by decide +kernel)⟩, ki_PL_sort, ke_PL_sort, _, rfl, rfl⟩
theorem sq_DE_51 : fx_wV "FrameSwapper$Desk" 51 1 mq_PI_become 2 := ⟨⟨kc_PI_become, kn_PI, ⟨by decide, by decide⟩, by decide +kernel, fx_m1 672 (by decide +kernel)⟩, ki_PI_become, ke_PI_become, _, rfl, rfl⟩
theorem sq_LA_47 : fx_wV "FrameSwapperLaw" 47 1 mq_FS_draw 0 := ⟨⟨kc_FS_draw, kn_FS, ⟨by decide, by decide⟩, by decide +kernel, fx_m1 680 (by decide +kernel)⟩, ki_FS_draw, ke_FS_draw, _, rfl, rfl⟩
theorem sq_FS_170 : fx_wV "FrameSwapper" 170 1 mq_CO_makeSteps 8 := ⟨⟨kc_CO_makeSteps, kn_CO, ⟨by decide, by decide⟩, by decide +kernel, fx_m1 772 (by decide +kernel)⟩, ki_CO_makeSteps, ke_CO_makeSteps, _, rfl, rfl⟩
theorem sq_FS_166 : fx_wV "FrameSwapper" 166 1 mq_CO_begin 8 := ⟨⟨kc_CO_begin, kn_CO, ⟨by decide, by decide⟩, by decide +kernel, fx_m1 684 (by decide +kernel)⟩, ki_CO_begin, ke_CO_begin, _, rfl, rfl⟩
theorem sq_CO_50 : fx_wV "FrameSwapper$Composer" 50 0 mq_CO_rememberBefore 8 := ⟨⟨kc_CO_rememberBefore, kn_CO, ⟨by decide, by decide⟩, by decide +kernel, fx_m1 688 (by decide +kernel)⟩, ki_CO_rememberBefore, ke_CO_rememberBefore, _, rfl, rfl⟩
theorem sq_CO_58 : fx_wV "FrameSwapper$Composer" 58 1 mq_PL_become 3 := ⟨⟨kc_PL_become, kn_PL, ⟨by decide, by decide⟩, by decide +kernel, fx_m1 697 (by decide +kernel)⟩, ki_PL_become, ke_PL_become, _, rfl, rfl⟩
theorem sq_CO_68 : fx_wV "FrameSwapper$Composer" 68 1 mq_PN_choose 7 := ⟨⟨kc_PN_choose, kn_PN, ⟨by decide, by decide⟩, by decide +kernel, fx_m1 703 (by decide +kernel)⟩, ki_PN_choose, ke_PN_choose, _, rfl, rfl⟩
theorem sq_CO_71 : fx_wV "FrameSwapper$Composer" 71 1 mq_CO_noteChanges 8 := ⟨⟨kc_CO_noteChanges, kn_CO, ⟨by decide, by decide⟩, by decide +kernel, fx_m1 726 (by decide +kernel)⟩, ki_CO_noteChanges, ke_CO_noteChanges, _, rfl, rfl⟩
theorem sq_CO_75 : fx_wV "FrameSwapper$Composer" 75 0 mq_DE_allTaken 4 := ⟨⟨kc_DE_allTaken, kn_DE, ⟨by decide, by decide⟩, by decide +kernel, fx_m1 764 (by decide +kernel)⟩, ki_DE_allTaken, ke_DE_allTaken, _, rfl, rfl⟩
theorem sq_CO_78 : fx_wV "FrameSwapper$Composer" 78 1 mq_CO_startHole 8 := ⟨⟨kc_CO_startHole, kn_CO, ⟨by decide, by decide⟩, by decide +kernel, fx_m1 768 (by decide +kernel)⟩, ki_CO_startHole, ke_CO_startHole, _, rfl, rfl⟩
theorem sq_CO_82 : fx_wV "FrameSwapper$Composer" 82 1 mq_PN_has 7 := ⟨⟨kc_PN_has, kn_PN, ⟨by decide, by decide⟩, by decide +kernel, fx_m1 692 (by decide +kernel)⟩, ki_PN_has, ke_PN_has, _, rfl, rfl⟩
theorem sq_CO_96 : fx_wV "FrameSwapper$Composer" 96 1 mq_RE_become 1 := ⟨⟨kc_RE_become, kn_RE, ⟨by decide, by decide⟩, by decide +kernel, fx_m1 696 (by decide +kernel)⟩, ki_RE_become, ke_RE_become, _, rfl, rfl⟩
theorem sq_PL_37 : fx_wV "FrameSwapper$Pile" 37 0 mq_PL_sort 3 := ⟨⟨kc_PL_sort, kn_PL, ⟨by decide, by decide⟩, by decide +kernel, fx_m1 702 (by decide +kernel)⟩, ki_PL_sort, ke_PL_sort, _, rfl, rfl⟩
theorem sq_PL_33 : fx_wV "FrameSwapper$Pile" 33 1 mq_PI_become 2 := ⟨⟨kc_PI_become, kn_PI, ⟨by decide, by decide⟩, by decide +kernel, fx_m1 701 (by decide +kernel)⟩, ki_PI_become, ke_PI_become, _, rfl, rfl⟩
theorem sq_PN_37 : fx_wS "FrameSwapper$Planes" 37 2 mq_AR_fill := ⟨⟨kc_AR_fill, kn_AR, ⟨by decide, by decide⟩, by decide +kernel, fx_m1 707 (by decide +kernel)⟩, ks_AR_fill⟩
theorem sq_PN_49 : fx_wV "FrameSwapper$Planes" 49 2 mq_PN_isFit 7 := ⟨⟨kc_PN_isFit, kn_PN, ⟨by decide, by decide⟩, by decide +kernel, fx_m1 708 (by decide +kernel)⟩, ki_PN_isFit, ke_PN_isFit, _, rfl, rfl⟩
theorem sq_PN_60 : fx_wV "FrameSwapper$Planes" 60 3 mq_PN_give 7 := ⟨⟨kc_PN_give, kn_PN, ⟨by decide, by decide⟩, by decide +kernel, fx_m1 721 (by decide +kernel)⟩, ki_PN_give, ke_PN_give, _, rfl, rfl⟩
theorem sq_PN_72 : fx_wV "FrameSwapper$Planes" 72 0 mq_RE_isEmpty 1 := ⟨⟨kc_RE_isEmpty, kn_RE, ⟨by decide, by decide⟩, by decide +kernel, fx_m1 712 (by decide +kernel)⟩, ki_RE_isEmpty, ke_RE_isEmpty, _, rfl, rfl⟩
theorem sq_PN_76 : fx_wV "FrameSwapper$Planes" 76 0 mq_RE_pixels 1 := ⟨⟨kc_RE_pixels, kn_RE, ⟨by decide, by decide⟩, by decide +kernel, fx_m1 716 (by decide +kernel)⟩, ki_RE_pixels, ke_RE_pixels, _, rfl, rfl⟩
theorem sq_PN_80 : fx_wV "FrameSwapper$Planes" 80 1 mq_RE_meets 1 := ⟨⟨kc_RE_meets, kn_RE, ⟨by decide, by decide⟩, by decide +kernel, fx_m1 717 (by decide +kernel)⟩, ki_RE_meets, ke_RE_meets, _, rfl, rfl⟩
theorem sq_PN_96 : fx_wV "FrameSwapper$Planes" 96 2 mq_PI_colorAt 2 := ⟨⟨kc_PI_colorAt, kn_PI, ⟨by decide, by decide⟩, by decide +kernel, fx_m1 725 (by decide +kernel)⟩, ki_PI_colorAt, ke_PI_colorAt, _, rfl, rfl⟩
theorem sq_CO_99 : fx_wV "FrameSwapper$Composer" 99 1 mq_DE_isWaiting 4 := ⟨⟨kc_DE_isWaiting, kn_DE, ⟨by decide, by decide⟩, by decide +kernel, fx_m1 730 (by decide +kernel)⟩, ki_DE_isWaiting, ke_DE_isWaiting, _, rfl, rfl⟩
theorem sq_CO_106 : fx_wV "FrameSwapper$Composer" 106 1 mq_MI_add 5 := ⟨⟨kc_MI_add, kn_MI, ⟨by decide, by decide⟩, by decide +kernel, fx_m1 734 (by decide +kernel)⟩, ki_MI_add, ke_MI_add, _, rfl, rfl⟩
theorem sq_MI_18 : fx_wV "FrameSwapper$Misses" 18 0 mq_RE_isEmpty 1 := ⟨⟨kc_RE_isEmpty, kn_RE, ⟨by decide, by decide⟩, by decide +kernel, fx_m1 738 (by decide +kernel)⟩, ki_RE_isEmpty, ke_RE_isEmpty, _, rfl, rfl⟩
theorem sq_MI_22 : fx_wV "FrameSwapper$Misses" 22 1 mq_MI_isCovered 5 := ⟨⟨kc_MI_isCovered, kn_MI, ⟨by decide, by decide⟩, by decide +kernel, fx_m1 739 (by decide +kernel)⟩, ki_MI_isCovered, ke_MI_isCovered, _, rfl, rfl⟩
theorem sq_MI_30 : fx_wV "FrameSwapper$Misses" 30 1 mq_RE_become 1 := ⟨⟨kc_RE_become, kn_RE, ⟨by decide, by decide⟩, by decide +kernel, fx_m1 747 (by decide +kernel)⟩, ki_RE_become, ke_RE_become, _, rfl, rfl⟩
theorem sq_MI_34 : fx_wV "FrameSwapper$Misses" 34 0 mq_MI_joinNearest 5 := ⟨⟨kc_MI_joinNearest, kn_MI, ⟨by decide, by decide⟩, by decide +kernel, fx_m1 748 (by decide +kernel)⟩, ki_MI_joinNearest, ke_MI_joinNearest, _, rfl, rfl⟩
theorem sq_MI_37 : fx_wV "FrameSwapper$Misses" 37 1 mq_RE_contains 1 := ⟨⟨kc_RE_contains, kn_RE, ⟨by decide, by decide⟩, by decide +kernel, fx_m1 743 (by decide +kernel)⟩, ki_RE_contains, ke_RE_contains, _, rfl, rfl⟩
theorem sq_MI_40 : fx_wV "FrameSwapper$Misses" 40 1 mq_RE_wasteWith 1 := ⟨⟨kc_RE_wasteWith, kn_RE, ⟨by decide, by decide⟩, by decide +kernel, fx_m1 752 (by decide +kernel)⟩, ki_RE_wasteWith, ke_RE_wasteWith, _, rfl, rfl⟩
theorem sq_MI_44 : fx_wV "FrameSwapper$Misses" 44 1 mq_RE_growOver 1 := ⟨⟨kc_RE_growOver, kn_RE, ⟨by decide, by decide⟩, by decide +kernel, fx_m1 756 (by decide +kernel)⟩, ki_RE_growOver, ke_RE_growOver, _, rfl, rfl⟩
theorem sq_MI_47 : fx_wV "FrameSwapper$Misses" 47 1 mq_MI_dropAt 5 := ⟨⟨kc_MI_dropAt, kn_MI, ⟨by decide, by decide⟩, by decide +kernel, fx_m1 760 (by decide +kernel)⟩, ki_MI_dropAt, ke_MI_dropAt, _, rfl, rfl⟩
theorem sq_CO_120 : fx_wV "FrameSwapper$Composer" 120 0 mq_CO_makeStep 8 := ⟨⟨kc_CO_makeStep, kn_CO, ⟨by decide, by decide⟩, by decide +kernel, fx_m1 776 (by decide +kernel)⟩, ki_CO_makeStep, ke_CO_makeStep, _, rfl, rfl⟩
theorem sq_CO_133 : fx_wV "FrameSwapper$Composer" 133 2 mq_ME_paint 6 := ⟨⟨kc_ME_paint, kn_ME, ⟨by decide, by decide⟩, by decide +kernel, fx_m1 784 (by decide +kernel)⟩, ki_ME_paint, ke_ME_paint, _, rfl, rfl⟩
theorem sq_CO_137 : fx_wV "FrameSwapper$Composer" 137 1 mq_CO_nextLevel 8 := ⟨⟨kc_CO_nextLevel, kn_CO, ⟨by decide, by decide⟩, by decide +kernel, fx_m1 791 (by decide +kernel)⟩, ki_CO_nextLevel, ke_CO_nextLevel, _, rfl, rfl⟩
theorem sq_CO_126 : fx_wV "FrameSwapper$Composer" 126 1 mq_ME_blacken 6 := ⟨⟨kc_ME_blacken, kn_ME, ⟨by decide, by decide⟩, by decide +kernel, fx_m1 780 (by decide +kernel)⟩, ki_ME_blacken, ke_ME_blacken, _, rfl, rfl⟩
theorem sq_ME_43 : fx_wV "FrameSwapper$Memory" 43 2 mq_RE_has 1 := ⟨⟨kc_RE_has, kn_RE, ⟨by decide, by decide⟩, by decide +kernel, fx_m1 788 (by decide +kernel)⟩, ki_RE_has, ke_RE_has, _, rfl, rfl⟩
theorem sq_ME_47 : fx_wV "FrameSwapper$Memory" 47 2 mq_PI_colorAt 2 := ⟨⟨kc_PI_colorAt, kn_PI, ⟨by decide, by decide⟩, by decide +kernel, fx_m1 789 (by decide +kernel)⟩, ki_PI_colorAt, ke_PI_colorAt, _, rfl, rfl⟩
theorem sq_ME_54 : fx_wSN "FrameSwapper$Memory" 54 3 mq_FS_mix "FrameSwapper" := ⟨⟨kc_FS_mix, kn_FS, ⟨by decide, by decide⟩, by decide +kernel, fx_m1 790 (by decide +kernel)⟩, ks_FS_mix⟩
theorem sq_CO_144 : fx_wV "FrameSwapper$Composer" 144 1 mq_RE_meets 1 := ⟨⟨kc_RE_meets, kn_RE, ⟨by decide, by decide⟩, by decide +kernel, fx_m1 795 (by decide +kernel)⟩, ki_RE_meets, ke_RE_meets, _, rfl, rfl⟩
theorem sq_MO_1 : Cond.methodLink "FrameSwapperModel" 1 ⟨"java/lang/Object", "<init>", "()V"⟩ ∈ fx_tb := fx_m1 801 (by decide +kernel)
theorem sq_MO_129 : fx_wS "FrameSwapperModel" 129 3 mq_MO_within := ⟨⟨kc_MO_within, kn_MO, ⟨by decide, by decide⟩, by decide +kernel, fx_m1 967 (by decide +kernel)⟩, ks_MO_within⟩
theorem sq_MO_133 : fx_wV "FrameSwapperModel" 133 0 mq_MO_freePixels 10 := ⟨⟨kc_MO_freePixels, kn_MO, ⟨by decide, by decide⟩, by decide +kernel, fx_m1 970 (by decide +kernel)⟩, ki_MO_freePixels, ke_MO_freePixels, _, rfl, rfl⟩
theorem sq_MO_137 : fx_wV "FrameSwapperModel" 137 1 mq_MO_hasDraft 10 := ⟨⟨kc_MO_hasDraft, kn_MO, ⟨by decide, by decide⟩, by decide +kernel, fx_m1 978 (by decide +kernel)⟩, ki_MO_hasDraft, ke_MO_hasDraft, _, rfl, rfl⟩
theorem sq_MO_153 : fx_wS "FrameSwapperModel" 153 4 mq_MO_isArea := ⟨⟨kc_MO_isArea, kn_MO, ⟨by decide, by decide⟩, by decide +kernel, fx_m1 990 (by decide +kernel)⟩, ks_MO_isArea⟩
theorem sq_MO_158 : fx_wV "FrameSwapperModel" 158 3 mq_MO_has 10 := ⟨⟨kc_MO_has, kn_MO, ⟨by decide, by decide⟩, by decide +kernel, fx_m1 998 (by decide +kernel)⟩, ki_MO_has, ke_MO_has, _, rfl, rfl⟩
theorem sq_MO_161 : fx_wV "FrameSwapperModel" 161 4 mq_MO_isCopy 10 := ⟨⟨kc_MO_isCopy, kn_MO, ⟨by decide, by decide⟩, by decide +kernel, fx_m1 1010 (by decide +kernel)⟩, ki_MO_isCopy, ke_MO_isCopy, _, rfl, rfl⟩
theorem sq_MO_170 : fx_wV "FrameSwapperModel" 170 2 mq_MO_copyPicture 10 := ⟨⟨kc_MO_copyPicture, kn_MO, ⟨by decide, by decide⟩, by decide +kernel, fx_m1 1018 (by decide +kernel)⟩, ki_MO_copyPicture, ke_MO_copyPicture, _, rfl, rfl⟩
theorem sq_MO_244 : fx_wV "FrameSwapperModel" 244 0 mq_MO_make 10 := ⟨⟨kc_MO_make, kn_MO, ⟨by decide, by decide⟩, by decide +kernel, fx_m1 1083 (by decide +kernel)⟩, ki_MO_make, ke_MO_make, _, rfl, rfl⟩
theorem sq_MO_241 : fx_wV "FrameSwapperModel" 241 0 mq_MO_begin 10 := ⟨⟨kc_MO_begin, kn_MO, ⟨by decide, by decide⟩, by decide +kernel, fx_m1 1026 (by decide +kernel)⟩, ki_MO_begin, ke_MO_begin, _, rfl, rfl⟩
theorem sq_MO_238 : fx_wV "FrameSwapperModel" 238 0 mq_MO_findStep 10 := ⟨⟨kc_MO_findStep, kn_MO, ⟨by decide, by decide⟩, by decide +kernel, fx_m1 1075 (by decide +kernel)⟩, ki_MO_findStep, ke_MO_findStep, _, rfl, rfl⟩
theorem sq_MO_210 : fx_wV "FrameSwapperModel" 210 0 mq_MO_choosePlanes 10 := ⟨⟨kc_MO_choosePlanes, kn_MO, ⟨by decide, by decide⟩, by decide +kernel, fx_m1 1042 (by decide +kernel)⟩, ki_MO_choosePlanes, ke_MO_choosePlanes, _, rfl, rfl⟩
theorem sq_MO_207 : fx_wV "FrameSwapperModel" 207 1 mq_MO_isPlane 10 := ⟨⟨kc_MO_isPlane, kn_MO, ⟨by decide, by decide⟩, by decide +kernel, fx_m1 1038 (by decide +kernel)⟩, ki_MO_isPlane, ke_MO_isPlane, _, rfl, rfl⟩
theorem sq_MO_213 : fx_wV "FrameSwapperModel" 213 0 mq_MO_miss 10 := ⟨⟨kc_MO_miss, kn_MO, ⟨by decide, by decide⟩, by decide +kernel, fx_m1 1054 (by decide +kernel)⟩, ki_MO_miss, ke_MO_miss, _, rfl, rfl⟩
theorem sq_MO_204 : fx_wV "FrameSwapperModel" 204 1 mq_MO_show 10 := ⟨⟨kc_MO_show, kn_MO, ⟨by decide, by decide⟩, by decide +kernel, fx_m1 1030 (by decide +kernel)⟩, ki_MO_show, ke_MO_show, _, rfl, rfl⟩
theorem sq_MO_174 : fx_wV "FrameSwapperModel" 174 4 mq_MO_cut 10 := ⟨⟨kc_MO_cut, kn_MO, ⟨by decide, by decide⟩, by decide +kernel, fx_m1 1034 (by decide +kernel)⟩, ki_MO_cut, ke_MO_cut, _, rfl, rfl⟩
theorem sq_MO_201 : fx_wV "FrameSwapperModel" 201 2 mq_MO_nth 10 := ⟨⟨kc_MO_nth, kn_MO, ⟨by decide, by decide⟩, by decide +kernel, fx_m1 1046 (by decide +kernel)⟩, ki_MO_nth, ke_MO_nth, _, rfl, rfl⟩
theorem sq_MO_178 : fx_wV "FrameSwapperModel" 178 2 mq_MO_isAbove 10 := ⟨⟨kc_MO_isAbove, kn_MO, ⟨by decide, by decide⟩, by decide +kernel, fx_m1 1050 (by decide +kernel)⟩, ki_MO_isAbove, ke_MO_isAbove, _, rfl, rfl⟩
theorem sq_MO_197 : fx_wV "FrameSwapperModel" 197 1 mq_MO_join 10 := ⟨⟨kc_MO_join, kn_MO, ⟨by decide, by decide⟩, by decide +kernel, fx_m1 1062 (by decide +kernel)⟩, ki_MO_join, ke_MO_join, _, rfl, rfl⟩
theorem sq_MO_194 : fx_wV "FrameSwapperModel" 194 2 mq_MO_lies 10 := ⟨⟨kc_MO_lies, kn_MO, ⟨by decide, by decide⟩, by decide +kernel, fx_m1 1058 (by decide +kernel)⟩, ki_MO_lies, ke_MO_lies, _, rfl, rfl⟩
theorem sq_MO_187 : fx_wV "FrameSwapperModel" 187 2 mq_MO_hullWide 10 := ⟨⟨kc_MO_hullWide, kn_MO, ⟨by decide, by decide⟩, by decide +kernel, fx_m1 1067 (by decide +kernel)⟩, ki_MO_hullWide, ke_MO_hullWide, _, rfl, rfl⟩
theorem sq_MO_191 : fx_wV "FrameSwapperModel" 191 2 mq_MO_hullHigh 10 := ⟨⟨kc_MO_hullHigh, kn_MO, ⟨by decide, by decide⟩, by decide +kernel, fx_m1 1071 (by decide +kernel)⟩, ki_MO_hullHigh, ke_MO_hullHigh, _, rfl, rfl⟩
theorem sq_MO_232 : fx_wV "FrameSwapperModel" 232 1 mq_MO_meet 10 := ⟨⟨kc_MO_meet, kn_MO, ⟨by decide, by decide⟩, by decide +kernel, fx_m1 1079 (by decide +kernel)⟩, ki_MO_meet, ke_MO_meet, _, rfl, rfl⟩
theorem sq_MO_235 : fx_wV "FrameSwapperModel" 235 1 mq_MO_paint 10 := ⟨⟨kc_MO_paint, kn_MO, ⟨by decide, by decide⟩, by decide +kernel, fx_m1 1087 (by decide +kernel)⟩, ki_MO_paint, ke_MO_paint, _, rfl, rfl⟩
theorem sq_MO_225 : fx_wV "FrameSwapperModel" 225 3 mq_MO_pixelOf 10 := ⟨⟨kc_MO_pixelOf, kn_MO, ⟨by decide, by decide⟩, by decide +kernel, fx_m1 1091 (by decide +kernel)⟩, ki_MO_pixelOf, ke_MO_pixelOf, _, rfl, rfl⟩
theorem sq_MO_229 : fx_wS "FrameSwapperModel" 229 3 mq_MO_mixed := ⟨⟨kc_MO_mixed, kn_MO, ⟨by decide, by decide⟩, by decide +kernel, fx_m1 1095 (by decide +kernel)⟩, ks_MO_mixed⟩
theorem sq_MO_182 : fx_wS "FrameSwapperModel" 182 5 mq_MO_part := ⟨⟨kc_MO_part, kn_MO, ⟨by decide, by decide⟩, by decide +kernel, fx_m1 1098 (by decide +kernel)⟩, ks_MO_part⟩
theorem sq_MO_259 : fx_wV "FrameSwapperModel" 259 0 mq_MO_look 10 := ⟨⟨kc_MO_look, kn_MO, ⟨by decide, by decide⟩, by decide +kernel, fx_m1 1105 (by decide +kernel)⟩, ki_MO_look, ke_MO_look, _, rfl, rfl⟩
theorem sq_MO_262 : fx_wV "FrameSwapperModel" 262 0 mq_MO_change 10 := ⟨⟨kc_MO_change, kn_MO, ⟨by decide, by decide⟩, by decide +kernel, fx_m1 1109 (by decide +kernel)⟩, ki_MO_change, ke_MO_change, _, rfl, rfl⟩
theorem sq_MO_265 : fx_wS "FrameSwapperModel" 265 2 mq_MO_isPixel := ⟨⟨kc_MO_isPixel, kn_MO, ⟨by decide, by decide⟩, by decide +kernel, fx_m1 1121 (by decide +kernel)⟩, ks_MO_isPixel⟩
set_option maxRecDepth 20000 in
theorem lq_FS : ∀ w ∈ u_ws Rq_FS Tq_FS 5, w ∈ fx_tb := fx_mU [336, 338, 340, 342, 344] (by decide +kernel)
set_option maxRecDepth 20000 in
theorem lq_RE : ∀ w ∈ u_ws Rq_RE Tq_RE 4, w ∈ fx_tb := fx_mU [75, 77, 79, 81] (by decide +kernel)
set_option maxRecDepth 20000 in
theorem lq_PI : ∀ w ∈ u_ws Rq_PI Tq_PI 11, w ∈ fx_tb := fx_mU [117, 119, 121, 123, 125, 127, 129, 131, 133, 135, 137] (by decide +kernel)
set_option maxRecDepth 20000 in
theorem lq_PL : ∀ w ∈ u_ws Rq_PL Tq_PL 3, w ∈ fx_tb := fx_mU [150, 152, 154] (by decide +kernel)
set_option maxRecDepth 20000 in
theorem lq_DE : ∀ w ∈ u_ws Rq_DE Tq_DE 7, w ∈ fx_tb := fx_mU [172, 174, 176, 178, 180, 182, 184] (by decide +kernel)
set_option maxRecDepth 20000 in
theorem lq_MI : ∀ w ∈ u_ws Rq_MI Tq_MI 2, w ∈ fx_tb := fx_mU [239, 241] (by decide +kernel)
set_option maxRecDepth 20000 in
theorem lq_ME : ∀ w ∈ u_ws Rq_ME Tq_ME 2, w ∈ fx_tb := fx_mU [249, 251] (by decide +kernel)
set_option maxRecDepth 20000 in
theorem lq_PN : ∀ w ∈ u_ws Rq_PN Tq_PN 3, w ∈ fx_tb := fx_mU [211, 213, 215] (by decide +kernel)
set_option maxRecDepth 20000 in
theorem lq_CO : ∀ w ∈ u_ws Rq_CO Tq_CO 11, w ∈ fx_tb := fx_mU [272, 274, 276, 278, 280, 282, 284, 286, 288, 290, 292] (by decide +kernel)
set_option maxRecDepth 20000 in
theorem lq_BE : ∀ w ∈ u_ws Rq_BE Tq_BE 6, w ∈ fx_tb := fx_mU [314, 316, 318, 320, 322, 324] (by decide +kernel)
set_option maxRecDepth 20000 in
theorem lq_MO : ∀ w ∈ u_ws Rq_MO Tq_MO 52, w ∈ fx_tb := fx_mU [854, 856, 858, 860, 862, 864, 866, 868, 870, 872, 874, 876, 878, 880, 882, 884, 886, 888, 890, 892, 894, 896, 898, 900, 902, 904, 906, 908, 910, 912, 914, 916, 918, 920, 922, 924, 926, 928, 930, 932, 934, 936, 938, 940, 942, 944, 946, 948, 950, 952, 954, 956] (by decide +kernel)
theorem fp_RE_7 : fx_fw "FrameSwapper$Rectangle" 7 1 0 false := ⟨Rq_RE, Tq_RE, 4, tq_RE, rfl, lq_RE, by decide, fx_m1 55 (by decide +kernel), tq_RE_ok, nq_RE, rfl, fun _ => rfl, by decide, by decide, by decide, by decide⟩
theorem fq_RE_7 : fx_fg "FrameSwapper$Rectangle" 7 1 0 := fx_fg_of fp_RE_7
theorem fp_ME_31 : fx_fw "FrameSwapper$Memory" 31 1 0 false := ⟨Rq_RE, Tq_RE, 4, tq_RE, rfl, lq_RE, by decide, fx_m1 56 (by decide +kernel), tq_RE_ok, nq_RE, rfl, (by decide), by decide, by decide, by decide, by decide⟩
theorem fq_ME_31 : fx_fg "FrameSwapper$Memory" 31 1 0 := fx_fg_of fp_ME_31
theorem fp_PN_90 : fx_fw "FrameSwapper$Planes" 90 1 0 false := ⟨Rq_RE, Tq_RE, 4, tq_RE, rfl, lq_RE, by decide, fx_m1 57 (by decide +kernel), tq_RE_ok, nq_RE, rfl, (by decide), by decide, by decide, by decide, by decide⟩
theorem fq_PN_90 : fx_fg "FrameSwapper$Planes" 90 1 0 := fx_fg_of fp_PN_90
theorem fp_PI_83 : fx_fw "FrameSwapper$Picture" 83 1 0 false := ⟨Rq_RE, Tq_RE, 4, tq_RE, rfl, lq_RE, by decide, fx_m1 58 (by decide +kernel), tq_RE_ok, nq_RE, rfl, (by decide), by decide, by decide, by decide, by decide⟩
theorem fq_PI_83 : fx_fg "FrameSwapper$Picture" 83 1 0 := fx_fg_of fp_PI_83
theorem fp_FS_247 : fx_fw "FrameSwapper" 247 1 0 false := ⟨Rq_RE, Tq_RE, 4, tq_RE, rfl, lq_RE, by decide, fx_m1 59 (by decide +kernel), tq_RE_ok, nq_RE, rfl, (by decide), by decide, by decide, by decide, by decide⟩
theorem fq_FS_247 : fx_fg "FrameSwapper" 247 1 0 := fx_fg_of fp_FS_247
theorem fp_ME_22 : fx_fw "FrameSwapper$Memory" 22 1 1 false := ⟨Rq_RE, Tq_RE, 4, tq_RE, rfl, lq_RE, by decide, fx_m1 60 (by decide +kernel), tq_RE_ok, nq_RE, rfl, (by decide), by decide, by decide, by decide, by decide⟩
theorem fq_ME_22 : fx_fg "FrameSwapper$Memory" 22 1 1 := fx_fg_of fp_ME_22
theorem fp_RE_13 : fx_fw "FrameSwapper$Rectangle" 13 1 1 false := ⟨Rq_RE, Tq_RE, 4, tq_RE, rfl, lq_RE, by decide, fx_m1 61 (by decide +kernel), tq_RE_ok, nq_RE, rfl, fun _ => rfl, by decide, by decide, by decide, by decide⟩
theorem fq_RE_13 : fx_fg "FrameSwapper$Rectangle" 13 1 1 := fx_fg_of fp_RE_13
theorem fp_PN_84 : fx_fw "FrameSwapper$Planes" 84 1 1 false := ⟨Rq_RE, Tq_RE, 4, tq_RE, rfl, lq_RE, by decide, fx_m1 62 (by decide +kernel), tq_RE_ok, nq_RE, rfl, (by decide), by decide, by decide, by decide, by decide⟩
theorem fq_PN_84 : fx_fg "FrameSwapper$Planes" 84 1 1 := fx_fg_of fp_PN_84
theorem fp_PI_81 : fx_fw "FrameSwapper$Picture" 81 1 1 false := ⟨Rq_RE, Tq_RE, 4, tq_RE, rfl, lq_RE, by decide, fx_m1 63 (by decide +kernel), tq_RE_ok, nq_RE, rfl, (by decide), by decide, by decide, by decide, by decide⟩
theorem fq_PI_81 : fx_fg "FrameSwapper$Picture" 81 1 1 := fx_fg_of fp_PI_81
theorem fp_FS_248 : fx_fw "FrameSwapper" 248 1 1 false := ⟨Rq_RE, Tq_RE, 4, tq_RE, rfl, lq_RE, by decide, fx_m1 64 (by decide +kernel), tq_RE_ok, nq_RE, rfl, (by decide), by decide, by decide, by decide, by decide⟩
theorem fq_FS_248 : fx_fg "FrameSwapper" 248 1 1 := fx_fg_of fp_FS_248
theorem fp_RE_16 : fx_fw "FrameSwapper$Rectangle" 16 1 2 false := ⟨Rq_RE, Tq_RE, 4, tq_RE, rfl, lq_RE, by decide, fx_m1 65 (by decide +kernel), tq_RE_ok, nq_RE, rfl, fun _ => rfl, by decide, by decide, by decide, by decide⟩
theorem fq_RE_16 : fx_fg "FrameSwapper$Rectangle" 16 1 2 := fx_fg_of fp_RE_16
theorem fp_ME_34 : fx_fw "FrameSwapper$Memory" 34 1 2 false := ⟨Rq_RE, Tq_RE, 4, tq_RE, rfl, lq_RE, by decide, fx_m1 66 (by decide +kernel), tq_RE_ok, nq_RE, rfl, (by decide), by decide, by decide, by decide, by decide⟩
theorem fq_ME_34 : fx_fg "FrameSwapper$Memory" 34 1 2 := fx_fg_of fp_ME_34
theorem fp_PN_93 : fx_fw "FrameSwapper$Planes" 93 1 2 false := ⟨Rq_RE, Tq_RE, 4, tq_RE, rfl, lq_RE, by decide, fx_m1 67 (by decide +kernel), tq_RE_ok, nq_RE, rfl, (by decide), by decide, by decide, by decide, by decide⟩
theorem fq_PN_93 : fx_fg "FrameSwapper$Planes" 93 1 2 := fx_fg_of fp_PN_93
theorem fp_PI_84 : fx_fw "FrameSwapper$Picture" 84 1 2 false := ⟨Rq_RE, Tq_RE, 4, tq_RE, rfl, lq_RE, by decide, fx_m1 68 (by decide +kernel), tq_RE_ok, nq_RE, rfl, (by decide), by decide, by decide, by decide, by decide⟩
theorem fq_PI_84 : fx_fg "FrameSwapper$Picture" 84 1 2 := fx_fg_of fp_PI_84
theorem fp_FS_249 : fx_fw "FrameSwapper" 249 1 2 false := ⟨Rq_RE, Tq_RE, 4, tq_RE, rfl, lq_RE, by decide, fx_m1 69 (by decide +kernel), tq_RE_ok, nq_RE, rfl, (by decide), by decide, by decide, by decide, by decide⟩
theorem fq_FS_249 : fx_fg "FrameSwapper" 249 1 2 := fx_fg_of fp_FS_249
theorem fp_ME_28 : fx_fw "FrameSwapper$Memory" 28 1 3 false := ⟨Rq_RE, Tq_RE, 4, tq_RE, rfl, lq_RE, by decide, fx_m1 70 (by decide +kernel), tq_RE_ok, nq_RE, rfl, (by decide), by decide, by decide, by decide, by decide⟩
theorem fq_ME_28 : fx_fg "FrameSwapper$Memory" 28 1 3 := fx_fg_of fp_ME_28
theorem fp_RE_19 : fx_fw "FrameSwapper$Rectangle" 19 1 3 false := ⟨Rq_RE, Tq_RE, 4, tq_RE, rfl, lq_RE, by decide, fx_m1 71 (by decide +kernel), tq_RE_ok, nq_RE, rfl, fun _ => rfl, by decide, by decide, by decide, by decide⟩
theorem fq_RE_19 : fx_fg "FrameSwapper$Rectangle" 19 1 3 := fx_fg_of fp_RE_19
theorem fp_PN_87 : fx_fw "FrameSwapper$Planes" 87 1 3 false := ⟨Rq_RE, Tq_RE, 4, tq_RE, rfl, lq_RE, by decide, fx_m1 72 (by decide +kernel), tq_RE_ok, nq_RE, rfl, (by decide), by decide, by decide, by decide, by decide⟩
theorem fq_PN_87 : fx_fg "FrameSwapper$Planes" 87 1 3 := fx_fg_of fp_PN_87
theorem fp_PI_82 : fx_fw "FrameSwapper$Picture" 82 1 3 false := ⟨Rq_RE, Tq_RE, 4, tq_RE, rfl, lq_RE, by decide, fx_m1 73 (by decide +kernel), tq_RE_ok, nq_RE, rfl, (by decide), by decide, by decide, by decide, by decide⟩
theorem fq_PI_82 : fx_fg "FrameSwapper$Picture" 82 1 3 := fx_fg_of fp_PI_82
theorem fp_FS_250 : fx_fw "FrameSwapper" 250 1 3 false := ⟨Rq_RE, Tq_RE, 4, tq_RE, rfl, lq_RE, by decide, fx_m1 74 (by decide +kernel), tq_RE_ok, nq_RE, rfl, (by decide), by decide, by decide, by decide, by decide⟩
theorem fq_FS_250 : fx_fg "FrameSwapper" 250 1 3 := fx_fg_of fp_FS_250
theorem fp_PI_25 : fx_fw "FrameSwapper$Picture" 25 2 0 false := ⟨Rq_PI, Tq_PI, 11, tq_PI, rfl, lq_PI, by decide, fx_m1 85 (by decide +kernel), tq_PI_ok, nq_PI, rfl, fun _ => rfl, by decide, by decide, by decide, by decide⟩
theorem fq_PI_25 : fx_fg "FrameSwapper$Picture" 25 2 0 := fx_fg_of fp_PI_25
theorem fp_DE_40 : fx_fw "FrameSwapper$Desk" 40 2 0 false := ⟨Rq_PI, Tq_PI, 11, tq_PI, rfl, lq_PI, by decide, fx_m1 86 (by decide +kernel), tq_PI_ok, nq_PI, rfl, (by decide), by decide, by decide, by decide, by decide⟩
theorem fq_DE_40 : fx_fg "FrameSwapper$Desk" 40 2 0 := fx_fg_of fp_DE_40
theorem fp_PL_26 : fx_fw "FrameSwapper$Pile" 26 2 0 false := ⟨Rq_PI, Tq_PI, 11, tq_PI, rfl, lq_PI, by decide, fx_m1 87 (by decide +kernel), tq_PI_ok, nq_PI, rfl, (by decide), by decide, by decide, by decide, by decide⟩
theorem fq_PL_26 : fx_fg "FrameSwapper$Pile" 26 2 0 := fx_fg_of fp_PL_26
theorem fp_PI_29 : fx_fw "FrameSwapper$Picture" 29 2 1 false := ⟨Rq_PI, Tq_PI, 11, tq_PI, rfl, lq_PI, by decide, fx_m1 88 (by decide +kernel), tq_PI_ok, nq_PI, rfl, fun _ => rfl, by decide, by decide, by decide, by decide⟩
theorem fq_PI_29 : fx_fg "FrameSwapper$Picture" 29 2 1 := fx_fg_of fp_PI_29
theorem fp_FS_113 : fx_fw "FrameSwapper" 113 2 1 false := ⟨Rq_PI, Tq_PI, 11, tq_PI, rfl, lq_PI, by decide, fx_m1 89 (by decide +kernel), tq_PI_ok, nq_PI, rfl, (by decide), by decide, by decide, by decide, by decide⟩
theorem fq_FS_113 : fx_fg "FrameSwapper" 113 2 1 := fx_fg_of fp_FS_113
theorem fp_DE_61 : fx_fw "FrameSwapper$Desk" 61 2 1 false := ⟨Rq_PI, Tq_PI, 11, tq_PI, rfl, lq_PI, by decide, fx_m1 90 (by decide +kernel), tq_PI_ok, nq_PI, rfl, (by decide), by decide, by decide, by decide, by decide⟩
theorem fq_DE_61 : fx_fg "FrameSwapper$Desk" 61 2 1 := fx_fg_of fp_DE_61
theorem fp_PI_33 : fx_fw "FrameSwapper$Picture" 33 2 2 false := ⟨Rq_PI, Tq_PI, 11, tq_PI, rfl, lq_PI, by decide, fx_m1 91 (by decide +kernel), tq_PI_ok, nq_PI, rfl, fun _ => rfl, by decide, by decide, by decide, by decide⟩
theorem fq_PI_33 : fx_fg "FrameSwapper$Picture" 33 2 2 := fx_fg_of fp_PI_33
theorem fp_FS_116 : fx_fw "FrameSwapper" 116 2 2 false := ⟨Rq_PI, Tq_PI, 11, tq_PI, rfl, lq_PI, by decide, fx_m1 92 (by decide +kernel), tq_PI_ok, nq_PI, rfl, (by decide), by decide, by decide, by decide, by decide⟩
theorem fq_FS_116 : fx_fg "FrameSwapper" 116 2 2 := fx_fg_of fp_FS_116
theorem fp_DE_64 : fx_fw "FrameSwapper$Desk" 64 2 2 false := ⟨Rq_PI, Tq_PI, 11, tq_PI, rfl, lq_PI, by decide, fx_m1 93 (by decide +kernel), tq_PI_ok, nq_PI, rfl, (by decide), by decide, by decide, by decide, by decide⟩
theorem fq_DE_64 : fx_fg "FrameSwapper$Desk" 64 2 2 := fx_fg_of fp_DE_64
theorem fp_PI_36 : fx_fw "FrameSwapper$Picture" 36 2 3 false := ⟨Rq_PI, Tq_PI, 11, tq_PI, rfl, lq_PI, by decide, fx_m1 94 (by decide +kernel), tq_PI_ok, nq_PI, rfl, fun _ => rfl, by decide, by decide, by decide, by decide⟩
theorem fq_PI_36 : fx_fg "FrameSwapper$Picture" 36 2 3 := fx_fg_of fp_PI_36
theorem fp_FS_84 : fx_fw "FrameSwapper" 84 2 3 false := ⟨Rq_PI, Tq_PI, 11, tq_PI, rfl, lq_PI, by decide, fx_m1 95 (by decide +kernel), tq_PI_ok, nq_PI, rfl, (by decide), by decide, by decide, by decide, by decide⟩
theorem fq_FS_84 : fx_fg "FrameSwapper" 84 2 3 := fx_fg_of fp_FS_84
theorem fp_PI_39 : fx_fw "FrameSwapper$Picture" 39 2 4 false := ⟨Rq_PI, Tq_PI, 11, tq_PI, rfl, lq_PI, by decide, fx_m1 96 (by decide +kernel), tq_PI_ok, nq_PI, rfl, fun _ => rfl, by decide, by decide, by decide, by decide⟩
theorem fq_PI_39 : fx_fg "FrameSwapper$Picture" 39 2 4 := fx_fg_of fp_PI_39
theorem fp_FS_87 : fx_fw "FrameSwapper" 87 2 4 false := ⟨Rq_PI, Tq_PI, 11, tq_PI, rfl, lq_PI, by decide, fx_m1 97 (by decide +kernel), tq_PI_ok, nq_PI, rfl, (by decide), by decide, by decide, by decide, by decide⟩
theorem fq_FS_87 : fx_fg "FrameSwapper" 87 2 4 := fx_fg_of fp_FS_87
theorem fp_PI_42 : fx_fw "FrameSwapper$Picture" 42 2 5 false := ⟨Rq_PI, Tq_PI, 11, tq_PI, rfl, lq_PI, by decide, fx_m1 98 (by decide +kernel), tq_PI_ok, nq_PI, rfl, fun _ => rfl, by decide, by decide, by decide, by decide⟩
theorem fq_PI_42 : fx_fg "FrameSwapper$Picture" 42 2 5 := fx_fg_of fp_PI_42
theorem fp_PL_30 : fx_fw "FrameSwapper$Pile" 30 2 5 false := ⟨Rq_PI, Tq_PI, 11, tq_PI, rfl, lq_PI, by decide, fx_m1 99 (by decide +kernel), tq_PI_ok, nq_PI, rfl, (by decide), by decide, by decide, by decide, by decide⟩
theorem fq_PL_30 : fx_fg "FrameSwapper$Pile" 30 2 5 := fx_fg_of fp_PL_30
theorem fp_FS_90 : fx_fw "FrameSwapper" 90 2 5 false := ⟨Rq_PI, Tq_PI, 11, tq_PI, rfl, lq_PI, by decide, fx_m1 100 (by decide +kernel), tq_PI_ok, nq_PI, rfl, (by decide), by decide, by decide, by decide, by decide⟩
theorem fq_FS_90 : fx_fg "FrameSwapper" 90 2 5 := fx_fg_of fp_FS_90
theorem fp_PI_45 : fx_fw "FrameSwapper$Picture" 45 2 6 false := ⟨Rq_PI, Tq_PI, 11, tq_PI, rfl, lq_PI, by decide, fx_m1 101 (by decide +kernel), tq_PI_ok, nq_PI, rfl, fun _ => rfl, by decide, by decide, by decide, by decide⟩
theorem fq_PI_45 : fx_fg "FrameSwapper$Picture" 45 2 6 := fx_fg_of fp_PI_45
theorem fp_ME_51 : fx_fw "FrameSwapper$Memory" 51 2 6 false := ⟨Rq_PI, Tq_PI, 11, tq_PI, rfl, lq_PI, by decide, fx_m1 102 (by decide +kernel), tq_PI_ok, nq_PI, rfl, (by decide), by decide, by decide, by decide, by decide⟩
theorem fq_ME_51 : fx_fg "FrameSwapper$Memory" 51 2 6 := fx_fg_of fp_ME_51
theorem fp_PL_54 : fx_fw "FrameSwapper$Pile" 54 2 6 false := ⟨Rq_PI, Tq_PI, 11, tq_PI, rfl, lq_PI, by decide, fx_m1 103 (by decide +kernel), tq_PI_ok, nq_PI, rfl, (by decide), by decide, by decide, by decide, by decide⟩
theorem fq_PL_54 : fx_fg "FrameSwapper$Pile" 54 2 6 := fx_fg_of fp_PL_54
theorem fp_FS_93 : fx_fw "FrameSwapper" 93 2 6 false := ⟨Rq_PI, Tq_PI, 11, tq_PI, rfl, lq_PI, by decide, fx_m1 104 (by decide +kernel), tq_PI_ok, nq_PI, rfl, (by decide), by decide, by decide, by decide, by decide⟩
theorem fq_FS_93 : fx_fg "FrameSwapper" 93 2 6 := fx_fg_of fp_FS_93
theorem fp_PN_64 : fx_fw "FrameSwapper$Planes" 64 2 6 false := ⟨Rq_PI, Tq_PI, 11, tq_PI, rfl, lq_PI, by decide, fx_m1 105 (by decide +kernel), tq_PI_ok, nq_PI, rfl, (by decide), by decide, by decide, by decide, by decide⟩
theorem fq_PN_64 : fx_fg "FrameSwapper$Planes" 64 2 6 := fx_fg_of fp_PN_64
theorem fp_PI_48 : fx_fw "FrameSwapper$Picture" 48 2 7 false := ⟨Rq_PI, Tq_PI, 11, tq_PI, rfl, lq_PI, by decide, fx_m1 106 (by decide +kernel), tq_PI_ok, nq_PI, rfl, fun _ => rfl, by decide, by decide, by decide, by decide⟩
theorem fq_PI_48 : fx_fg "FrameSwapper$Picture" 48 2 7 := fx_fg_of fp_PI_48
theorem fp_FS_96 : fx_fw "FrameSwapper" 96 2 7 false := ⟨Rq_PI, Tq_PI, 11, tq_PI, rfl, lq_PI, by decide, fx_m1 107 (by decide +kernel), tq_PI_ok, nq_PI, rfl, (by decide), by decide, by decide, by decide, by decide⟩
theorem fq_FS_96 : fx_fg "FrameSwapper" 96 2 7 := fx_fg_of fp_FS_96
theorem fp_PI_9 : fx_fw "FrameSwapper$Picture" 9 2 8 true := ⟨Rq_PI, Tq_PI, 11, tq_PI, rfl, lq_PI, by decide, fx_m1 108 (by decide +kernel), tq_PI_ok, nq_PI, rfl, fun _ => rfl, by decide, by decide, by decide, by decide⟩
theorem fq_PI_9 : fx_fg "FrameSwapper$Picture" 9 2 8 := fx_fg_of fp_PI_9
theorem fq_FS_129 : fx_fg "FrameSwapper" 129 2 8 := ⟨Rq_PI, Tq_PI, 11, rfl, lq_PI, by decide, fx_m1 109 (by decide +kernel)⟩
theorem fp_PI_18 : fx_fw "FrameSwapper$Picture" 18 2 9 true := ⟨Rq_PI, Tq_PI, 11, tq_PI, rfl, lq_PI, by decide, fx_m1 110 (by decide +kernel), tq_PI_ok, nq_PI, rfl, fun _ => rfl, by decide, by decide, by decide, by decide⟩
theorem fq_PI_18 : fx_fg "FrameSwapper$Picture" 18 2 9 := fx_fg_of fp_PI_18
theorem fq_FS_107 : fx_fg "FrameSwapper" 107 2 9 := ⟨Rq_PI, Tq_PI, 11, rfl, lq_PI, by decide, fx_m1 111 (by decide +kernel)⟩
theorem fp_PI_22 : fx_fw "FrameSwapper$Picture" 22 2 10 true := ⟨Rq_PI, Tq_PI, 11, tq_PI, rfl, lq_PI, by decide, fx_m1 112 (by decide +kernel), tq_PI_ok, nq_PI, rfl, fun _ => rfl, by decide, by decide, by decide, by decide⟩
theorem fq_PI_22 : fx_fg "FrameSwapper$Picture" 22 2 10 := fx_fg_of fp_PI_22
theorem fq_CO_90 : fx_fg "FrameSwapper$Composer" 90 2 10 := ⟨Rq_PI, Tq_PI, 11, rfl, lq_PI, by decide, fx_m1 113 (by decide +kernel)⟩
theorem fq_ME_37 : fx_fg "FrameSwapper$Memory" 37 2 10 := ⟨Rq_PI, Tq_PI, 11, rfl, lq_PI, by decide, fx_m1 114 (by decide +kernel)⟩
theorem fq_PL_40 : fx_fg "FrameSwapper$Pile" 40 2 10 := ⟨Rq_PI, Tq_PI, 11, rfl, lq_PI, by decide, fx_m1 115 (by decide +kernel)⟩
theorem fq_PN_69 : fx_fg "FrameSwapper$Planes" 69 2 10 := ⟨Rq_PI, Tq_PI, 11, rfl, lq_PI, by decide, fx_m1 116 (by decide +kernel)⟩
theorem fp_PL_11 : fx_fw "FrameSwapper$Pile" 11 3 0 true := ⟨Rq_PL, Tq_PL, 3, tq_PL, rfl, lq_PL, by decide, fx_m1 140 (by decide +kernel), tq_PL_ok, nq_PL, rfl, fun _ => rfl, by decide, by decide, by decide, by decide⟩
theorem fq_PL_11 : fx_fg "FrameSwapper$Pile" 11 3 0 := fx_fg_of fp_PL_11
theorem fq_CO_86 : fx_fg "FrameSwapper$Composer" 86 3 0 := ⟨Rq_PL, Tq_PL, 3, rfl, lq_PL, by decide, fx_m1 141 (by decide +kernel)⟩
theorem fq_PN_56 : fx_fg "FrameSwapper$Planes" 56 3 0 := ⟨Rq_PL, Tq_PL, 3, rfl, lq_PL, by decide, fx_m1 142 (by decide +kernel)⟩
theorem fq_DE_48 : fx_fg "FrameSwapper$Desk" 48 3 0 := ⟨Rq_PL, Tq_PL, 3, rfl, lq_PL, by decide, fx_m1 143 (by decide +kernel)⟩
theorem fp_PL_17 : fx_fw "FrameSwapper$Pile" 17 3 1 true := ⟨Rq_PL, Tq_PL, 3, tq_PL, rfl, lq_PL, by decide, fx_m1 144 (by decide +kernel), tq_PL_ok, nq_PL, rfl, fun _ => rfl, by decide, by decide, by decide, by decide⟩
theorem fq_PL_17 : fx_fg "FrameSwapper$Pile" 17 3 1 := fx_fg_of fp_PL_17
theorem fq_PN_53 : fx_fg "FrameSwapper$Planes" 53 3 1 := ⟨Rq_PL, Tq_PL, 3, rfl, lq_PL, by decide, fx_m1 145 (by decide +kernel)⟩
theorem fq_CO_129 : fx_fg "FrameSwapper$Composer" 129 3 1 := ⟨Rq_PL, Tq_PL, 3, rfl, lq_PL, by decide, fx_m1 146 (by decide +kernel)⟩
theorem fp_PL_22 : fx_fw "FrameSwapper$Pile" 22 3 2 false := ⟨Rq_PL, Tq_PL, 3, tq_PL, rfl, lq_PL, by decide, fx_m1 147 (by decide +kernel), tq_PL_ok, nq_PL, rfl, fun _ => rfl, by decide, by decide, by decide, by decide⟩
theorem fq_PL_22 : fx_fg "FrameSwapper$Pile" 22 3 2 := fx_fg_of fp_PL_22
theorem fp_PN_43 : fx_fw "FrameSwapper$Planes" 43 3 2 false := ⟨Rq_PL, Tq_PL, 3, tq_PL, rfl, lq_PL, by decide, fx_m1 148 (by decide +kernel), tq_PL_ok, nq_PL, rfl, (by decide), by decide, by decide, by decide, by decide⟩
theorem fq_PN_43 : fx_fg "FrameSwapper$Planes" 43 3 2 := fx_fg_of fp_PN_43
theorem fp_CO_141 : fx_fw "FrameSwapper$Composer" 141 3 2 false := ⟨Rq_PL, Tq_PL, 3, tq_PL, rfl, lq_PL, by decide, fx_m1 149 (by decide +kernel), tq_PL_ok, nq_PL, rfl, (by decide), by decide, by decide, by decide, by decide⟩
theorem fq_CO_141 : fx_fg "FrameSwapper$Composer" 141 3 2 := fx_fg_of fp_CO_141
theorem fp_DE_11 : fx_fw "FrameSwapper$Desk" 11 4 0 true := ⟨Rq_DE, Tq_DE, 7, tq_DE, rfl, lq_DE, by decide, fx_m1 158 (by decide +kernel), tq_DE_ok, nq_DE, rfl, fun _ => rfl, by decide, by decide, by decide, by decide⟩
theorem fq_DE_11 : fx_fg "FrameSwapper$Desk" 11 4 0 := fx_fg_of fp_DE_11
theorem fq_FS_74 : fx_fg "FrameSwapper" 74 4 0 := ⟨Rq_DE, Tq_DE, 7, rfl, lq_DE, by decide, fx_m1 159 (by decide +kernel)⟩
theorem fp_DE_20 : fx_fw "FrameSwapper$Desk" 20 4 1 true := ⟨Rq_DE, Tq_DE, 7, tq_DE, rfl, lq_DE, by decide, fx_m1 160 (by decide +kernel), tq_DE_ok, nq_DE, rfl, fun _ => rfl, by decide, by decide, by decide, by decide⟩
theorem fq_DE_20 : fx_fg "FrameSwapper$Desk" 20 4 1 := fx_fg_of fp_DE_20
theorem fq_CO_53 : fx_fg "FrameSwapper$Composer" 53 4 1 := ⟨Rq_DE, Tq_DE, 7, rfl, lq_DE, by decide, fx_m1 161 (by decide +kernel)⟩
theorem fq_FS_213 : fx_fg "FrameSwapper" 213 4 1 := ⟨Rq_DE, Tq_DE, 7, rfl, lq_DE, by decide, fx_m1 162 (by decide +kernel)⟩
theorem fp_DE_24 : fx_fw "FrameSwapper$Desk" 24 4 2 true := ⟨Rq_DE, Tq_DE, 7, tq_DE, rfl, lq_DE, by decide, fx_m1 163 (by decide +kernel), tq_DE_ok, nq_DE, rfl, fun _ => rfl, by decide, by decide, by decide, by decide⟩
theorem fq_DE_24 : fx_fg "FrameSwapper$Desk" 24 4 2 := fx_fg_of fp_DE_24
theorem fq_FS_139 : fx_fg "FrameSwapper" 139 4 2 := ⟨Rq_DE, Tq_DE, 7, rfl, lq_DE, by decide, fx_m1 164 (by decide +kernel)⟩
theorem fp_DE_28 : fx_fw "FrameSwapper$Desk" 28 4 3 true := ⟨Rq_DE, Tq_DE, 7, tq_DE, rfl, lq_DE, by decide, fx_m1 165 (by decide +kernel), tq_DE_ok, nq_DE, rfl, fun _ => rfl, by decide, by decide, by decide, by decide⟩
theorem fq_DE_28 : fx_fg "FrameSwapper$Desk" 28 4 3 := fx_fg_of fp_DE_28
theorem fp_DE_32 : fx_fw "FrameSwapper$Desk" 32 4 4 true := ⟨Rq_DE, Tq_DE, 7, tq_DE, rfl, lq_DE, by decide, fx_m1 166 (by decide +kernel), tq_DE_ok, nq_DE, rfl, fun _ => rfl, by decide, by decide, by decide, by decide⟩
theorem fq_DE_32 : fx_fg "FrameSwapper$Desk" 32 4 4 := fx_fg_of fp_DE_32
theorem fp_CO_62 : fx_fw "FrameSwapper$Composer" 62 4 5 false := ⟨Rq_DE, Tq_DE, 7, tq_DE, rfl, lq_DE, by decide, fx_m1 167 (by decide +kernel), tq_DE_ok, nq_DE, rfl, (by decide), by decide, by decide, by decide, by decide⟩
theorem fq_CO_62 : fx_fg "FrameSwapper$Composer" 62 4 5 := fx_fg_of fp_CO_62
theorem fp_DE_58 : fx_fw "FrameSwapper$Desk" 58 4 5 false := ⟨Rq_DE, Tq_DE, 7, tq_DE, rfl, lq_DE, by decide, fx_m1 168 (by decide +kernel), tq_DE_ok, nq_DE, rfl, fun _ => rfl, by decide, by decide, by decide, by decide⟩
theorem fq_DE_58 : fx_fg "FrameSwapper$Desk" 58 4 5 := fx_fg_of fp_DE_58
theorem fp_FS_153 : fx_fw "FrameSwapper" 153 4 5 false := ⟨Rq_DE, Tq_DE, 7, tq_DE, rfl, lq_DE, by decide, fx_m1 169 (by decide +kernel), tq_DE_ok, nq_DE, rfl, (by decide), by decide, by decide, by decide, by decide⟩
theorem fq_FS_153 : fx_fg "FrameSwapper" 153 4 5 := fx_fg_of fp_FS_153
theorem fp_DE_35 : fx_fw "FrameSwapper$Desk" 35 4 6 false := ⟨Rq_DE, Tq_DE, 7, tq_DE, rfl, lq_DE, by decide, fx_m1 170 (by decide +kernel), tq_DE_ok, nq_DE, rfl, fun _ => rfl, by decide, by decide, by decide, by decide⟩
theorem fq_DE_35 : fx_fg "FrameSwapper$Desk" 35 4 6 := fx_fg_of fp_DE_35
theorem fp_FS_60 : fx_fw "FrameSwapper" 60 4 6 false := ⟨Rq_DE, Tq_DE, 7, tq_DE, rfl, lq_DE, by decide, fx_m1 171 (by decide +kernel), tq_DE_ok, nq_DE, rfl, (by decide), by decide, by decide, by decide, by decide⟩
theorem fq_FS_60 : fx_fg "FrameSwapper" 60 4 6 := fx_fg_of fp_FS_60
theorem fp_PN_9 : fx_fw "FrameSwapper$Planes" 9 7 0 true := ⟨Rq_PN, Tq_PN, 3, tq_PN, rfl, lq_PN, by decide, fx_m1 207 (by decide +kernel), tq_PN_ok, nq_PN, rfl, fun _ => rfl, by decide, by decide, by decide, by decide⟩
theorem fq_PN_9 : fx_fg "FrameSwapper$Planes" 9 7 0 := fx_fg_of fp_PN_9
theorem fq_FS_251 : fx_fg "FrameSwapper" 251 7 0 := ⟨Rq_PN, Tq_PN, 3, rfl, lq_PN, by decide, fx_m1 208 (by decide +kernel)⟩
theorem fp_PN_18 : fx_fw "FrameSwapper$Planes" 18 7 1 true := ⟨Rq_PN, Tq_PN, 3, tq_PN, rfl, lq_PN, by decide, fx_m1 209 (by decide +kernel), tq_PN_ok, nq_PN, rfl, fun _ => rfl, by decide, by decide, by decide, by decide⟩
theorem fq_PN_18 : fx_fg "FrameSwapper$Planes" 18 7 1 := fx_fg_of fp_PN_18
theorem fp_PN_24 : fx_fw "FrameSwapper$Planes" 24 7 2 true := ⟨Rq_PN, Tq_PN, 3, tq_PN, rfl, lq_PN, by decide, fx_m1 210 (by decide +kernel), tq_PN_ok, nq_PN, rfl, fun _ => rfl, by decide, by decide, by decide, by decide⟩
theorem fq_PN_24 : fx_fg "FrameSwapper$Planes" 24 7 2 := fx_fg_of fp_PN_24
theorem fp_MI_11 : fx_fw "FrameSwapper$Misses" 11 5 0 true := ⟨Rq_MI, Tq_MI, 2, tq_MI, rfl, lq_MI, by decide, fx_m1 233 (by decide +kernel), tq_MI_ok, nq_MI, rfl, fun _ => rfl, by decide, by decide, by decide, by decide⟩
theorem fq_MI_11 : fx_fg "FrameSwapper$Misses" 11 5 0 := fx_fg_of fp_MI_11
theorem fq_CO_123 : fx_fg "FrameSwapper$Composer" 123 5 0 := ⟨Rq_MI, Tq_MI, 2, rfl, lq_MI, by decide, fx_m1 234 (by decide +kernel)⟩
theorem fq_FS_243 : fx_fg "FrameSwapper" 243 5 0 := ⟨Rq_MI, Tq_MI, 2, rfl, lq_MI, by decide, fx_m1 235 (by decide +kernel)⟩
theorem fp_MI_26 : fx_fw "FrameSwapper$Misses" 26 5 1 false := ⟨Rq_MI, Tq_MI, 2, tq_MI, rfl, lq_MI, by decide, fx_m1 236 (by decide +kernel), tq_MI_ok, nq_MI, rfl, fun _ => rfl, by decide, by decide, by decide, by decide⟩
theorem fq_MI_26 : fx_fg "FrameSwapper$Misses" 26 5 1 := fx_fg_of fp_MI_26
theorem fp_CO_117 : fx_fw "FrameSwapper$Composer" 117 5 1 false := ⟨Rq_MI, Tq_MI, 2, tq_MI, rfl, lq_MI, by decide, fx_m1 237 (by decide +kernel), tq_MI_ok, nq_MI, rfl, (by decide), by decide, by decide, by decide, by decide⟩
theorem fq_CO_117 : fx_fg "FrameSwapper$Composer" 117 5 1 := fx_fg_of fp_CO_117
theorem fp_FS_238 : fx_fw "FrameSwapper" 238 5 1 false := ⟨Rq_MI, Tq_MI, 2, tq_MI, rfl, lq_MI, by decide, fx_m1 238 (by decide +kernel), tq_MI_ok, nq_MI, rfl, (by decide), by decide, by decide, by decide, by decide⟩
theorem fq_FS_238 : fx_fg "FrameSwapper" 238 5 1 := fx_fg_of fp_FS_238
theorem fp_ME_9 : fx_fw "FrameSwapper$Memory" 9 6 0 true := ⟨Rq_ME, Tq_ME, 2, tq_ME, rfl, lq_ME, by decide, fx_m1 244 (by decide +kernel), tq_ME_ok, nq_ME, rfl, fun _ => rfl, by decide, by decide, by decide, by decide⟩
theorem fq_ME_9 : fx_fg "FrameSwapper$Memory" 9 6 0 := fx_fg_of fp_ME_9
theorem fq_BE_29 : fx_fg "FrameSwapper$Beam" 29 6 0 := ⟨Rq_ME, Tq_ME, 2, rfl, lq_ME, by decide, fx_m1 245 (by decide +kernel)⟩
theorem fp_ME_18 : fx_fw "FrameSwapper$Memory" 18 6 1 true := ⟨Rq_ME, Tq_ME, 2, tq_ME, rfl, lq_ME, by decide, fx_m1 246 (by decide +kernel), tq_ME_ok, nq_ME, rfl, fun _ => rfl, by decide, by decide, by decide, by decide⟩
theorem fq_ME_18 : fx_fg "FrameSwapper$Memory" 18 6 1 := fx_fg_of fp_ME_18
theorem fq_CO_102 : fx_fg "FrameSwapper$Composer" 102 6 1 := ⟨Rq_ME, Tq_ME, 2, rfl, lq_ME, by decide, fx_m1 247 (by decide +kernel)⟩
theorem fq_FS_232 : fx_fg "FrameSwapper" 232 6 1 := ⟨Rq_ME, Tq_ME, 2, rfl, lq_ME, by decide, fx_m1 248 (by decide +kernel)⟩
theorem fp_CO_12 : fx_fw "FrameSwapper$Composer" 12 8 0 true := ⟨Rq_CO, Tq_CO, 11, tq_CO, rfl, lq_CO, by decide, fx_m1 255 (by decide +kernel), tq_CO_ok, nq_CO, rfl, fun _ => rfl, by decide, by decide, by decide, by decide⟩
theorem fq_CO_12 : fx_fg "FrameSwapper$Composer" 12 8 0 := fx_fg_of fp_CO_12
theorem fp_CO_21 : fx_fw "FrameSwapper$Composer" 21 8 1 true := ⟨Rq_CO, Tq_CO, 11, tq_CO, rfl, lq_CO, by decide, fx_m1 256 (by decide +kernel), tq_CO_ok, nq_CO, rfl, fun _ => rfl, by decide, by decide, by decide, by decide⟩
theorem fq_CO_21 : fx_fg "FrameSwapper$Composer" 21 8 1 := fx_fg_of fp_CO_21
theorem fq_FS_198 : fx_fg "FrameSwapper" 198 8 1 := ⟨Rq_CO, Tq_CO, 11, rfl, lq_CO, by decide, fx_m1 257 (by decide +kernel)⟩
theorem fp_CO_25 : fx_fw "FrameSwapper$Composer" 25 8 2 true := ⟨Rq_CO, Tq_CO, 11, tq_CO, rfl, lq_CO, by decide, fx_m1 258 (by decide +kernel), tq_CO_ok, nq_CO, rfl, fun _ => rfl, by decide, by decide, by decide, by decide⟩
theorem fq_CO_25 : fx_fg "FrameSwapper$Composer" 25 8 2 := fx_fg_of fp_CO_25
theorem fp_CO_31 : fx_fw "FrameSwapper$Composer" 31 8 3 true := ⟨Rq_CO, Tq_CO, 11, tq_CO, rfl, lq_CO, by decide, fx_m1 259 (by decide +kernel), tq_CO_ok, nq_CO, rfl, fun _ => rfl, by decide, by decide, by decide, by decide⟩
theorem fq_CO_31 : fx_fg "FrameSwapper$Composer" 31 8 3 := fx_fg_of fp_CO_31
theorem fp_CO_38 : fx_fw "FrameSwapper$Composer" 38 8 4 false := ⟨Rq_CO, Tq_CO, 11, tq_CO, rfl, lq_CO, by decide, fx_m1 260 (by decide +kernel), tq_CO_ok, nq_CO, rfl, fun _ => rfl, by decide, by decide, by decide, by decide⟩
theorem fq_CO_38 : fx_fg "FrameSwapper$Composer" 38 8 4 := fx_fg_of fp_CO_38
theorem fp_FS_177 : fx_fw "FrameSwapper" 177 8 4 false := ⟨Rq_CO, Tq_CO, 11, tq_CO, rfl, lq_CO, by decide, fx_m1 261 (by decide +kernel), tq_CO_ok, nq_CO, rfl, (by decide), by decide, by decide, by decide, by decide⟩
theorem fq_FS_177 : fx_fg "FrameSwapper" 177 8 4 := fx_fg_of fp_FS_177
theorem fp_CO_42 : fx_fw "FrameSwapper$Composer" 42 8 5 false := ⟨Rq_CO, Tq_CO, 11, tq_CO, rfl, lq_CO, by decide, fx_m1 262 (by decide +kernel), tq_CO_ok, nq_CO, rfl, fun _ => rfl, by decide, by decide, by decide, by decide⟩
theorem fq_CO_42 : fx_fg "FrameSwapper$Composer" 42 8 5 := fx_fg_of fp_CO_42
theorem fp_FS_229 : fx_fw "FrameSwapper" 229 8 5 false := ⟨Rq_CO, Tq_CO, 11, tq_CO, rfl, lq_CO, by decide, fx_m1 263 (by decide +kernel), tq_CO_ok, nq_CO, rfl, (by decide), by decide, by decide, by decide, by decide⟩
theorem fq_FS_229 : fx_fg "FrameSwapper" 229 8 5 := fx_fg_of fp_FS_229
theorem fp_CO_45 : fx_fw "FrameSwapper$Composer" 45 8 6 false := ⟨Rq_CO, Tq_CO, 11, tq_CO, rfl, lq_CO, by decide, fx_m1 264 (by decide +kernel), tq_CO_ok, nq_CO, rfl, fun _ => rfl, by decide, by decide, by decide, by decide⟩
theorem fq_CO_45 : fx_fg "FrameSwapper$Composer" 45 8 6 := fx_fg_of fp_CO_45
theorem fp_FS_163 : fx_fw "FrameSwapper" 163 8 6 false := ⟨Rq_CO, Tq_CO, 11, tq_CO, rfl, lq_CO, by decide, fx_m1 265 (by decide +kernel), tq_CO_ok, nq_CO, rfl, (by decide), by decide, by decide, by decide, by decide⟩
theorem fq_FS_163 : fx_fg "FrameSwapper" 163 8 6 := fx_fg_of fp_FS_163
theorem fp_CO_65 : fx_fw "FrameSwapper$Composer" 65 8 7 false := ⟨Rq_CO, Tq_CO, 11, tq_CO, rfl, lq_CO, by decide, fx_m1 266 (by decide +kernel), tq_CO_ok, nq_CO, rfl, fun _ => rfl, by decide, by decide, by decide, by decide⟩
theorem fq_CO_65 : fx_fg "FrameSwapper$Composer" 65 8 7 := fx_fg_of fp_CO_65
theorem fp_FS_156 : fx_fw "FrameSwapper" 156 8 7 false := ⟨Rq_CO, Tq_CO, 11, tq_CO, rfl, lq_CO, by decide, fx_m1 267 (by decide +kernel), tq_CO_ok, nq_CO, rfl, (by decide), by decide, by decide, by decide, by decide⟩
theorem fq_FS_156 : fx_fg "FrameSwapper" 156 8 7 := fx_fg_of fp_FS_156
theorem fp_CO_148 : fx_fw "FrameSwapper$Composer" 148 8 8 false := ⟨Rq_CO, Tq_CO, 11, tq_CO, rfl, lq_CO, by decide, fx_m1 268 (by decide +kernel), tq_CO_ok, nq_CO, rfl, fun _ => rfl, by decide, by decide, by decide, by decide⟩
theorem fq_CO_148 : fx_fg "FrameSwapper$Composer" 148 8 8 := fx_fg_of fp_CO_148
theorem fp_FS_185 : fx_fw "FrameSwapper" 185 8 8 false := ⟨Rq_CO, Tq_CO, 11, tq_CO, rfl, lq_CO, by decide, fx_m1 269 (by decide +kernel), tq_CO_ok, nq_CO, rfl, (by decide), by decide, by decide, by decide, by decide⟩
theorem fq_FS_185 : fx_fg "FrameSwapper" 185 8 8 := fx_fg_of fp_FS_185
theorem fp_CO_111 : fx_fw "FrameSwapper$Composer" 111 8 9 false := ⟨Rq_CO, Tq_CO, 11, tq_CO, rfl, lq_CO, by decide, fx_m1 270 (by decide +kernel), tq_CO_ok, nq_CO, rfl, fun _ => rfl, by decide, by decide, by decide, by decide⟩
theorem fq_CO_111 : fx_fg "FrameSwapper$Composer" 111 8 9 := fx_fg_of fp_CO_111
theorem fp_CO_114 : fx_fw "FrameSwapper$Composer" 114 8 10 false := ⟨Rq_CO, Tq_CO, 11, tq_CO, rfl, lq_CO, by decide, fx_m1 271 (by decide +kernel), tq_CO_ok, nq_CO, rfl, fun _ => rfl, by decide, by decide, by decide, by decide⟩
theorem fq_CO_114 : fx_fg "FrameSwapper$Composer" 114 8 10 := fx_fg_of fp_CO_114
theorem fp_BE_12 : fx_fw "FrameSwapper$Beam" 12 9 0 true := ⟨Rq_BE, Tq_BE, 6, tq_BE, rfl, lq_BE, by decide, fx_m1 303 (by decide +kernel), tq_BE_ok, nq_BE, rfl, fun _ => rfl, by decide, by decide, by decide, by decide⟩
theorem fq_BE_12 : fx_fg "FrameSwapper$Beam" 12 9 0 := fx_fg_of fp_BE_12
theorem fq_FS_194 : fx_fg "FrameSwapper" 194 9 0 := ⟨Rq_BE, Tq_BE, 6, rfl, lq_BE, by decide, fx_m1 304 (by decide +kernel)⟩
theorem fp_BE_18 : fx_fw "FrameSwapper$Beam" 18 9 1 true := ⟨Rq_BE, Tq_BE, 6, tq_BE, rfl, lq_BE, by decide, fx_m1 305 (by decide +kernel), tq_BE_ok, nq_BE, rfl, fun _ => rfl, by decide, by decide, by decide, by decide⟩
theorem fq_BE_18 : fx_fg "FrameSwapper$Beam" 18 9 1 := fx_fg_of fp_BE_18
theorem fp_BE_22 : fx_fw "FrameSwapper$Beam" 22 9 2 true := ⟨Rq_BE, Tq_BE, 6, tq_BE, rfl, lq_BE, by decide, fx_m1 306 (by decide +kernel), tq_BE_ok, nq_BE, rfl, fun _ => rfl, by decide, by decide, by decide, by decide⟩
theorem fq_BE_22 : fx_fg "FrameSwapper$Beam" 22 9 2 := fx_fg_of fp_BE_22
theorem fq_FS_210 : fx_fg "FrameSwapper" 210 9 2 := ⟨Rq_BE, Tq_BE, 6, rfl, lq_BE, by decide, fx_m1 307 (by decide +kernel)⟩
theorem fp_BE_25 : fx_fw "FrameSwapper$Beam" 25 9 3 false := ⟨Rq_BE, Tq_BE, 6, tq_BE, rfl, lq_BE, by decide, fx_m1 308 (by decide +kernel), tq_BE_ok, nq_BE, rfl, fun _ => rfl, by decide, by decide, by decide, by decide⟩
theorem fq_BE_25 : fx_fg "FrameSwapper$Beam" 25 9 3 := fx_fg_of fp_BE_25
theorem fp_FS_174 : fx_fw "FrameSwapper" 174 9 3 false := ⟨Rq_BE, Tq_BE, 6, tq_BE, rfl, lq_BE, by decide, fx_m1 309 (by decide +kernel), tq_BE_ok, nq_BE, rfl, (by decide), by decide, by decide, by decide, by decide⟩
theorem fq_FS_174 : fx_fg "FrameSwapper" 174 9 3 := fx_fg_of fp_FS_174
theorem fp_BE_47 : fx_fw "FrameSwapper$Beam" 47 9 4 false := ⟨Rq_BE, Tq_BE, 6, tq_BE, rfl, lq_BE, by decide, fx_m1 310 (by decide +kernel), tq_BE_ok, nq_BE, rfl, fun _ => rfl, by decide, by decide, by decide, by decide⟩
theorem fq_BE_47 : fx_fg "FrameSwapper$Beam" 47 9 4 := fx_fg_of fp_BE_47
theorem fp_FS_223 : fx_fw "FrameSwapper" 223 9 4 false := ⟨Rq_BE, Tq_BE, 6, tq_BE, rfl, lq_BE, by decide, fx_m1 311 (by decide +kernel), tq_BE_ok, nq_BE, rfl, (by decide), by decide, by decide, by decide, by decide⟩
theorem fq_FS_223 : fx_fg "FrameSwapper" 223 9 4 := fx_fg_of fp_FS_223
theorem fp_BE_44 : fx_fw "FrameSwapper$Beam" 44 9 5 false := ⟨Rq_BE, Tq_BE, 6, tq_BE, rfl, lq_BE, by decide, fx_m1 312 (by decide +kernel), tq_BE_ok, nq_BE, rfl, fun _ => rfl, by decide, by decide, by decide, by decide⟩
theorem fq_BE_44 : fx_fg "FrameSwapper$Beam" 44 9 5 := fx_fg_of fp_BE_44
theorem fp_FS_226 : fx_fw "FrameSwapper" 226 9 5 false := ⟨Rq_BE, Tq_BE, 6, tq_BE, rfl, lq_BE, by decide, fx_m1 313 (by decide +kernel), tq_BE_ok, nq_BE, rfl, (by decide), by decide, by decide, by decide, by decide⟩
theorem fq_FS_226 : fx_fg "FrameSwapper" 226 9 5 := fx_fg_of fp_FS_226
theorem fp_FS_10 : fx_fw "FrameSwapper" 10 0 0 true := ⟨Rq_FS, Tq_FS, 5, tq_FS, rfl, lq_FS, by decide, fx_m1 331 (by decide +kernel), tq_FS_ok, nq_FS, rfl, fun _ => rfl, by decide, by decide, by decide, by decide⟩
theorem fq_FS_10 : fx_fg "FrameSwapper" 10 0 0 := fx_fg_of fp_FS_10
theorem fp_FS_19 : fx_fw "FrameSwapper" 19 0 1 true := ⟨Rq_FS, Tq_FS, 5, tq_FS, rfl, lq_FS, by decide, fx_m1 332 (by decide +kernel), tq_FS_ok, nq_FS, rfl, fun _ => rfl, by decide, by decide, by decide, by decide⟩
theorem fq_FS_19 : fx_fg "FrameSwapper" 19 0 1 := fx_fg_of fp_FS_19
theorem fp_FS_26 : fx_fw "FrameSwapper" 26 0 2 true := ⟨Rq_FS, Tq_FS, 5, tq_FS, rfl, lq_FS, by decide, fx_m1 333 (by decide +kernel), tq_FS_ok, nq_FS, rfl, fun _ => rfl, by decide, by decide, by decide, by decide⟩
theorem fq_FS_26 : fx_fg "FrameSwapper" 26 0 2 := fx_fg_of fp_FS_26
theorem fp_FS_33 : fx_fw "FrameSwapper" 33 0 3 true := ⟨Rq_FS, Tq_FS, 5, tq_FS, rfl, lq_FS, by decide, fx_m1 334 (by decide +kernel), tq_FS_ok, nq_FS, rfl, fun _ => rfl, by decide, by decide, by decide, by decide⟩
theorem fq_FS_33 : fx_fg "FrameSwapper" 33 0 3 := fx_fg_of fp_FS_33
theorem fp_FS_40 : fx_fw "FrameSwapper" 40 0 4 true := ⟨Rq_FS, Tq_FS, 5, tq_FS, rfl, lq_FS, by decide, fx_m1 335 (by decide +kernel), tq_FS_ok, nq_FS, rfl, fun _ => rfl, by decide, by decide, by decide, by decide⟩
theorem fq_FS_40 : fx_fg "FrameSwapper" 40 0 4 := fx_fg_of fp_FS_40
theorem fp_MO_126 : fx_fw "FrameSwapperModel" 126 10 0 false := ⟨Rq_MO, Tq_MO, 52, tq_MO, rfl, lq_MO, by decide, fx_m1 802 (by decide +kernel), tq_MO_ok, nq_MO, rfl, fun _ => rfl, by decide, by decide, by decide, by decide⟩
theorem fq_MO_126 : fx_fg "FrameSwapperModel" 126 10 0 := fx_fg_of fp_MO_126
theorem fp_MO_7 : fx_fw "FrameSwapperModel" 7 10 1 true := ⟨Rq_MO, Tq_MO, 52, tq_MO, rfl, lq_MO, by decide, fx_m1 803 (by decide +kernel), tq_MO_ok, nq_MO, rfl, fun _ => rfl, by decide, by decide, by decide, by decide⟩
theorem fq_MO_7 : fx_fg "FrameSwapperModel" 7 10 1 := fx_fg_of fp_MO_7
theorem fp_MO_13 : fx_fw "FrameSwapperModel" 13 10 2 true := ⟨Rq_MO, Tq_MO, 52, tq_MO, rfl, lq_MO, by decide, fx_m1 804 (by decide +kernel), tq_MO_ok, nq_MO, rfl, fun _ => rfl, by decide, by decide, by decide, by decide⟩
theorem fq_MO_13 : fx_fg "FrameSwapperModel" 13 10 2 := fx_fg_of fp_MO_13
theorem fp_MO_17 : fx_fw "FrameSwapperModel" 17 10 3 true := ⟨Rq_MO, Tq_MO, 52, tq_MO, rfl, lq_MO, by decide, fx_m1 805 (by decide +kernel), tq_MO_ok, nq_MO, rfl, fun _ => rfl, by decide, by decide, by decide, by decide⟩
theorem fq_MO_17 : fx_fg "FrameSwapperModel" 17 10 3 := fx_fg_of fp_MO_17
theorem fp_MO_20 : fx_fw "FrameSwapperModel" 20 10 4 true := ⟨Rq_MO, Tq_MO, 52, tq_MO, rfl, lq_MO, by decide, fx_m1 806 (by decide +kernel), tq_MO_ok, nq_MO, rfl, fun _ => rfl, by decide, by decide, by decide, by decide⟩
theorem fq_MO_20 : fx_fg "FrameSwapperModel" 20 10 4 := fx_fg_of fp_MO_20
theorem fp_MO_23 : fx_fw "FrameSwapperModel" 23 10 5 true := ⟨Rq_MO, Tq_MO, 52, tq_MO, rfl, lq_MO, by decide, fx_m1 807 (by decide +kernel), tq_MO_ok, nq_MO, rfl, fun _ => rfl, by decide, by decide, by decide, by decide⟩
theorem fq_MO_23 : fx_fg "FrameSwapperModel" 23 10 5 := fx_fg_of fp_MO_23
theorem fp_MO_26 : fx_fw "FrameSwapperModel" 26 10 6 true := ⟨Rq_MO, Tq_MO, 52, tq_MO, rfl, lq_MO, by decide, fx_m1 808 (by decide +kernel), tq_MO_ok, nq_MO, rfl, fun _ => rfl, by decide, by decide, by decide, by decide⟩
theorem fq_MO_26 : fx_fg "FrameSwapperModel" 26 10 6 := fx_fg_of fp_MO_26
theorem fp_MO_29 : fx_fw "FrameSwapperModel" 29 10 7 true := ⟨Rq_MO, Tq_MO, 52, tq_MO, rfl, lq_MO, by decide, fx_m1 809 (by decide +kernel), tq_MO_ok, nq_MO, rfl, fun _ => rfl, by decide, by decide, by decide, by decide⟩
theorem fq_MO_29 : fx_fg "FrameSwapperModel" 29 10 7 := fx_fg_of fp_MO_29
theorem fp_MO_32 : fx_fw "FrameSwapperModel" 32 10 8 true := ⟨Rq_MO, Tq_MO, 52, tq_MO, rfl, lq_MO, by decide, fx_m1 810 (by decide +kernel), tq_MO_ok, nq_MO, rfl, fun _ => rfl, by decide, by decide, by decide, by decide⟩
theorem fq_MO_32 : fx_fg "FrameSwapperModel" 32 10 8 := fx_fg_of fp_MO_32
theorem fp_MO_35 : fx_fw "FrameSwapperModel" 35 10 9 true := ⟨Rq_MO, Tq_MO, 52, tq_MO, rfl, lq_MO, by decide, fx_m1 811 (by decide +kernel), tq_MO_ok, nq_MO, rfl, fun _ => rfl, by decide, by decide, by decide, by decide⟩
theorem fq_MO_35 : fx_fg "FrameSwapperModel" 35 10 9 := fx_fg_of fp_MO_35
theorem fp_MO_38 : fx_fw "FrameSwapperModel" 38 10 10 true := ⟨Rq_MO, Tq_MO, 52, tq_MO, rfl, lq_MO, by decide, fx_m1 812 (by decide +kernel), tq_MO_ok, nq_MO, rfl, fun _ => rfl, by decide, by decide, by decide, by decide⟩
theorem fq_MO_38 : fx_fg "FrameSwapperModel" 38 10 10 := fx_fg_of fp_MO_38
theorem fp_MO_41 : fx_fw "FrameSwapperModel" 41 10 11 true := ⟨Rq_MO, Tq_MO, 52, tq_MO, rfl, lq_MO, by decide, fx_m1 813 (by decide +kernel), tq_MO_ok, nq_MO, rfl, fun _ => rfl, by decide, by decide, by decide, by decide⟩
theorem fq_MO_41 : fx_fg "FrameSwapperModel" 41 10 11 := fx_fg_of fp_MO_41
theorem fp_MO_44 : fx_fw "FrameSwapperModel" 44 10 12 true := ⟨Rq_MO, Tq_MO, 52, tq_MO, rfl, lq_MO, by decide, fx_m1 814 (by decide +kernel), tq_MO_ok, nq_MO, rfl, fun _ => rfl, by decide, by decide, by decide, by decide⟩
theorem fq_MO_44 : fx_fg "FrameSwapperModel" 44 10 12 := fx_fg_of fp_MO_44
theorem fp_MO_47 : fx_fw "FrameSwapperModel" 47 10 13 true := ⟨Rq_MO, Tq_MO, 52, tq_MO, rfl, lq_MO, by decide, fx_m1 815 (by decide +kernel), tq_MO_ok, nq_MO, rfl, fun _ => rfl, by decide, by decide, by decide, by decide⟩
theorem fq_MO_47 : fx_fg "FrameSwapperModel" 47 10 13 := fx_fg_of fp_MO_47
theorem fp_MO_50 : fx_fw "FrameSwapperModel" 50 10 14 true := ⟨Rq_MO, Tq_MO, 52, tq_MO, rfl, lq_MO, by decide, fx_m1 816 (by decide +kernel), tq_MO_ok, nq_MO, rfl, fun _ => rfl, by decide, by decide, by decide, by decide⟩
theorem fq_MO_50 : fx_fg "FrameSwapperModel" 50 10 14 := fx_fg_of fp_MO_50
theorem fp_MO_53 : fx_fw "FrameSwapperModel" 53 10 15 true := ⟨Rq_MO, Tq_MO, 52, tq_MO, rfl, lq_MO, by decide, fx_m1 817 (by decide +kernel), tq_MO_ok, nq_MO, rfl, fun _ => rfl, by decide, by decide, by decide, by decide⟩
theorem fq_MO_53 : fx_fg "FrameSwapperModel" 53 10 15 := fx_fg_of fp_MO_53
theorem fp_MO_56 : fx_fw "FrameSwapperModel" 56 10 16 true := ⟨Rq_MO, Tq_MO, 52, tq_MO, rfl, lq_MO, by decide, fx_m1 818 (by decide +kernel), tq_MO_ok, nq_MO, rfl, fun _ => rfl, by decide, by decide, by decide, by decide⟩
theorem fq_MO_56 : fx_fg "FrameSwapperModel" 56 10 16 := fx_fg_of fp_MO_56
theorem fp_MO_59 : fx_fw "FrameSwapperModel" 59 10 17 true := ⟨Rq_MO, Tq_MO, 52, tq_MO, rfl, lq_MO, by decide, fx_m1 819 (by decide +kernel), tq_MO_ok, nq_MO, rfl, fun _ => rfl, by decide, by decide, by decide, by decide⟩
theorem fq_MO_59 : fx_fg "FrameSwapperModel" 59 10 17 := fx_fg_of fp_MO_59
theorem fp_MO_62 : fx_fw "FrameSwapperModel" 62 10 18 true := ⟨Rq_MO, Tq_MO, 52, tq_MO, rfl, lq_MO, by decide, fx_m1 820 (by decide +kernel), tq_MO_ok, nq_MO, rfl, fun _ => rfl, by decide, by decide, by decide, by decide⟩
theorem fq_MO_62 : fx_fg "FrameSwapperModel" 62 10 18 := fx_fg_of fp_MO_62
theorem fp_MO_164 : fx_fw "FrameSwapperModel" 164 10 19 false := ⟨Rq_MO, Tq_MO, 52, tq_MO, rfl, lq_MO, by decide, fx_m1 821 (by decide +kernel), tq_MO_ok, nq_MO, rfl, fun _ => rfl, by decide, by decide, by decide, by decide⟩
theorem fq_MO_164 : fx_fg "FrameSwapperModel" 164 10 19 := fx_fg_of fp_MO_164
theorem fp_MO_167 : fx_fw "FrameSwapperModel" 167 10 20 false := ⟨Rq_MO, Tq_MO, 52, tq_MO, rfl, lq_MO, by decide, fx_m1 822 (by decide +kernel), tq_MO_ok, nq_MO, rfl, fun _ => rfl, by decide, by decide, by decide, by decide⟩
theorem fq_MO_167 : fx_fg "FrameSwapperModel" 167 10 20 := fx_fg_of fp_MO_167
theorem fp_MO_65 : fx_fw "FrameSwapperModel" 65 10 21 true := ⟨Rq_MO, Tq_MO, 52, tq_MO, rfl, lq_MO, by decide, fx_m1 823 (by decide +kernel), tq_MO_ok, nq_MO, rfl, fun _ => rfl, by decide, by decide, by decide, by decide⟩
theorem fq_MO_65 : fx_fg "FrameSwapperModel" 65 10 21 := fx_fg_of fp_MO_65
theorem fp_MO_216 : fx_fw "FrameSwapperModel" 216 10 22 false := ⟨Rq_MO, Tq_MO, 52, tq_MO, rfl, lq_MO, by decide, fx_m1 824 (by decide +kernel), tq_MO_ok, nq_MO, rfl, fun _ => rfl, by decide, by decide, by decide, by decide⟩
theorem fq_MO_216 : fx_fg "FrameSwapperModel" 216 10 22 := fx_fg_of fp_MO_216
theorem fp_MO_68 : fx_fw "FrameSwapperModel" 68 10 23 false := ⟨Rq_MO, Tq_MO, 52, tq_MO, rfl, lq_MO, by decide, fx_m1 825 (by decide +kernel), tq_MO_ok, nq_MO, rfl, fun _ => rfl, by decide, by decide, by decide, by decide⟩
theorem fq_MO_68 : fx_fg "FrameSwapperModel" 68 10 23 := fx_fg_of fp_MO_68
theorem fp_MO_72 : fx_fw "FrameSwapperModel" 72 10 24 true := ⟨Rq_MO, Tq_MO, 52, tq_MO, rfl, lq_MO, by decide, fx_m1 826 (by decide +kernel), tq_MO_ok, nq_MO, rfl, fun _ => rfl, by decide, by decide, by decide, by decide⟩
theorem fq_MO_72 : fx_fg "FrameSwapperModel" 72 10 24 := fx_fg_of fp_MO_72
theorem fp_MO_75 : fx_fw "FrameSwapperModel" 75 10 25 true := ⟨Rq_MO, Tq_MO, 52, tq_MO, rfl, lq_MO, by decide, fx_m1 827 (by decide +kernel), tq_MO_ok, nq_MO, rfl, fun _ => rfl, by decide, by decide, by decide, by decide⟩
theorem fq_MO_75 : fx_fg "FrameSwapperModel" 75 10 25 := fx_fg_of fp_MO_75
theorem fp_MO_78 : fx_fw "FrameSwapperModel" 78 10 26 true := ⟨Rq_MO, Tq_MO, 52, tq_MO, rfl, lq_MO, by decide, fx_m1 828 (by decide +kernel), tq_MO_ok, nq_MO, rfl, fun _ => rfl, by decide, by decide, by decide, by decide⟩
theorem fq_MO_78 : fx_fg "FrameSwapperModel" 78 10 26 := fx_fg_of fp_MO_78
theorem fp_MO_81 : fx_fw "FrameSwapperModel" 81 10 27 true := ⟨Rq_MO, Tq_MO, 52, tq_MO, rfl, lq_MO, by decide, fx_m1 829 (by decide +kernel), tq_MO_ok, nq_MO, rfl, fun _ => rfl, by decide, by decide, by decide, by decide⟩
theorem fq_MO_81 : fx_fg "FrameSwapperModel" 81 10 27 := fx_fg_of fp_MO_81
theorem fp_MO_84 : fx_fw "FrameSwapperModel" 84 10 28 true := ⟨Rq_MO, Tq_MO, 52, tq_MO, rfl, lq_MO, by decide, fx_m1 830 (by decide +kernel), tq_MO_ok, nq_MO, rfl, fun _ => rfl, by decide, by decide, by decide, by decide⟩
theorem fq_MO_84 : fx_fg "FrameSwapperModel" 84 10 28 := fx_fg_of fp_MO_84
theorem fp_MO_87 : fx_fw "FrameSwapperModel" 87 10 29 true := ⟨Rq_MO, Tq_MO, 52, tq_MO, rfl, lq_MO, by decide, fx_m1 831 (by decide +kernel), tq_MO_ok, nq_MO, rfl, fun _ => rfl, by decide, by decide, by decide, by decide⟩
theorem fq_MO_87 : fx_fg "FrameSwapperModel" 87 10 29 := fx_fg_of fp_MO_87
theorem fp_MO_90 : fx_fw "FrameSwapperModel" 90 10 30 true := ⟨Rq_MO, Tq_MO, 52, tq_MO, rfl, lq_MO, by decide, fx_m1 832 (by decide +kernel), tq_MO_ok, nq_MO, rfl, fun _ => rfl, by decide, by decide, by decide, by decide⟩
theorem fq_MO_90 : fx_fg "FrameSwapperModel" 90 10 30 := fx_fg_of fp_MO_90
theorem fp_MO_219 : fx_fw "FrameSwapperModel" 219 10 31 false := ⟨Rq_MO, Tq_MO, 52, tq_MO, rfl, lq_MO, by decide, fx_m1 833 (by decide +kernel), tq_MO_ok, nq_MO, rfl, fun _ => rfl, by decide, by decide, by decide, by decide⟩
theorem fq_MO_219 : fx_fg "FrameSwapperModel" 219 10 31 := fx_fg_of fp_MO_219
theorem fp_MO_222 : fx_fw "FrameSwapperModel" 222 10 32 false := ⟨Rq_MO, Tq_MO, 52, tq_MO, rfl, lq_MO, by decide, fx_m1 834 (by decide +kernel), tq_MO_ok, nq_MO, rfl, fun _ => rfl, by decide, by decide, by decide, by decide⟩
theorem fq_MO_222 : fx_fg "FrameSwapperModel" 222 10 32 := fx_fg_of fp_MO_222
theorem fp_MO_93 : fx_fw "FrameSwapperModel" 93 10 33 true := ⟨Rq_MO, Tq_MO, 52, tq_MO, rfl, lq_MO, by decide, fx_m1 835 (by decide +kernel), tq_MO_ok, nq_MO, rfl, fun _ => rfl, by decide, by decide, by decide, by decide⟩
theorem fq_MO_93 : fx_fg "FrameSwapperModel" 93 10 33 := fx_fg_of fp_MO_93
theorem fp_MO_96 : fx_fw "FrameSwapperModel" 96 10 34 true := ⟨Rq_MO, Tq_MO, 52, tq_MO, rfl, lq_MO, by decide, fx_m1 836 (by decide +kernel), tq_MO_ok, nq_MO, rfl, fun _ => rfl, by decide, by decide, by decide, by decide⟩
theorem fq_MO_96 : fx_fg "FrameSwapperModel" 96 10 34 := fx_fg_of fp_MO_96
theorem fp_MO_99 : fx_fw "FrameSwapperModel" 99 10 35 true := ⟨Rq_MO, Tq_MO, 52, tq_MO, rfl, lq_MO, by decide, fx_m1 837 (by decide +kernel), tq_MO_ok, nq_MO, rfl, fun _ => rfl, by decide, by decide, by decide, by decide⟩
theorem fq_MO_99 : fx_fg "FrameSwapperModel" 99 10 35 := fx_fg_of fp_MO_99
theorem fp_MO_102 : fx_fw "FrameSwapperModel" 102 10 36 true := ⟨Rq_MO, Tq_MO, 52, tq_MO, rfl, lq_MO, by decide, fx_m1 838 (by decide +kernel), tq_MO_ok, nq_MO, rfl, fun _ => rfl, by decide, by decide, by decide, by decide⟩
theorem fq_MO_102 : fx_fg "FrameSwapperModel" 102 10 36 := fx_fg_of fp_MO_102
theorem fp_MO_105 : fx_fw "FrameSwapperModel" 105 10 37 true := ⟨Rq_MO, Tq_MO, 52, tq_MO, rfl, lq_MO, by decide, fx_m1 839 (by decide +kernel), tq_MO_ok, nq_MO, rfl, fun _ => rfl, by decide, by decide, by decide, by decide⟩
theorem fq_MO_105 : fx_fg "FrameSwapperModel" 105 10 37 := fx_fg_of fp_MO_105
theorem fp_MO_141 : fx_fw "FrameSwapperModel" 141 10 38 false := ⟨Rq_MO, Tq_MO, 52, tq_MO, rfl, lq_MO, by decide, fx_m1 840 (by decide +kernel), tq_MO_ok, nq_MO, rfl, fun _ => rfl, by decide, by decide, by decide, by decide⟩
theorem fq_MO_141 : fx_fg "FrameSwapperModel" 141 10 38 := fx_fg_of fp_MO_141
theorem fp_MO_147 : fx_fw "FrameSwapperModel" 147 10 39 false := ⟨Rq_MO, Tq_MO, 52, tq_MO, rfl, lq_MO, by decide, fx_m1 841 (by decide +kernel), tq_MO_ok, nq_MO, rfl, fun _ => rfl, by decide, by decide, by decide, by decide⟩
theorem fq_MO_147 : fx_fg "FrameSwapperModel" 147 10 39 := fx_fg_of fp_MO_147
theorem fp_MO_144 : fx_fw "FrameSwapperModel" 144 10 40 false := ⟨Rq_MO, Tq_MO, 52, tq_MO, rfl, lq_MO, by decide, fx_m1 842 (by decide +kernel), tq_MO_ok, nq_MO, rfl, fun _ => rfl, by decide, by decide, by decide, by decide⟩
theorem fq_MO_144 : fx_fg "FrameSwapperModel" 144 10 40 := fx_fg_of fp_MO_144
theorem fp_MO_150 : fx_fw "FrameSwapperModel" 150 10 41 false := ⟨Rq_MO, Tq_MO, 52, tq_MO, rfl, lq_MO, by decide, fx_m1 843 (by decide +kernel), tq_MO_ok, nq_MO, rfl, fun _ => rfl, by decide, by decide, by decide, by decide⟩
theorem fq_MO_150 : fx_fg "FrameSwapperModel" 150 10 41 := fx_fg_of fp_MO_150
theorem fp_MO_256 : fx_fw "FrameSwapperModel" 256 10 42 false := ⟨Rq_MO, Tq_MO, 52, tq_MO, rfl, lq_MO, by decide, fx_m1 844 (by decide +kernel), tq_MO_ok, nq_MO, rfl, fun _ => rfl, by decide, by decide, by decide, by decide⟩
theorem fq_MO_256 : fx_fg "FrameSwapperModel" 256 10 42 := fx_fg_of fp_MO_256
theorem fp_MO_253 : fx_fw "FrameSwapperModel" 253 10 43 false := ⟨Rq_MO, Tq_MO, 52, tq_MO, rfl, lq_MO, by decide, fx_m1 845 (by decide +kernel), tq_MO_ok, nq_MO, rfl, fun _ => rfl, by decide, by decide, by decide, by decide⟩
theorem fq_MO_253 : fx_fg "FrameSwapperModel" 253 10 43 := fx_fg_of fp_MO_253
theorem fp_MO_247 : fx_fw "FrameSwapperModel" 247 10 44 false := ⟨Rq_MO, Tq_MO, 52, tq_MO, rfl, lq_MO, by decide, fx_m1 846 (by decide +kernel), tq_MO_ok, nq_MO, rfl, fun _ => rfl, by decide, by decide, by decide, by decide⟩
theorem fq_MO_247 : fx_fg "FrameSwapperModel" 247 10 44 := fx_fg_of fp_MO_247
theorem fp_MO_250 : fx_fw "FrameSwapperModel" 250 10 45 false := ⟨Rq_MO, Tq_MO, 52, tq_MO, rfl, lq_MO, by decide, fx_m1 847 (by decide +kernel), tq_MO_ok, nq_MO, rfl, fun _ => rfl, by decide, by decide, by decide, by decide⟩
theorem fq_MO_250 : fx_fg "FrameSwapperModel" 250 10 45 := fx_fg_of fp_MO_250
theorem fp_MO_108 : fx_fw "FrameSwapperModel" 108 10 46 true := ⟨Rq_MO, Tq_MO, 52, tq_MO, rfl, lq_MO, by decide, fx_m1 848 (by decide +kernel), tq_MO_ok, nq_MO, rfl, fun _ => rfl, by decide, by decide, by decide, by decide⟩
theorem fq_MO_108 : fx_fg "FrameSwapperModel" 108 10 46 := fx_fg_of fp_MO_108
theorem fp_MO_111 : fx_fw "FrameSwapperModel" 111 10 47 true := ⟨Rq_MO, Tq_MO, 52, tq_MO, rfl, lq_MO, by decide, fx_m1 849 (by decide +kernel), tq_MO_ok, nq_MO, rfl, fun _ => rfl, by decide, by decide, by decide, by decide⟩
theorem fq_MO_111 : fx_fg "FrameSwapperModel" 111 10 47 := fx_fg_of fp_MO_111
theorem fp_MO_114 : fx_fw "FrameSwapperModel" 114 10 48 true := ⟨Rq_MO, Tq_MO, 52, tq_MO, rfl, lq_MO, by decide, fx_m1 850 (by decide +kernel), tq_MO_ok, nq_MO, rfl, fun _ => rfl, by decide, by decide, by decide, by decide⟩
theorem fq_MO_114 : fx_fg "FrameSwapperModel" 114 10 48 := fx_fg_of fp_MO_114
theorem fp_MO_117 : fx_fw "FrameSwapperModel" 117 10 49 true := ⟨Rq_MO, Tq_MO, 52, tq_MO, rfl, lq_MO, by decide, fx_m1 851 (by decide +kernel), tq_MO_ok, nq_MO, rfl, fun _ => rfl, by decide, by decide, by decide, by decide⟩
theorem fq_MO_117 : fx_fg "FrameSwapperModel" 117 10 49 := fx_fg_of fp_MO_117
theorem fp_MO_120 : fx_fw "FrameSwapperModel" 120 10 50 true := ⟨Rq_MO, Tq_MO, 52, tq_MO, rfl, lq_MO, by decide, fx_m1 852 (by decide +kernel), tq_MO_ok, nq_MO, rfl, fun _ => rfl, by decide, by decide, by decide, by decide⟩
theorem fq_MO_120 : fx_fg "FrameSwapperModel" 120 10 50 := fx_fg_of fp_MO_120
theorem fp_MO_123 : fx_fw "FrameSwapperModel" 123 10 51 true := ⟨Rq_MO, Tq_MO, 52, tq_MO, rfl, lq_MO, by decide, fx_m1 853 (by decide +kernel), tq_MO_ok, nq_MO, rfl, fun _ => rfl, by decide, by decide, by decide, by decide⟩
theorem fq_MO_123 : fx_fg "FrameSwapperModel" 123 10 51 := fx_fg_of fp_MO_123
end
section
/-! ===== a row for each instruction ===== -/
theorem dq_FS_init_0 : decode (fx_cc mq_FS_init) 0 = .ok (.aload_n 0, 1) := by decide +kernel
theorem dq_FS_init_1 : decode (fx_cc mq_FS_init) 1 = .ok (.invokespecial 1, 3) := by decide +kernel
theorem dq_FS_init_4 : decode (fx_cc mq_FS_init) 4 = .ok (.aload_n 0, 1) := by decide +kernel
theorem dq_FS_init_5 : decode (fx_cc mq_FS_init) 5 = .ok (.new 7, 3) := by decide +kernel
theorem dq_FS_init_8 : decode (fx_cc mq_FS_init) 8 = .ok (.dup, 1) := by decide +kernel
theorem dq_FS_init_9 : decode (fx_cc mq_FS_init) 9 = .ok (.invokespecial 9, 3) := by decide +kernel
theorem dq_FS_init_12 : decode (fx_cc mq_FS_init) 12 = .ok (.putfield 10, 3) := by decide +kernel
theorem dq_FS_init_15 : decode (fx_cc mq_FS_init) 15 = .ok (.aload_n 0, 1) := by decide +kernel
theorem dq_FS_init_16 : decode (fx_cc mq_FS_init) 16 = .ok (.new 16, 3) := by decide +kernel
theorem dq_FS_init_19 : decode (fx_cc mq_FS_init) 19 = .ok (.dup, 1) := by decide +kernel
theorem dq_FS_init_20 : decode (fx_cc mq_FS_init) 20 = .ok (.invokespecial 18, 3) := by decide +kernel
theorem dq_FS_init_23 : decode (fx_cc mq_FS_init) 23 = .ok (.putfield 19, 3) := by decide +kernel
theorem dq_FS_init_26 : decode (fx_cc mq_FS_init) 26 = .ok (.aload_n 0, 1) := by decide +kernel
theorem dq_FS_init_27 : decode (fx_cc mq_FS_init) 27 = .ok (.new 23, 3) := by decide +kernel
theorem dq_FS_init_30 : decode (fx_cc mq_FS_init) 30 = .ok (.dup, 1) := by decide +kernel
theorem dq_FS_init_31 : decode (fx_cc mq_FS_init) 31 = .ok (.invokespecial 25, 3) := by decide +kernel
theorem dq_FS_init_34 : decode (fx_cc mq_FS_init) 34 = .ok (.putfield 26, 3) := by decide +kernel
theorem dq_FS_init_37 : decode (fx_cc mq_FS_init) 37 = .ok (.aload_n 0, 1) := by decide +kernel
theorem dq_FS_init_38 : decode (fx_cc mq_FS_init) 38 = .ok (.new 30, 3) := by decide +kernel
theorem dq_FS_init_41 : decode (fx_cc mq_FS_init) 41 = .ok (.dup, 1) := by decide +kernel
theorem dq_FS_init_42 : decode (fx_cc mq_FS_init) 42 = .ok (.invokespecial 32, 3) := by decide +kernel
theorem dq_FS_init_45 : decode (fx_cc mq_FS_init) 45 = .ok (.putfield 33, 3) := by decide +kernel
theorem dq_FS_init_48 : decode (fx_cc mq_FS_init) 48 = .ok (.aload_n 0, 1) := by decide +kernel
theorem dq_FS_init_49 : decode (fx_cc mq_FS_init) 49 = .ok (.new 37, 3) := by decide +kernel
theorem dq_FS_init_52 : decode (fx_cc mq_FS_init) 52 = .ok (.dup, 1) := by decide +kernel
theorem dq_FS_init_53 : decode (fx_cc mq_FS_init) 53 = .ok (.invokespecial 39, 3) := by decide +kernel
theorem dq_FS_init_56 : decode (fx_cc mq_FS_init) 56 = .ok (.putfield 40, 3) := by decide +kernel
theorem dq_FS_init_59 : decode (fx_cc mq_FS_init) 59 = .ok (.return_, 1) := by decide +kernel
theorem dq_DE_init_0 : decode (fx_cc mq_DE_init) 0 = .ok (.aload_n 0, 1) := by decide +kernel
theorem dq_DE_init_1 : decode (fx_cc mq_DE_init) 1 = .ok (.invokespecial 3, 3) := by decide +kernel
theorem dq_DE_init_4 : decode (fx_cc mq_DE_init) 4 = .ok (.aload_n 0, 1) := by decide +kernel
theorem dq_DE_init_5 : decode (fx_cc mq_DE_init) 5 = .ok (.bipush 10, 2) := by decide +kernel
theorem dq_DE_init_7 : decode (fx_cc mq_DE_init) 7 = .ok (.anewarray 9, 3) := by decide +kernel
theorem dq_DE_init_10 : decode (fx_cc mq_DE_init) 10 = .ok (.putfield 11, 3) := by decide +kernel
theorem dq_DE_init_13 : decode (fx_cc mq_DE_init) 13 = .ok (.aload_n 0, 1) := by decide +kernel
theorem dq_DE_init_14 : decode (fx_cc mq_DE_init) 14 = .ok (.new 17, 3) := by decide +kernel
theorem dq_DE_init_17 : decode (fx_cc mq_DE_init) 17 = .ok (.dup, 1) := by decide +kernel
theorem dq_DE_init_18 : decode (fx_cc mq_DE_init) 18 = .ok (.invokespecial 19, 3) := by decide +kernel
theorem dq_DE_init_21 : decode (fx_cc mq_DE_init) 21 = .ok (.putfield 20, 3) := by decide +kernel
theorem dq_DE_init_24 : decode (fx_cc mq_DE_init) 24 = .ok (.aload_n 0, 1) := by decide +kernel
theorem dq_DE_init_25 : decode (fx_cc mq_DE_init) 25 = .ok (.bipush 10, 2) := by decide +kernel
theorem dq_DE_init_27 : decode (fx_cc mq_DE_init) 27 = .ok (.newarray .int, 2) := by decide +kernel
theorem dq_DE_init_29 : decode (fx_cc mq_DE_init) 29 = .ok (.putfield 24, 3) := by decide +kernel
theorem dq_DE_init_32 : decode (fx_cc mq_DE_init) 32 = .ok (.aload_n 0, 1) := by decide +kernel
theorem dq_DE_init_33 : decode (fx_cc mq_DE_init) 33 = .ok (.bipush 10, 2) := by decide +kernel
theorem dq_DE_init_35 : decode (fx_cc mq_DE_init) 35 = .ok (.newarray .boolean, 2) := by decide +kernel
theorem dq_DE_init_37 : decode (fx_cc mq_DE_init) 37 = .ok (.putfield 28, 3) := by decide +kernel
theorem dq_DE_init_40 : decode (fx_cc mq_DE_init) 40 = .ok (.aload_n 0, 1) := by decide +kernel
theorem dq_DE_init_41 : decode (fx_cc mq_DE_init) 41 = .ok (.iconst 4, 1) := by decide +kernel
theorem dq_DE_init_42 : decode (fx_cc mq_DE_init) 42 = .ok (.newarray .boolean, 2) := by decide +kernel
theorem dq_DE_init_44 : decode (fx_cc mq_DE_init) 44 = .ok (.putfield 32, 3) := by decide +kernel
theorem dq_DE_init_47 : decode (fx_cc mq_DE_init) 47 = .ok (.aload_n 0, 1) := by decide +kernel
theorem dq_DE_init_48 : decode (fx_cc mq_DE_init) 48 = .ok (.sipush 300, 3) := by decide +kernel
theorem dq_DE_init_51 : decode (fx_cc mq_DE_init) 51 = .ok (.putfield 35, 3) := by decide +kernel
theorem dq_DE_init_54 : decode (fx_cc mq_DE_init) 54 = .ok (.iconst 0, 1) := by decide +kernel
theorem dq_DE_init_55 : decode (fx_cc mq_DE_init) 55 = .ok (.istore_n 1, 1) := by decide +kernel
theorem dq_DE_init_56 : decode (fx_cc mq_DE_init) 56 = .ok (.iload_n 1, 1) := by decide +kernel
theorem dq_DE_init_57 : decode (fx_cc mq_DE_init) 57 = .ok (.bipush 10, 2) := by decide +kernel
theorem dq_DE_init_59 : decode (fx_cc mq_DE_init) 59 = .ok (.if_icmp .ge 29, 3) := by decide +kernel
theorem dq_DE_init_62 : decode (fx_cc mq_DE_init) 62 = .ok (.aload_n 0, 1) := by decide +kernel
theorem dq_DE_init_63 : decode (fx_cc mq_DE_init) 63 = .ok (.getfield 11, 3) := by decide +kernel
theorem dq_DE_init_66 : decode (fx_cc mq_DE_init) 66 = .ok (.iload_n 1, 1) := by decide +kernel
theorem dq_DE_init_67 : decode (fx_cc mq_DE_init) 67 = .ok (.new 9, 3) := by decide +kernel
theorem dq_DE_init_70 : decode (fx_cc mq_DE_init) 70 = .ok (.dup, 1) := by decide +kernel
theorem dq_DE_init_71 : decode (fx_cc mq_DE_init) 71 = .ok (.invokespecial 39, 3) := by decide +kernel
theorem dq_DE_init_74 : decode (fx_cc mq_DE_init) 74 = .ok (.aastore, 1) := by decide +kernel
theorem dq_DE_init_75 : decode (fx_cc mq_DE_init) 75 = .ok (.aload_n 0, 1) := by decide +kernel
theorem dq_DE_init_76 : decode (fx_cc mq_DE_init) 76 = .ok (.getfield 24, 3) := by decide +kernel
theorem dq_DE_init_79 : decode (fx_cc mq_DE_init) 79 = .ok (.iload_n 1, 1) := by decide +kernel
theorem dq_DE_init_80 : decode (fx_cc mq_DE_init) 80 = .ok (.iconst (-1), 1) := by decide +kernel
theorem dq_DE_init_81 : decode (fx_cc mq_DE_init) 81 = .ok (.iastore, 1) := by decide +kernel
theorem dq_DE_init_82 : decode (fx_cc mq_DE_init) 82 = .ok (.iinc 1 1, 3) := by decide +kernel
theorem dq_DE_init_85 : decode (fx_cc mq_DE_init) 85 = .ok (.goto (-29), 3) := by decide +kernel
theorem dq_DE_init_88 : decode (fx_cc mq_DE_init) 88 = .ok (.return_, 1) := by decide +kernel
theorem dq_PL_init_0 : decode (fx_cc mq_PL_init) 0 = .ok (.aload_n 0, 1) := by decide +kernel
theorem dq_PL_init_1 : decode (fx_cc mq_PL_init) 1 = .ok (.invokespecial 3, 3) := by decide +kernel
theorem dq_PL_init_4 : decode (fx_cc mq_PL_init) 4 = .ok (.aload_n 0, 1) := by decide +kernel
theorem dq_PL_init_5 : decode (fx_cc mq_PL_init) 5 = .ok (.bipush 10, 2) := by decide +kernel
theorem dq_PL_init_7 : decode (fx_cc mq_PL_init) 7 = .ok (.anewarray 9, 3) := by decide +kernel
theorem dq_PL_init_10 : decode (fx_cc mq_PL_init) 10 = .ok (.putfield 11, 3) := by decide +kernel
theorem dq_PL_init_13 : decode (fx_cc mq_PL_init) 13 = .ok (.aload_n 0, 1) := by decide +kernel
theorem dq_PL_init_14 : decode (fx_cc mq_PL_init) 14 = .ok (.bipush 10, 2) := by decide +kernel
theorem dq_PL_init_16 : decode (fx_cc mq_PL_init) 16 = .ok (.newarray .int, 2) := by decide +kernel
theorem dq_PL_init_18 : decode (fx_cc mq_PL_init) 18 = .ok (.putfield 17, 3) := by decide +kernel
theorem dq_PL_init_21 : decode (fx_cc mq_PL_init) 21 = .ok (.iconst 0, 1) := by decide +kernel
theorem dq_PL_init_22 : decode (fx_cc mq_PL_init) 22 = .ok (.istore_n 1, 1) := by decide +kernel
theorem dq_PL_init_23 : decode (fx_cc mq_PL_init) 23 = .ok (.iload_n 1, 1) := by decide +kernel
theorem dq_PL_init_24 : decode (fx_cc mq_PL_init) 24 = .ok (.bipush 10, 2) := by decide +kernel
theorem dq_PL_init_26 : decode (fx_cc mq_PL_init) 26 = .ok (.if_icmp .ge 22, 3) := by decide +kernel
theorem dq_PL_init_29 : decode (fx_cc mq_PL_init) 29 = .ok (.aload_n 0, 1) := by decide +kernel
theorem dq_PL_init_30 : decode (fx_cc mq_PL_init) 30 = .ok (.getfield 11, 3) := by decide +kernel
theorem dq_PL_init_33 : decode (fx_cc mq_PL_init) 33 = .ok (.iload_n 1, 1) := by decide +kernel
theorem dq_PL_init_34 : decode (fx_cc mq_PL_init) 34 = .ok (.new 9, 3) := by decide +kernel
theorem dq_PL_init_37 : decode (fx_cc mq_PL_init) 37 = .ok (.dup, 1) := by decide +kernel
theorem dq_PL_init_38 : decode (fx_cc mq_PL_init) 38 = .ok (.invokespecial 21, 3) := by decide +kernel
theorem dq_PL_init_41 : decode (fx_cc mq_PL_init) 41 = .ok (.aastore, 1) := by decide +kernel
theorem dq_PL_init_42 : decode (fx_cc mq_PL_init) 42 = .ok (.iinc 1 1, 3) := by decide +kernel
theorem dq_PL_init_45 : decode (fx_cc mq_PL_init) 45 = .ok (.goto (-22), 3) := by decide +kernel
theorem dq_PL_init_48 : decode (fx_cc mq_PL_init) 48 = .ok (.return_, 1) := by decide +kernel
theorem dq_PI_init_0 : decode (fx_cc mq_PI_init) 0 = .ok (.aload_n 0, 1) := by decide +kernel
theorem dq_PI_init_1 : decode (fx_cc mq_PI_init) 1 = .ok (.invokespecial 3, 3) := by decide +kernel
theorem dq_PI_init_4 : decode (fx_cc mq_PI_init) 4 = .ok (.aload_n 0, 1) := by decide +kernel
theorem dq_PI_init_5 : decode (fx_cc mq_PI_init) 5 = .ok (.bipush 96, 2) := by decide +kernel
theorem dq_PI_init_7 : decode (fx_cc mq_PI_init) 7 = .ok (.newarray .int, 2) := by decide +kernel
theorem dq_PI_init_9 : decode (fx_cc mq_PI_init) 9 = .ok (.putfield 9, 3) := by decide +kernel
theorem dq_PI_init_12 : decode (fx_cc mq_PI_init) 12 = .ok (.aload_n 0, 1) := by decide +kernel
theorem dq_PI_init_13 : decode (fx_cc mq_PI_init) 13 = .ok (.new 15, 3) := by decide +kernel
theorem dq_PI_init_16 : decode (fx_cc mq_PI_init) 16 = .ok (.dup, 1) := by decide +kernel
theorem dq_PI_init_17 : decode (fx_cc mq_PI_init) 17 = .ok (.invokespecial 17, 3) := by decide +kernel
theorem dq_PI_init_20 : decode (fx_cc mq_PI_init) 20 = .ok (.putfield 18, 3) := by decide +kernel
theorem dq_PI_init_23 : decode (fx_cc mq_PI_init) 23 = .ok (.aload_n 0, 1) := by decide +kernel
theorem dq_PI_init_24 : decode (fx_cc mq_PI_init) 24 = .ok (.new 15, 3) := by decide +kernel
theorem dq_PI_init_27 : decode (fx_cc mq_PI_init) 27 = .ok (.dup, 1) := by decide +kernel
theorem dq_PI_init_28 : decode (fx_cc mq_PI_init) 28 = .ok (.invokespecial 17, 3) := by decide +kernel
theorem dq_PI_init_31 : decode (fx_cc mq_PI_init) 31 = .ok (.putfield 22, 3) := by decide +kernel
theorem dq_PI_init_34 : decode (fx_cc mq_PI_init) 34 = .ok (.return_, 1) := by decide +kernel
theorem dq_RE_init_0 : decode (fx_cc mq_RE_init) 0 = .ok (.aload_n 0, 1) := by decide +kernel
theorem dq_RE_init_1 : decode (fx_cc mq_RE_init) 1 = .ok (.invokespecial 1, 3) := by decide +kernel
theorem dq_RE_init_4 : decode (fx_cc mq_RE_init) 4 = .ok (.return_, 1) := by decide +kernel
theorem dq_CO_init_0 : decode (fx_cc mq_CO_init) 0 = .ok (.aload_n 0, 1) := by decide +kernel
theorem dq_CO_init_1 : decode (fx_cc mq_CO_init) 1 = .ok (.invokespecial 3, 3) := by decide +kernel
theorem dq_CO_init_4 : decode (fx_cc mq_CO_init) 4 = .ok (.aload_n 0, 1) := by decide +kernel
theorem dq_CO_init_5 : decode (fx_cc mq_CO_init) 5 = .ok (.new 9, 3) := by decide +kernel
theorem dq_CO_init_8 : decode (fx_cc mq_CO_init) 8 = .ok (.dup, 1) := by decide +kernel
theorem dq_CO_init_9 : decode (fx_cc mq_CO_init) 9 = .ok (.invokespecial 11, 3) := by decide +kernel
theorem dq_CO_init_12 : decode (fx_cc mq_CO_init) 12 = .ok (.putfield 12, 3) := by decide +kernel
theorem dq_CO_init_15 : decode (fx_cc mq_CO_init) 15 = .ok (.aload_n 0, 1) := by decide +kernel
theorem dq_CO_init_16 : decode (fx_cc mq_CO_init) 16 = .ok (.new 18, 3) := by decide +kernel
theorem dq_CO_init_19 : decode (fx_cc mq_CO_init) 19 = .ok (.dup, 1) := by decide +kernel
theorem dq_CO_init_20 : decode (fx_cc mq_CO_init) 20 = .ok (.invokespecial 20, 3) := by decide +kernel
theorem dq_CO_init_23 : decode (fx_cc mq_CO_init) 23 = .ok (.putfield 21, 3) := by decide +kernel
theorem dq_CO_init_26 : decode (fx_cc mq_CO_init) 26 = .ok (.aload_n 0, 1) := by decide +kernel
theorem dq_CO_init_27 : decode (fx_cc mq_CO_init) 27 = .ok (.bipush 10, 2) := by decide +kernel
theorem dq_CO_init_29 : decode (fx_cc mq_CO_init) 29 = .ok (.newarray .boolean, 2) := by decide +kernel
theorem dq_CO_init_31 : decode (fx_cc mq_CO_init) 31 = .ok (.putfield 25, 3) := by decide +kernel
theorem dq_CO_init_34 : decode (fx_cc mq_CO_init) 34 = .ok (.aload_n 0, 1) := by decide +kernel
theorem dq_CO_init_35 : decode (fx_cc mq_CO_init) 35 = .ok (.bipush 10, 2) := by decide +kernel
theorem dq_CO_init_37 : decode (fx_cc mq_CO_init) 37 = .ok (.anewarray 29, 3) := by decide +kernel
theorem dq_CO_init_40 : decode (fx_cc mq_CO_init) 40 = .ok (.putfield 31, 3) := by decide +kernel
theorem dq_CO_init_43 : decode (fx_cc mq_CO_init) 43 = .ok (.aload_n 0, 1) := by decide +kernel
theorem dq_CO_init_44 : decode (fx_cc mq_CO_init) 44 = .ok (.new 35, 3) := by decide +kernel
theorem dq_CO_init_47 : decode (fx_cc mq_CO_init) 47 = .ok (.dup, 1) := by decide +kernel
theorem dq_CO_init_48 : decode (fx_cc mq_CO_init) 48 = .ok (.invokespecial 37, 3) := by decide +kernel
theorem dq_CO_init_51 : decode (fx_cc mq_CO_init) 51 = .ok (.putfield 38, 3) := by decide +kernel
theorem dq_CO_init_54 : decode (fx_cc mq_CO_init) 54 = .ok (.aload_n 0, 1) := by decide +kernel
theorem dq_CO_init_55 : decode (fx_cc mq_CO_init) 55 = .ok (.new 35, 3) := by decide +kernel
theorem dq_CO_init_58 : decode (fx_cc mq_CO_init) 58 = .ok (.dup, 1) := by decide +kernel
theorem dq_CO_init_59 : decode (fx_cc mq_CO_init) 59 = .ok (.invokespecial 37, 3) := by decide +kernel
theorem dq_CO_init_62 : decode (fx_cc mq_CO_init) 62 = .ok (.putfield 42, 3) := by decide +kernel
theorem dq_CO_init_65 : decode (fx_cc mq_CO_init) 65 = .ok (.aload_n 0, 1) := by decide +kernel
theorem dq_CO_init_66 : decode (fx_cc mq_CO_init) 66 = .ok (.iconst 0, 1) := by decide +kernel
theorem dq_CO_init_67 : decode (fx_cc mq_CO_init) 67 = .ok (.putfield 45, 3) := by decide +kernel
theorem dq_CO_init_70 : decode (fx_cc mq_CO_init) 70 = .ok (.iconst 0, 1) := by decide +kernel
theorem dq_CO_init_71 : decode (fx_cc mq_CO_init) 71 = .ok (.istore_n 1, 1) := by decide +kernel
theorem dq_CO_init_72 : decode (fx_cc mq_CO_init) 72 = .ok (.iload_n 1, 1) := by decide +kernel
theorem dq_CO_init_73 : decode (fx_cc mq_CO_init) 73 = .ok (.bipush 10, 2) := by decide +kernel
theorem dq_CO_init_75 : decode (fx_cc mq_CO_init) 75 = .ok (.if_icmp .ge 22, 3) := by decide +kernel
theorem dq_CO_init_78 : decode (fx_cc mq_CO_init) 78 = .ok (.aload_n 0, 1) := by decide +kernel
theorem dq_CO_init_79 : decode (fx_cc mq_CO_init) 79 = .ok (.getfield 31, 3) := by decide +kernel
theorem dq_CO_init_82 : decode (fx_cc mq_CO_init) 82 = .ok (.iload_n 1, 1) := by decide +kernel
theorem dq_CO_init_83 : decode (fx_cc mq_CO_init) 83 = .ok (.new 29, 3) := by decide +kernel
theorem dq_CO_init_86 : decode (fx_cc mq_CO_init) 86 = .ok (.dup, 1) := by decide +kernel
theorem dq_CO_init_87 : decode (fx_cc mq_CO_init) 87 = .ok (.invokespecial 49, 3) := by decide +kernel
theorem dq_CO_init_90 : decode (fx_cc mq_CO_init) 90 = .ok (.aastore, 1) := by decide +kernel
theorem dq_CO_init_91 : decode (fx_cc mq_CO_init) 91 = .ok (.iinc 1 1, 3) := by decide +kernel
theorem dq_CO_init_94 : decode (fx_cc mq_CO_init) 94 = .ok (.goto (-22), 3) := by decide +kernel
theorem dq_CO_init_97 : decode (fx_cc mq_CO_init) 97 = .ok (.return_, 1) := by decide +kernel
theorem dq_PN_init_0 : decode (fx_cc mq_PN_init) 0 = .ok (.aload_n 0, 1) := by decide +kernel
theorem dq_PN_init_1 : decode (fx_cc mq_PN_init) 1 = .ok (.invokespecial 3, 3) := by decide +kernel
theorem dq_PN_init_4 : decode (fx_cc mq_PN_init) 4 = .ok (.aload_n 0, 1) := by decide +kernel
theorem dq_PN_init_5 : decode (fx_cc mq_PN_init) 5 = .ok (.iconst 2, 1) := by decide +kernel
theorem dq_PN_init_6 : decode (fx_cc mq_PN_init) 6 = .ok (.newarray .int, 2) := by decide +kernel
theorem dq_PN_init_8 : decode (fx_cc mq_PN_init) 8 = .ok (.dup, 1) := by decide +kernel
theorem dq_PN_init_9 : decode (fx_cc mq_PN_init) 9 = .ok (.iconst 0, 1) := by decide +kernel
theorem dq_PN_init_10 : decode (fx_cc mq_PN_init) 10 = .ok (.iconst (-1), 1) := by decide +kernel
theorem dq_PN_init_11 : decode (fx_cc mq_PN_init) 11 = .ok (.iastore, 1) := by decide +kernel
theorem dq_PN_init_12 : decode (fx_cc mq_PN_init) 12 = .ok (.dup, 1) := by decide +kernel
theorem dq_PN_init_13 : decode (fx_cc mq_PN_init) 13 = .ok (.iconst 1, 1) := by decide +kernel
theorem dq_PN_init_14 : decode (fx_cc mq_PN_init) 14 = .ok (.iconst (-1), 1) := by decide +kernel
theorem dq_PN_init_15 : decode (fx_cc mq_PN_init) 15 = .ok (.iastore, 1) := by decide +kernel
theorem dq_PN_init_16 : decode (fx_cc mq_PN_init) 16 = .ok (.putfield 9, 3) := by decide +kernel
theorem dq_PN_init_19 : decode (fx_cc mq_PN_init) 19 = .ok (.aload_n 0, 1) := by decide +kernel
theorem dq_PN_init_20 : decode (fx_cc mq_PN_init) 20 = .ok (.iconst 2, 1) := by decide +kernel
theorem dq_PN_init_21 : decode (fx_cc mq_PN_init) 21 = .ok (.anewarray 15, 3) := by decide +kernel
theorem dq_PN_init_24 : decode (fx_cc mq_PN_init) 24 = .ok (.dup, 1) := by decide +kernel
theorem dq_PN_init_25 : decode (fx_cc mq_PN_init) 25 = .ok (.iconst 0, 1) := by decide +kernel
theorem dq_PN_init_26 : decode (fx_cc mq_PN_init) 26 = .ok (.new 15, 3) := by decide +kernel
theorem dq_PN_init_29 : decode (fx_cc mq_PN_init) 29 = .ok (.dup, 1) := by decide +kernel
theorem dq_PN_init_30 : decode (fx_cc mq_PN_init) 30 = .ok (.invokespecial 17, 3) := by decide +kernel
theorem dq_PN_init_33 : decode (fx_cc mq_PN_init) 33 = .ok (.aastore, 1) := by decide +kernel
theorem dq_PN_init_34 : decode (fx_cc mq_PN_init) 34 = .ok (.dup, 1) := by decide +kernel
theorem dq_PN_init_35 : decode (fx_cc mq_PN_init) 35 = .ok (.iconst 1, 1) := by decide +kernel
theorem dq_PN_init_36 : decode (fx_cc mq_PN_init) 36 = .ok (.new 15, 3) := by decide +kernel
theorem dq_PN_init_39 : decode (fx_cc mq_PN_init) 39 = .ok (.dup, 1) := by decide +kernel
theorem dq_PN_init_40 : decode (fx_cc mq_PN_init) 40 = .ok (.invokespecial 17, 3) := by decide +kernel
theorem dq_PN_init_43 : decode (fx_cc mq_PN_init) 43 = .ok (.aastore, 1) := by decide +kernel
theorem dq_PN_init_44 : decode (fx_cc mq_PN_init) 44 = .ok (.putfield 18, 3) := by decide +kernel
theorem dq_PN_init_47 : decode (fx_cc mq_PN_init) 47 = .ok (.aload_n 0, 1) := by decide +kernel
theorem dq_PN_init_48 : decode (fx_cc mq_PN_init) 48 = .ok (.iconst 2, 1) := by decide +kernel
theorem dq_PN_init_49 : decode (fx_cc mq_PN_init) 49 = .ok (.bipush 24, 2) := by decide +kernel
theorem dq_PN_init_51 : decode (fx_cc mq_PN_init) 51 = .ok (.multianewarray 22 2, 4) := by decide +kernel
theorem dq_PN_init_55 : decode (fx_cc mq_PN_init) 55 = .ok (.putfield 24, 3) := by decide +kernel
theorem dq_PN_init_58 : decode (fx_cc mq_PN_init) 58 = .ok (.return_, 1) := by decide +kernel
theorem dq_ME_init_0 : decode (fx_cc mq_ME_init) 0 = .ok (.aload_n 0, 1) := by decide +kernel
theorem dq_ME_init_1 : decode (fx_cc mq_ME_init) 1 = .ok (.invokespecial 3, 3) := by decide +kernel
theorem dq_ME_init_4 : decode (fx_cc mq_ME_init) 4 = .ok (.aload_n 0, 1) := by decide +kernel
theorem dq_ME_init_5 : decode (fx_cc mq_ME_init) 5 = .ok (.sipush 200, 3) := by decide +kernel
theorem dq_ME_init_8 : decode (fx_cc mq_ME_init) 8 = .ok (.newarray .int, 2) := by decide +kernel
theorem dq_ME_init_10 : decode (fx_cc mq_ME_init) 10 = .ok (.putfield 9, 3) := by decide +kernel
theorem dq_ME_init_13 : decode (fx_cc mq_ME_init) 13 = .ok (.aload_n 0, 1) := by decide +kernel
theorem dq_ME_init_14 : decode (fx_cc mq_ME_init) 14 = .ok (.new 15, 3) := by decide +kernel
theorem dq_ME_init_17 : decode (fx_cc mq_ME_init) 17 = .ok (.dup, 1) := by decide +kernel
theorem dq_ME_init_18 : decode (fx_cc mq_ME_init) 18 = .ok (.invokespecial 17, 3) := by decide +kernel
theorem dq_ME_init_21 : decode (fx_cc mq_ME_init) 21 = .ok (.putfield 18, 3) := by decide +kernel
theorem dq_ME_init_24 : decode (fx_cc mq_ME_init) 24 = .ok (.return_, 1) := by decide +kernel
theorem dq_MI_init_0 : decode (fx_cc mq_MI_init) 0 = .ok (.aload_n 0, 1) := by decide +kernel
theorem dq_MI_init_1 : decode (fx_cc mq_MI_init) 1 = .ok (.invokespecial 3, 3) := by decide +kernel
theorem dq_MI_init_4 : decode (fx_cc mq_MI_init) 4 = .ok (.aload_n 0, 1) := by decide +kernel
theorem dq_MI_init_5 : decode (fx_cc mq_MI_init) 5 = .ok (.bipush 7, 2) := by decide +kernel
theorem dq_MI_init_7 : decode (fx_cc mq_MI_init) 7 = .ok (.anewarray 9, 3) := by decide +kernel
theorem dq_MI_init_10 : decode (fx_cc mq_MI_init) 10 = .ok (.putfield 11, 3) := by decide +kernel
theorem dq_MI_init_13 : decode (fx_cc mq_MI_init) 13 = .ok (.iconst 0, 1) := by decide +kernel
theorem dq_MI_init_14 : decode (fx_cc mq_MI_init) 14 = .ok (.istore_n 1, 1) := by decide +kernel
theorem dq_MI_init_15 : decode (fx_cc mq_MI_init) 15 = .ok (.iload_n 1, 1) := by decide +kernel
theorem dq_MI_init_16 : decode (fx_cc mq_MI_init) 16 = .ok (.bipush 6, 2) := by decide +kernel
theorem dq_MI_init_18 : decode (fx_cc mq_MI_init) 18 = .ok (.if_icmp .gt 22, 3) := by decide +kernel
theorem dq_MI_init_21 : decode (fx_cc mq_MI_init) 21 = .ok (.aload_n 0, 1) := by decide +kernel
theorem dq_MI_init_22 : decode (fx_cc mq_MI_init) 22 = .ok (.getfield 11, 3) := by decide +kernel
theorem dq_MI_init_25 : decode (fx_cc mq_MI_init) 25 = .ok (.iload_n 1, 1) := by decide +kernel
theorem dq_MI_init_26 : decode (fx_cc mq_MI_init) 26 = .ok (.new 9, 3) := by decide +kernel
theorem dq_MI_init_29 : decode (fx_cc mq_MI_init) 29 = .ok (.dup, 1) := by decide +kernel
theorem dq_MI_init_30 : decode (fx_cc mq_MI_init) 30 = .ok (.invokespecial 17, 3) := by decide +kernel
theorem dq_MI_init_33 : decode (fx_cc mq_MI_init) 33 = .ok (.aastore, 1) := by decide +kernel
theorem dq_MI_init_34 : decode (fx_cc mq_MI_init) 34 = .ok (.iinc 1 1, 3) := by decide +kernel
theorem dq_MI_init_37 : decode (fx_cc mq_MI_init) 37 = .ok (.goto (-22), 3) := by decide +kernel
theorem dq_MI_init_40 : decode (fx_cc mq_MI_init) 40 = .ok (.return_, 1) := by decide +kernel
theorem dq_BE_init_0 : decode (fx_cc mq_BE_init) 0 = .ok (.aload_n 0, 1) := by decide +kernel
theorem dq_BE_init_1 : decode (fx_cc mq_BE_init) 1 = .ok (.invokespecial 3, 3) := by decide +kernel
theorem dq_BE_init_4 : decode (fx_cc mq_BE_init) 4 = .ok (.aload_n 0, 1) := by decide +kernel
theorem dq_BE_init_5 : decode (fx_cc mq_BE_init) 5 = .ok (.new 9, 3) := by decide +kernel
theorem dq_BE_init_8 : decode (fx_cc mq_BE_init) 8 = .ok (.dup, 1) := by decide +kernel
theorem dq_BE_init_9 : decode (fx_cc mq_BE_init) 9 = .ok (.invokespecial 11, 3) := by decide +kernel
theorem dq_BE_init_12 : decode (fx_cc mq_BE_init) 12 = .ok (.putfield 12, 3) := by decide +kernel
theorem dq_BE_init_15 : decode (fx_cc mq_BE_init) 15 = .ok (.aload_n 0, 1) := by decide +kernel
theorem dq_BE_init_16 : decode (fx_cc mq_BE_init) 16 = .ok (.sipush 200, 3) := by decide +kernel
theorem dq_BE_init_19 : decode (fx_cc mq_BE_init) 19 = .ok (.newarray .int, 2) := by decide +kernel
theorem dq_BE_init_21 : decode (fx_cc mq_BE_init) 21 = .ok (.putfield 18, 3) := by decide +kernel
theorem dq_BE_init_24 : decode (fx_cc mq_BE_init) 24 = .ok (.aload_n 0, 1) := by decide +kernel
theorem dq_BE_init_25 : decode (fx_cc mq_BE_init) 25 = .ok (.sipush 200, 3) := by decide +kernel
theorem dq_BE_init_28 : decode (fx_cc mq_BE_init) 28 = .ok (.newarray .int, 2) := by decide +kernel
theorem dq_BE_init_30 : decode (fx_cc mq_BE_init) 30 = .ok (.putfield 22, 3) := by decide +kernel
theorem dq_BE_init_33 : decode (fx_cc mq_BE_init) 33 = .ok (.return_, 1) := by decide +kernel
theorem dq_FS_scan_0 : decode (fx_cc mq_FS_scan) 0 = .ok (.aload_n 0, 1) := by decide +kernel
theorem dq_FS_scan_1 : decode (fx_cc mq_FS_scan) 1 = .ok (.getfield 26, 3) := by decide +kernel
theorem dq_FS_scan_4 : decode (fx_cc mq_FS_scan) 4 = .ok (.getfield 174, 3) := by decide +kernel
theorem dq_FS_scan_7 : decode (fx_cc mq_FS_scan) 7 = .ok (.bipush 10, 2) := by decide +kernel
theorem dq_FS_scan_9 : decode (fx_cc mq_FS_scan) 9 = .ok (.if_icmp .ge 18, 3) := by decide +kernel
theorem dq_FS_scan_12 : decode (fx_cc mq_FS_scan) 12 = .ok (.aload_n 0, 1) := by decide +kernel
theorem dq_FS_scan_13 : decode (fx_cc mq_FS_scan) 13 = .ok (.getfield 26, 3) := by decide +kernel
theorem dq_FS_scan_16 : decode (fx_cc mq_FS_scan) 16 = .ok (.aload_n 0, 1) := by decide +kernel
theorem dq_FS_scan_17 : decode (fx_cc mq_FS_scan) 17 = .ok (.getfield 19, 3) := by decide +kernel
theorem dq_FS_scan_20 : decode (fx_cc mq_FS_scan) 20 = .ok (.getfield 177, 3) := by decide +kernel
theorem dq_FS_scan_23 : decode (fx_cc mq_FS_scan) 23 = .ok (.invokevirtual 181, 3) := by decide +kernel
theorem dq_FS_scan_26 : decode (fx_cc mq_FS_scan) 26 = .ok (.ireturn, 1) := by decide +kernel
theorem dq_FS_scan_27 : decode (fx_cc mq_FS_scan) 27 = .ok (.aload_n 0, 1) := by decide +kernel
theorem dq_FS_scan_28 : decode (fx_cc mq_FS_scan) 28 = .ok (.getfield 26, 3) := by decide +kernel
theorem dq_FS_scan_31 : decode (fx_cc mq_FS_scan) 31 = .ok (.aload_n 0, 1) := by decide +kernel
theorem dq_FS_scan_32 : decode (fx_cc mq_FS_scan) 32 = .ok (.getfield 19, 3) := by decide +kernel
theorem dq_FS_scan_35 : decode (fx_cc mq_FS_scan) 35 = .ok (.getfield 185, 3) := by decide +kernel
theorem dq_FS_scan_38 : decode (fx_cc mq_FS_scan) 38 = .ok (.invokevirtual 188, 3) := by decide +kernel
theorem dq_FS_scan_41 : decode (fx_cc mq_FS_scan) 41 = .ok (.aload_n 0, 1) := by decide +kernel
theorem dq_FS_scan_42 : decode (fx_cc mq_FS_scan) 42 = .ok (.getfield 19, 3) := by decide +kernel
theorem dq_FS_scan_45 : decode (fx_cc mq_FS_scan) 45 = .ok (.getfield 163, 3) := by decide +kernel
theorem dq_FS_scan_48 : decode (fx_cc mq_FS_scan) 48 = .ok (.iconst 2, 1) := by decide +kernel
theorem dq_FS_scan_49 : decode (fx_cc mq_FS_scan) 49 = .ok (.if_icmp .ne 27, 3) := by decide +kernel
theorem dq_FS_scan_52 : decode (fx_cc mq_FS_scan) 52 = .ok (.aload_n 0, 1) := by decide +kernel
theorem dq_FS_scan_53 : decode (fx_cc mq_FS_scan) 53 = .ok (.getfield 19, 3) := by decide +kernel
theorem dq_FS_scan_56 : decode (fx_cc mq_FS_scan) 56 = .ok (.invokevirtual 191, 3) := by decide +kernel
theorem dq_FS_scan_59 : decode (fx_cc mq_FS_scan) 59 = .ok (.aload_n 0, 1) := by decide +kernel
theorem dq_FS_scan_60 : decode (fx_cc mq_FS_scan) 60 = .ok (.getfield 26, 3) := by decide +kernel
theorem dq_FS_scan_63 : decode (fx_cc mq_FS_scan) 63 = .ok (.getfield 194, 3) := by decide +kernel
theorem dq_FS_scan_66 : decode (fx_cc mq_FS_scan) 66 = .ok (.aload_n 0, 1) := by decide +kernel
theorem dq_FS_scan_67 : decode (fx_cc mq_FS_scan) 67 = .ok (.getfield 19, 3) := by decide +kernel
theorem dq_FS_scan_70 : decode (fx_cc mq_FS_scan) 70 = .ok (.getfield 198, 3) := by decide +kernel
theorem dq_FS_scan_73 : decode (fx_cc mq_FS_scan) 73 = .ok (.invokevirtual 201, 3) := by decide +kernel
theorem dq_FS_scan_76 : decode (fx_cc mq_FS_scan) 76 = .ok (.iconst (-1), 1) := by decide +kernel
theorem dq_FS_scan_77 : decode (fx_cc mq_FS_scan) 77 = .ok (.ireturn, 1) := by decide +kernel
theorem dq_BE_scanRow_0 : decode (fx_cc mq_BE_scanRow) 0 = .ok (.aload_n 0, 1) := by decide +kernel
theorem dq_BE_scanRow_1 : decode (fx_cc mq_BE_scanRow) 1 = .ok (.getfield 25, 3) := by decide +kernel
theorem dq_BE_scanRow_4 : decode (fx_cc mq_BE_scanRow) 4 = .ok (.bipush 20, 2) := by decide +kernel
theorem dq_BE_scanRow_6 : decode (fx_cc mq_BE_scanRow) 6 = .ok (.imul, 1) := by decide +kernel
theorem dq_BE_scanRow_7 : decode (fx_cc mq_BE_scanRow) 7 = .ok (.istore_n 2, 1) := by decide +kernel
theorem dq_BE_scanRow_8 : decode (fx_cc mq_BE_scanRow) 8 = .ok (.aload_n 1, 1) := by decide +kernel
theorem dq_BE_scanRow_9 : decode (fx_cc mq_BE_scanRow) 9 = .ok (.getfield 29, 3) := by decide +kernel
theorem dq_BE_scanRow_12 : decode (fx_cc mq_BE_scanRow) 12 = .ok (.iload_n 2, 1) := by decide +kernel
theorem dq_BE_scanRow_13 : decode (fx_cc mq_BE_scanRow) 13 = .ok (.aload_n 0, 1) := by decide +kernel
theorem dq_BE_scanRow_14 : decode (fx_cc mq_BE_scanRow) 14 = .ok (.getfield 18, 3) := by decide +kernel
theorem dq_BE_scanRow_17 : decode (fx_cc mq_BE_scanRow) 17 = .ok (.iload_n 2, 1) := by decide +kernel
theorem dq_BE_scanRow_18 : decode (fx_cc mq_BE_scanRow) 18 = .ok (.bipush 20, 2) := by decide +kernel
theorem dq_BE_scanRow_20 : decode (fx_cc mq_BE_scanRow) 20 = .ok (.invokestatic 34, 3) := by decide +kernel
theorem dq_BE_scanRow_23 : decode (fx_cc mq_BE_scanRow) 23 = .ok (.aload_n 0, 1) := by decide +kernel
theorem dq_BE_scanRow_24 : decode (fx_cc mq_BE_scanRow) 24 = .ok (.getfield 12, 3) := by decide +kernel
theorem dq_BE_scanRow_27 : decode (fx_cc mq_BE_scanRow) 27 = .ok (.aload_n 0, 1) := by decide +kernel
theorem dq_BE_scanRow_28 : decode (fx_cc mq_BE_scanRow) 28 = .ok (.getfield 18, 3) := by decide +kernel
theorem dq_BE_scanRow_31 : decode (fx_cc mq_BE_scanRow) 31 = .ok (.aload_n 0, 1) := by decide +kernel
theorem dq_BE_scanRow_32 : decode (fx_cc mq_BE_scanRow) 32 = .ok (.getfield 25, 3) := by decide +kernel
theorem dq_BE_scanRow_35 : decode (fx_cc mq_BE_scanRow) 35 = .ok (.invokevirtual 40, 3) := by decide +kernel
theorem dq_BE_scanRow_38 : decode (fx_cc mq_BE_scanRow) 38 = .ok (.aload_n 0, 1) := by decide +kernel
theorem dq_BE_scanRow_39 : decode (fx_cc mq_BE_scanRow) 39 = .ok (.dup, 1) := by decide +kernel
theorem dq_BE_scanRow_40 : decode (fx_cc mq_BE_scanRow) 40 = .ok (.getfield 25, 3) := by decide +kernel
theorem dq_BE_scanRow_43 : decode (fx_cc mq_BE_scanRow) 43 = .ok (.iconst 1, 1) := by decide +kernel
theorem dq_BE_scanRow_44 : decode (fx_cc mq_BE_scanRow) 44 = .ok (.iadd, 1) := by decide +kernel
theorem dq_BE_scanRow_45 : decode (fx_cc mq_BE_scanRow) 45 = .ok (.putfield 25, 3) := by decide +kernel
theorem dq_BE_scanRow_48 : decode (fx_cc mq_BE_scanRow) 48 = .ok (.aload_n 0, 1) := by decide +kernel
theorem dq_BE_scanRow_49 : decode (fx_cc mq_BE_scanRow) 49 = .ok (.getfield 25, 3) := by decide +kernel
theorem dq_BE_scanRow_52 : decode (fx_cc mq_BE_scanRow) 52 = .ok (.iconst 1, 1) := by decide +kernel
theorem dq_BE_scanRow_53 : decode (fx_cc mq_BE_scanRow) 53 = .ok (.isub, 1) := by decide +kernel
theorem dq_BE_scanRow_54 : decode (fx_cc mq_BE_scanRow) 54 = .ok (.ireturn, 1) := by decide +kernel
theorem dq_PN_mixInto_0 : decode (fx_cc mq_PN_mixInto) 0 = .ok (.iconst 0, 1) := by decide +kernel
theorem dq_PN_mixInto_1 : decode (fx_cc mq_PN_mixInto) 1 = .ok (.istore_n 3, 1) := by decide +kernel
theorem dq_PN_mixInto_2 : decode (fx_cc mq_PN_mixInto) 2 = .ok (.iload_n 3, 1) := by decide +kernel
theorem dq_PN_mixInto_3 : decode (fx_cc mq_PN_mixInto) 3 = .ok (.iconst 2, 1) := by decide +kernel
theorem dq_PN_mixInto_4 : decode (fx_cc mq_PN_mixInto) 4 = .ok (.if_icmp .ge 93, 3) := by decide +kernel
theorem dq_PN_mixInto_7 : decode (fx_cc mq_PN_mixInto) 7 = .ok (.aload_n 0, 1) := by decide +kernel
theorem dq_PN_mixInto_8 : decode (fx_cc mq_PN_mixInto) 8 = .ok (.getfield 18, 3) := by decide +kernel
theorem dq_PN_mixInto_11 : decode (fx_cc mq_PN_mixInto) 11 = .ok (.iload_n 3, 1) := by decide +kernel
theorem dq_PN_mixInto_12 : decode (fx_cc mq_PN_mixInto) 12 = .ok (.aaload, 1) := by decide +kernel
theorem dq_PN_mixInto_13 : decode (fx_cc mq_PN_mixInto) 13 = .ok (.astore 4, 2) := by decide +kernel
theorem dq_PN_mixInto_15 : decode (fx_cc mq_PN_mixInto) 15 = .ok (.aload_n 0, 1) := by decide +kernel
theorem dq_PN_mixInto_16 : decode (fx_cc mq_PN_mixInto) 16 = .ok (.getfield 9, 3) := by decide +kernel
theorem dq_PN_mixInto_19 : decode (fx_cc mq_PN_mixInto) 19 = .ok (.iload_n 3, 1) := by decide +kernel
theorem dq_PN_mixInto_20 : decode (fx_cc mq_PN_mixInto) 20 = .ok (.iaload, 1) := by decide +kernel
theorem dq_PN_mixInto_21 : decode (fx_cc mq_PN_mixInto) 21 = .ok (.iconst (-1), 1) := by decide +kernel
theorem dq_PN_mixInto_22 : decode (fx_cc mq_PN_mixInto) 22 = .ok (.if_icmp .eq 69, 3) := by decide +kernel
theorem dq_PN_mixInto_25 : decode (fx_cc mq_PN_mixInto) 25 = .ok (.iload_n 2, 1) := by decide +kernel
theorem dq_PN_mixInto_26 : decode (fx_cc mq_PN_mixInto) 26 = .ok (.aload 4, 2) := by decide +kernel
theorem dq_PN_mixInto_28 : decode (fx_cc mq_PN_mixInto) 28 = .ok (.getfield 84, 3) := by decide +kernel
theorem dq_PN_mixInto_31 : decode (fx_cc mq_PN_mixInto) 31 = .ok (.if_icmp .lt 60, 3) := by decide +kernel
theorem dq_PN_mixInto_34 : decode (fx_cc mq_PN_mixInto) 34 = .ok (.iload_n 2, 1) := by decide +kernel
theorem dq_PN_mixInto_35 : decode (fx_cc mq_PN_mixInto) 35 = .ok (.aload 4, 2) := by decide +kernel
theorem dq_PN_mixInto_37 : decode (fx_cc mq_PN_mixInto) 37 = .ok (.getfield 84, 3) := by decide +kernel
theorem dq_PN_mixInto_40 : decode (fx_cc mq_PN_mixInto) 40 = .ok (.aload 4, 2) := by decide +kernel
theorem dq_PN_mixInto_42 : decode (fx_cc mq_PN_mixInto) 42 = .ok (.getfield 87, 3) := by decide +kernel
theorem dq_PN_mixInto_45 : decode (fx_cc mq_PN_mixInto) 45 = .ok (.iadd, 1) := by decide +kernel
theorem dq_PN_mixInto_46 : decode (fx_cc mq_PN_mixInto) 46 = .ok (.if_icmp .ge 45, 3) := by decide +kernel
theorem dq_PN_mixInto_49 : decode (fx_cc mq_PN_mixInto) 49 = .ok (.iload_n 2, 1) := by decide +kernel
theorem dq_PN_mixInto_50 : decode (fx_cc mq_PN_mixInto) 50 = .ok (.aload 4, 2) := by decide +kernel
theorem dq_PN_mixInto_52 : decode (fx_cc mq_PN_mixInto) 52 = .ok (.getfield 84, 3) := by decide +kernel
theorem dq_PN_mixInto_55 : decode (fx_cc mq_PN_mixInto) 55 = .ok (.isub, 1) := by decide +kernel
theorem dq_PN_mixInto_56 : decode (fx_cc mq_PN_mixInto) 56 = .ok (.aload 4, 2) := by decide +kernel
theorem dq_PN_mixInto_58 : decode (fx_cc mq_PN_mixInto) 58 = .ok (.getfield 93, 3) := by decide +kernel
theorem dq_PN_mixInto_61 : decode (fx_cc mq_PN_mixInto) 61 = .ok (.imul, 1) := by decide +kernel
theorem dq_PN_mixInto_62 : decode (fx_cc mq_PN_mixInto) 62 = .ok (.istore 5, 2) := by decide +kernel
theorem dq_PN_mixInto_64 : decode (fx_cc mq_PN_mixInto) 64 = .ok (.aload_n 0, 1) := by decide +kernel
theorem dq_PN_mixInto_65 : decode (fx_cc mq_PN_mixInto) 65 = .ok (.getfield 24, 3) := by decide +kernel
theorem dq_PN_mixInto_68 : decode (fx_cc mq_PN_mixInto) 68 = .ok (.iload_n 3, 1) := by decide +kernel
theorem dq_PN_mixInto_69 : decode (fx_cc mq_PN_mixInto) 69 = .ok (.aaload, 1) := by decide +kernel
theorem dq_PN_mixInto_70 : decode (fx_cc mq_PN_mixInto) 70 = .ok (.iload 5, 2) := by decide +kernel
theorem dq_PN_mixInto_72 : decode (fx_cc mq_PN_mixInto) 72 = .ok (.aload_n 1, 1) := by decide +kernel
theorem dq_PN_mixInto_73 : decode (fx_cc mq_PN_mixInto) 73 = .ok (.iload_n 2, 1) := by decide +kernel
theorem dq_PN_mixInto_74 : decode (fx_cc mq_PN_mixInto) 74 = .ok (.bipush 20, 2) := by decide +kernel
theorem dq_PN_mixInto_76 : decode (fx_cc mq_PN_mixInto) 76 = .ok (.imul, 1) := by decide +kernel
theorem dq_PN_mixInto_77 : decode (fx_cc mq_PN_mixInto) 77 = .ok (.aload 4, 2) := by decide +kernel
theorem dq_PN_mixInto_79 : decode (fx_cc mq_PN_mixInto) 79 = .ok (.getfield 90, 3) := by decide +kernel
theorem dq_PN_mixInto_82 : decode (fx_cc mq_PN_mixInto) 82 = .ok (.iadd, 1) := by decide +kernel
theorem dq_PN_mixInto_83 : decode (fx_cc mq_PN_mixInto) 83 = .ok (.aload 4, 2) := by decide +kernel
theorem dq_PN_mixInto_85 : decode (fx_cc mq_PN_mixInto) 85 = .ok (.getfield 93, 3) := by decide +kernel
theorem dq_PN_mixInto_88 : decode (fx_cc mq_PN_mixInto) 88 = .ok (.invokestatic 31, 3) := by decide +kernel
theorem dq_PN_mixInto_91 : decode (fx_cc mq_PN_mixInto) 91 = .ok (.iinc 3 1, 3) := by decide +kernel
theorem dq_PN_mixInto_94 : decode (fx_cc mq_PN_mixInto) 94 = .ok (.goto (-92), 3) := by decide +kernel
theorem dq_PN_mixInto_97 : decode (fx_cc mq_PN_mixInto) 97 = .ok (.return_, 1) := by decide +kernel
theorem dq_BE_endFrame_0 : decode (fx_cc mq_BE_endFrame) 0 = .ok (.aload_n 0, 1) := by decide +kernel
theorem dq_BE_endFrame_1 : decode (fx_cc mq_BE_endFrame) 1 = .ok (.getfield 18, 3) := by decide +kernel
theorem dq_BE_endFrame_4 : decode (fx_cc mq_BE_endFrame) 4 = .ok (.iconst 0, 1) := by decide +kernel
theorem dq_BE_endFrame_5 : decode (fx_cc mq_BE_endFrame) 5 = .ok (.aload_n 0, 1) := by decide +kernel
theorem dq_BE_endFrame_6 : decode (fx_cc mq_BE_endFrame) 6 = .ok (.getfield 22, 3) := by decide +kernel
theorem dq_BE_endFrame_9 : decode (fx_cc mq_BE_endFrame) 9 = .ok (.iconst 0, 1) := by decide +kernel
theorem dq_BE_endFrame_10 : decode (fx_cc mq_BE_endFrame) 10 = .ok (.aload_n 0, 1) := by decide +kernel
theorem dq_BE_endFrame_11 : decode (fx_cc mq_BE_endFrame) 11 = .ok (.getfield 22, 3) := by decide +kernel
theorem dq_BE_endFrame_14 : decode (fx_cc mq_BE_endFrame) 14 = .ok (.arraylength, 1) := by decide +kernel
theorem dq_BE_endFrame_15 : decode (fx_cc mq_BE_endFrame) 15 = .ok (.invokestatic 34, 3) := by decide +kernel
theorem dq_BE_endFrame_18 : decode (fx_cc mq_BE_endFrame) 18 = .ok (.aload_n 0, 1) := by decide +kernel
theorem dq_BE_endFrame_19 : decode (fx_cc mq_BE_endFrame) 19 = .ok (.iload_n 1, 1) := by decide +kernel
theorem dq_BE_endFrame_20 : decode (fx_cc mq_BE_endFrame) 20 = .ok (.putfield 44, 3) := by decide +kernel
theorem dq_BE_endFrame_23 : decode (fx_cc mq_BE_endFrame) 23 = .ok (.aload_n 0, 1) := by decide +kernel
theorem dq_BE_endFrame_24 : decode (fx_cc mq_BE_endFrame) 24 = .ok (.dup, 1) := by decide +kernel
theorem dq_BE_endFrame_25 : decode (fx_cc mq_BE_endFrame) 25 = .ok (.getfield 47, 3) := by decide +kernel
theorem dq_BE_endFrame_28 : decode (fx_cc mq_BE_endFrame) 28 = .ok (.iconst 1, 1) := by decide +kernel
theorem dq_BE_endFrame_29 : decode (fx_cc mq_BE_endFrame) 29 = .ok (.iadd, 1) := by decide +kernel
theorem dq_BE_endFrame_30 : decode (fx_cc mq_BE_endFrame) 30 = .ok (.putfield 47, 3) := by decide +kernel
theorem dq_BE_endFrame_33 : decode (fx_cc mq_BE_endFrame) 33 = .ok (.aload_n 0, 1) := by decide +kernel
theorem dq_BE_endFrame_34 : decode (fx_cc mq_BE_endFrame) 34 = .ok (.iconst 0, 1) := by decide +kernel
theorem dq_BE_endFrame_35 : decode (fx_cc mq_BE_endFrame) 35 = .ok (.putfield 25, 3) := by decide +kernel
theorem dq_BE_endFrame_38 : decode (fx_cc mq_BE_endFrame) 38 = .ok (.return_, 1) := by decide +kernel
theorem dq_CO_swap_0 : decode (fx_cc mq_CO_swap) 0 = .ok (.aload_n 0, 1) := by decide +kernel
theorem dq_CO_swap_1 : decode (fx_cc mq_CO_swap) 1 = .ok (.getfield 38, 3) := by decide +kernel
theorem dq_CO_swap_4 : decode (fx_cc mq_CO_swap) 4 = .ok (.astore_n 1, 1) := by decide +kernel
theorem dq_CO_swap_5 : decode (fx_cc mq_CO_swap) 5 = .ok (.aload_n 0, 1) := by decide +kernel
theorem dq_CO_swap_6 : decode (fx_cc mq_CO_swap) 6 = .ok (.aload_n 0, 1) := by decide +kernel
theorem dq_CO_swap_7 : decode (fx_cc mq_CO_swap) 7 = .ok (.getfield 42, 3) := by decide +kernel
theorem dq_CO_swap_10 : decode (fx_cc mq_CO_swap) 10 = .ok (.putfield 38, 3) := by decide +kernel
theorem dq_CO_swap_13 : decode (fx_cc mq_CO_swap) 13 = .ok (.aload_n 0, 1) := by decide +kernel
theorem dq_CO_swap_14 : decode (fx_cc mq_CO_swap) 14 = .ok (.aload_n 1, 1) := by decide +kernel
theorem dq_CO_swap_15 : decode (fx_cc mq_CO_swap) 15 = .ok (.putfield 42, 3) := by decide +kernel
theorem dq_CO_swap_18 : decode (fx_cc mq_CO_swap) 18 = .ok (.aload_n 0, 1) := by decide +kernel
theorem dq_CO_swap_19 : decode (fx_cc mq_CO_swap) 19 = .ok (.aload_n 0, 1) := by decide +kernel
theorem dq_CO_swap_20 : decode (fx_cc mq_CO_swap) 20 = .ok (.getfield 65, 3) := by decide +kernel
theorem dq_CO_swap_23 : decode (fx_cc mq_CO_swap) 23 = .ok (.putfield 148, 3) := by decide +kernel
theorem dq_CO_swap_26 : decode (fx_cc mq_CO_swap) 26 = .ok (.aload_n 0, 1) := by decide +kernel
theorem dq_CO_swap_27 : decode (fx_cc mq_CO_swap) 27 = .ok (.iconst 0, 1) := by decide +kernel
theorem dq_CO_swap_28 : decode (fx_cc mq_CO_swap) 28 = .ok (.putfield 45, 3) := by decide +kernel
theorem dq_CO_swap_31 : decode (fx_cc mq_CO_swap) 31 = .ok (.return_, 1) := by decide +kernel
theorem dq_PN_become_0 : decode (fx_cc mq_PN_become) 0 = .ok (.iconst 0, 1) := by decide +kernel
theorem dq_PN_become_1 : decode (fx_cc mq_PN_become) 1 = .ok (.istore_n 2, 1) := by decide +kernel
theorem dq_PN_become_2 : decode (fx_cc mq_PN_become) 2 = .ok (.iload_n 2, 1) := by decide +kernel
theorem dq_PN_become_3 : decode (fx_cc mq_PN_become) 3 = .ok (.iconst 2, 1) := by decide +kernel
theorem dq_PN_become_4 : decode (fx_cc mq_PN_become) 4 = .ok (.if_icmp .ge 55, 3) := by decide +kernel
theorem dq_PN_become_7 : decode (fx_cc mq_PN_become) 7 = .ok (.aload_n 0, 1) := by decide +kernel
theorem dq_PN_become_8 : decode (fx_cc mq_PN_become) 8 = .ok (.getfield 9, 3) := by decide +kernel
theorem dq_PN_become_11 : decode (fx_cc mq_PN_become) 11 = .ok (.iload_n 2, 1) := by decide +kernel
theorem dq_PN_become_12 : decode (fx_cc mq_PN_become) 12 = .ok (.aload_n 1, 1) := by decide +kernel
theorem dq_PN_become_13 : decode (fx_cc mq_PN_become) 13 = .ok (.getfield 9, 3) := by decide +kernel
theorem dq_PN_become_16 : decode (fx_cc mq_PN_become) 16 = .ok (.iload_n 2, 1) := by decide +kernel
theorem dq_PN_become_17 : decode (fx_cc mq_PN_become) 17 = .ok (.iaload, 1) := by decide +kernel
theorem dq_PN_become_18 : decode (fx_cc mq_PN_become) 18 = .ok (.iastore, 1) := by decide +kernel
theorem dq_PN_become_19 : decode (fx_cc mq_PN_become) 19 = .ok (.aload_n 0, 1) := by decide +kernel
theorem dq_PN_become_20 : decode (fx_cc mq_PN_become) 20 = .ok (.getfield 18, 3) := by decide +kernel
theorem dq_PN_become_23 : decode (fx_cc mq_PN_become) 23 = .ok (.iload_n 2, 1) := by decide +kernel
theorem dq_PN_become_24 : decode (fx_cc mq_PN_become) 24 = .ok (.aaload, 1) := by decide +kernel
theorem dq_PN_become_25 : decode (fx_cc mq_PN_become) 25 = .ok (.aload_n 1, 1) := by decide +kernel
theorem dq_PN_become_26 : decode (fx_cc mq_PN_become) 26 = .ok (.getfield 18, 3) := by decide +kernel
theorem dq_PN_become_29 : decode (fx_cc mq_PN_become) 29 = .ok (.iload_n 2, 1) := by decide +kernel
theorem dq_PN_become_30 : decode (fx_cc mq_PN_become) 30 = .ok (.aaload, 1) := by decide +kernel
theorem dq_PN_become_31 : decode (fx_cc mq_PN_become) 31 = .ok (.invokevirtual 27, 3) := by decide +kernel
theorem dq_PN_become_34 : decode (fx_cc mq_PN_become) 34 = .ok (.aload_n 1, 1) := by decide +kernel
theorem dq_PN_become_35 : decode (fx_cc mq_PN_become) 35 = .ok (.getfield 24, 3) := by decide +kernel
theorem dq_PN_become_38 : decode (fx_cc mq_PN_become) 38 = .ok (.iload_n 2, 1) := by decide +kernel
theorem dq_PN_become_39 : decode (fx_cc mq_PN_become) 39 = .ok (.aaload, 1) := by decide +kernel
theorem dq_PN_become_40 : decode (fx_cc mq_PN_become) 40 = .ok (.iconst 0, 1) := by decide +kernel
theorem dq_PN_become_41 : decode (fx_cc mq_PN_become) 41 = .ok (.aload_n 0, 1) := by decide +kernel
theorem dq_PN_become_42 : decode (fx_cc mq_PN_become) 42 = .ok (.getfield 24, 3) := by decide +kernel
theorem dq_PN_become_45 : decode (fx_cc mq_PN_become) 45 = .ok (.iload_n 2, 1) := by decide +kernel
theorem dq_PN_become_46 : decode (fx_cc mq_PN_become) 46 = .ok (.aaload, 1) := by decide +kernel
theorem dq_PN_become_47 : decode (fx_cc mq_PN_become) 47 = .ok (.iconst 0, 1) := by decide +kernel
theorem dq_PN_become_48 : decode (fx_cc mq_PN_become) 48 = .ok (.bipush 24, 2) := by decide +kernel
theorem dq_PN_become_50 : decode (fx_cc mq_PN_become) 50 = .ok (.invokestatic 31, 3) := by decide +kernel
theorem dq_PN_become_53 : decode (fx_cc mq_PN_become) 53 = .ok (.iinc 2 1, 3) := by decide +kernel
theorem dq_PN_become_56 : decode (fx_cc mq_PN_become) 56 = .ok (.goto (-54), 3) := by decide +kernel
theorem dq_PN_become_59 : decode (fx_cc mq_PN_become) 59 = .ok (.return_, 1) := by decide +kernel
theorem dq_RE_become_0 : decode (fx_cc mq_RE_become) 0 = .ok (.aload_n 0, 1) := by decide +kernel
theorem dq_RE_become_1 : decode (fx_cc mq_RE_become) 1 = .ok (.aload_n 1, 1) := by decide +kernel
theorem dq_RE_become_2 : decode (fx_cc mq_RE_become) 2 = .ok (.getfield 7, 3) := by decide +kernel
theorem dq_RE_become_5 : decode (fx_cc mq_RE_become) 5 = .ok (.aload_n 1, 1) := by decide +kernel
theorem dq_RE_become_6 : decode (fx_cc mq_RE_become) 6 = .ok (.getfield 13, 3) := by decide +kernel
theorem dq_RE_become_9 : decode (fx_cc mq_RE_become) 9 = .ok (.aload_n 1, 1) := by decide +kernel
theorem dq_RE_become_10 : decode (fx_cc mq_RE_become) 10 = .ok (.getfield 16, 3) := by decide +kernel
theorem dq_RE_become_13 : decode (fx_cc mq_RE_become) 13 = .ok (.aload_n 1, 1) := by decide +kernel
theorem dq_RE_become_14 : decode (fx_cc mq_RE_become) 14 = .ok (.getfield 19, 3) := by decide +kernel
theorem dq_RE_become_17 : decode (fx_cc mq_RE_become) 17 = .ok (.invokevirtual 22, 3) := by decide +kernel
theorem dq_RE_become_20 : decode (fx_cc mq_RE_become) 20 = .ok (.return_, 1) := by decide +kernel
theorem dq_RE_set_0 : decode (fx_cc mq_RE_set) 0 = .ok (.aload_n 0, 1) := by decide +kernel
theorem dq_RE_set_1 : decode (fx_cc mq_RE_set) 1 = .ok (.iload_n 1, 1) := by decide +kernel
theorem dq_RE_set_2 : decode (fx_cc mq_RE_set) 2 = .ok (.putfield 7, 3) := by decide +kernel
theorem dq_RE_set_5 : decode (fx_cc mq_RE_set) 5 = .ok (.aload_n 0, 1) := by decide +kernel
theorem dq_RE_set_6 : decode (fx_cc mq_RE_set) 6 = .ok (.iload_n 2, 1) := by decide +kernel
theorem dq_RE_set_7 : decode (fx_cc mq_RE_set) 7 = .ok (.putfield 13, 3) := by decide +kernel
theorem dq_RE_set_10 : decode (fx_cc mq_RE_set) 10 = .ok (.aload_n 0, 1) := by decide +kernel
theorem dq_RE_set_11 : decode (fx_cc mq_RE_set) 11 = .ok (.iload_n 3, 1) := by decide +kernel
theorem dq_RE_set_12 : decode (fx_cc mq_RE_set) 12 = .ok (.putfield 16, 3) := by decide +kernel
theorem dq_RE_set_15 : decode (fx_cc mq_RE_set) 15 = .ok (.aload_n 0, 1) := by decide +kernel
theorem dq_RE_set_16 : decode (fx_cc mq_RE_set) 16 = .ok (.iload 4, 2) := by decide +kernel
theorem dq_RE_set_18 : decode (fx_cc mq_RE_set) 18 = .ok (.putfield 19, 3) := by decide +kernel
theorem dq_RE_set_21 : decode (fx_cc mq_RE_set) 21 = .ok (.return_, 1) := by decide +kernel
theorem dq_FS_state_0 : decode (fx_cc mq_FS_state) 0 = .ok (.aload_n 0, 1) := by decide +kernel
theorem dq_FS_state_1 : decode (fx_cc mq_FS_state) 1 = .ok (.getfield 19, 3) := by decide +kernel
theorem dq_FS_state_4 : decode (fx_cc mq_FS_state) 4 = .ok (.getfield 163, 3) := by decide +kernel
theorem dq_FS_state_7 : decode (fx_cc mq_FS_state) 7 = .ok (.ireturn, 1) := by decide +kernel
theorem dq_FS_seen_0 : decode (fx_cc mq_FS_seen) 0 = .ok (.iload_n 1, 1) := by decide +kernel
theorem dq_FS_seen_1 : decode (fx_cc mq_FS_seen) 1 = .ok (.iload_n 2, 1) := by decide +kernel
theorem dq_FS_seen_2 : decode (fx_cc mq_FS_seen) 2 = .ok (.invokestatic 206, 3) := by decide +kernel
theorem dq_FS_seen_5 : decode (fx_cc mq_FS_seen) 5 = .ok (.ifCond .eq 20, 3) := by decide +kernel
theorem dq_FS_seen_8 : decode (fx_cc mq_FS_seen) 8 = .ok (.aload_n 0, 1) := by decide +kernel
theorem dq_FS_seen_9 : decode (fx_cc mq_FS_seen) 9 = .ok (.getfield 26, 3) := by decide +kernel
theorem dq_FS_seen_12 : decode (fx_cc mq_FS_seen) 12 = .ok (.getfield 210, 3) := by decide +kernel
theorem dq_FS_seen_15 : decode (fx_cc mq_FS_seen) 15 = .ok (.iload_n 2, 1) := by decide +kernel
theorem dq_FS_seen_16 : decode (fx_cc mq_FS_seen) 16 = .ok (.bipush 20, 2) := by decide +kernel
theorem dq_FS_seen_18 : decode (fx_cc mq_FS_seen) 18 = .ok (.imul, 1) := by decide +kernel
theorem dq_FS_seen_19 : decode (fx_cc mq_FS_seen) 19 = .ok (.iload_n 1, 1) := by decide +kernel
theorem dq_FS_seen_20 : decode (fx_cc mq_FS_seen) 20 = .ok (.iadd, 1) := by decide +kernel
theorem dq_FS_seen_21 : decode (fx_cc mq_FS_seen) 21 = .ok (.iaload, 1) := by decide +kernel
theorem dq_FS_seen_22 : decode (fx_cc mq_FS_seen) 22 = .ok (.goto 4, 3) := by decide +kernel
theorem dq_FS_seen_25 : decode (fx_cc mq_FS_seen) 25 = .ok (.iconst (-1), 1) := by decide +kernel
theorem dq_FS_seen_26 : decode (fx_cc mq_FS_seen) 26 = .ok (.ireturn, 1) := by decide +kernel
theorem dq_FS_isOnScreen_0 : decode (fx_cc mq_FS_isOnScreen) 0 = .ok (.iload_n 0, 1) := by decide +kernel
theorem dq_FS_isOnScreen_1 : decode (fx_cc mq_FS_isOnScreen) 1 = .ok (.iconst 0, 1) := by decide +kernel
theorem dq_FS_isOnScreen_2 : decode (fx_cc mq_FS_isOnScreen) 2 = .ok (.bipush 19, 2) := by decide +kernel
theorem dq_FS_isOnScreen_4 : decode (fx_cc mq_FS_isOnScreen) 4 = .ok (.invokestatic 48, 3) := by decide +kernel
theorem dq_FS_isOnScreen_7 : decode (fx_cc mq_FS_isOnScreen) 7 = .ok (.ifCond .eq 17, 3) := by decide +kernel
theorem dq_FS_isOnScreen_10 : decode (fx_cc mq_FS_isOnScreen) 10 = .ok (.iload_n 1, 1) := by decide +kernel
theorem dq_FS_isOnScreen_11 : decode (fx_cc mq_FS_isOnScreen) 11 = .ok (.iconst 0, 1) := by decide +kernel
theorem dq_FS_isOnScreen_12 : decode (fx_cc mq_FS_isOnScreen) 12 = .ok (.bipush 9, 2) := by decide +kernel
theorem dq_FS_isOnScreen_14 : decode (fx_cc mq_FS_isOnScreen) 14 = .ok (.invokestatic 48, 3) := by decide +kernel
theorem dq_FS_isOnScreen_17 : decode (fx_cc mq_FS_isOnScreen) 17 = .ok (.ifCond .eq 7, 3) := by decide +kernel
theorem dq_FS_isOnScreen_20 : decode (fx_cc mq_FS_isOnScreen) 20 = .ok (.iconst 1, 1) := by decide +kernel
theorem dq_FS_isOnScreen_21 : decode (fx_cc mq_FS_isOnScreen) 21 = .ok (.goto 4, 3) := by decide +kernel
theorem dq_FS_isOnScreen_24 : decode (fx_cc mq_FS_isOnScreen) 24 = .ok (.iconst 0, 1) := by decide +kernel
theorem dq_FS_isOnScreen_25 : decode (fx_cc mq_FS_isOnScreen) 25 = .ok (.ireturn, 1) := by decide +kernel
theorem dq_FS_isWithin_0 : decode (fx_cc mq_FS_isWithin) 0 = .ok (.iload_n 0, 1) := by decide +kernel
theorem dq_FS_isWithin_1 : decode (fx_cc mq_FS_isWithin) 1 = .ok (.iload_n 1, 1) := by decide +kernel
theorem dq_FS_isWithin_2 : decode (fx_cc mq_FS_isWithin) 2 = .ok (.if_icmp .lt 12, 3) := by decide +kernel
theorem dq_FS_isWithin_5 : decode (fx_cc mq_FS_isWithin) 5 = .ok (.iload_n 0, 1) := by decide +kernel
theorem dq_FS_isWithin_6 : decode (fx_cc mq_FS_isWithin) 6 = .ok (.iload_n 2, 1) := by decide +kernel
theorem dq_FS_isWithin_7 : decode (fx_cc mq_FS_isWithin) 7 = .ok (.if_icmp .gt 7, 3) := by decide +kernel
theorem dq_FS_isWithin_10 : decode (fx_cc mq_FS_isWithin) 10 = .ok (.iconst 1, 1) := by decide +kernel
theorem dq_FS_isWithin_11 : decode (fx_cc mq_FS_isWithin) 11 = .ok (.goto 4, 3) := by decide +kernel
theorem dq_FS_isWithin_14 : decode (fx_cc mq_FS_isWithin) 14 = .ok (.iconst 0, 1) := by decide +kernel
theorem dq_FS_isWithin_15 : decode (fx_cc mq_FS_isWithin) 15 = .ok (.ireturn, 1) := by decide +kernel
theorem dq_FS_wanted_0 : decode (fx_cc mq_FS_wanted) 0 = .ok (.iload_n 1, 1) := by decide +kernel
theorem dq_FS_wanted_1 : decode (fx_cc mq_FS_wanted) 1 = .ok (.iload_n 2, 1) := by decide +kernel
theorem dq_FS_wanted_2 : decode (fx_cc mq_FS_wanted) 2 = .ok (.invokestatic 206, 3) := by decide +kernel
theorem dq_FS_wanted_5 : decode (fx_cc mq_FS_wanted) 5 = .ok (.ifCond .eq 18, 3) := by decide +kernel
theorem dq_FS_wanted_8 : decode (fx_cc mq_FS_wanted) 8 = .ok (.aload_n 0, 1) := by decide +kernel
theorem dq_FS_wanted_9 : decode (fx_cc mq_FS_wanted) 9 = .ok (.getfield 10, 3) := by decide +kernel
theorem dq_FS_wanted_12 : decode (fx_cc mq_FS_wanted) 12 = .ok (.getfield 213, 3) := by decide +kernel
theorem dq_FS_wanted_15 : decode (fx_cc mq_FS_wanted) 15 = .ok (.iload_n 1, 1) := by decide +kernel
theorem dq_FS_wanted_16 : decode (fx_cc mq_FS_wanted) 16 = .ok (.iload_n 2, 1) := by decide +kernel
theorem dq_FS_wanted_17 : decode (fx_cc mq_FS_wanted) 17 = .ok (.invokevirtual 217, 3) := by decide +kernel
theorem dq_FS_wanted_20 : decode (fx_cc mq_FS_wanted) 20 = .ok (.goto 4, 3) := by decide +kernel
theorem dq_FS_wanted_23 : decode (fx_cc mq_FS_wanted) 23 = .ok (.iconst (-1), 1) := by decide +kernel
theorem dq_FS_wanted_24 : decode (fx_cc mq_FS_wanted) 24 = .ok (.ireturn, 1) := by decide +kernel
theorem dq_PL_colorAt_0 : decode (fx_cc mq_PL_colorAt) 0 = .ok (.iconst 0, 1) := by decide +kernel
theorem dq_PL_colorAt_1 : decode (fx_cc mq_PL_colorAt) 1 = .ok (.istore_n 3, 1) := by decide +kernel
theorem dq_PL_colorAt_2 : decode (fx_cc mq_PL_colorAt) 2 = .ok (.iconst 0, 1) := by decide +kernel
theorem dq_PL_colorAt_3 : decode (fx_cc mq_PL_colorAt) 3 = .ok (.istore 4, 2) := by decide +kernel
theorem dq_PL_colorAt_5 : decode (fx_cc mq_PL_colorAt) 5 = .ok (.iload 4, 2) := by decide +kernel
theorem dq_PL_colorAt_7 : decode (fx_cc mq_PL_colorAt) 7 = .ok (.aload_n 0, 1) := by decide +kernel
theorem dq_PL_colorAt_8 : decode (fx_cc mq_PL_colorAt) 8 = .ok (.getfield 22, 3) := by decide +kernel
theorem dq_PL_colorAt_11 : decode (fx_cc mq_PL_colorAt) 11 = .ok (.if_icmp .ge 53, 3) := by decide +kernel
theorem dq_PL_colorAt_14 : decode (fx_cc mq_PL_colorAt) 14 = .ok (.aload_n 0, 1) := by decide +kernel
theorem dq_PL_colorAt_15 : decode (fx_cc mq_PL_colorAt) 15 = .ok (.getfield 11, 3) := by decide +kernel
theorem dq_PL_colorAt_18 : decode (fx_cc mq_PL_colorAt) 18 = .ok (.aload_n 0, 1) := by decide +kernel
theorem dq_PL_colorAt_19 : decode (fx_cc mq_PL_colorAt) 19 = .ok (.getfield 17, 3) := by decide +kernel
theorem dq_PL_colorAt_22 : decode (fx_cc mq_PL_colorAt) 22 = .ok (.iload 4, 2) := by decide +kernel
theorem dq_PL_colorAt_24 : decode (fx_cc mq_PL_colorAt) 24 = .ok (.iaload, 1) := by decide +kernel
theorem dq_PL_colorAt_25 : decode (fx_cc mq_PL_colorAt) 25 = .ok (.aaload, 1) := by decide +kernel
theorem dq_PL_colorAt_26 : decode (fx_cc mq_PL_colorAt) 26 = .ok (.astore 5, 2) := by decide +kernel
theorem dq_PL_colorAt_28 : decode (fx_cc mq_PL_colorAt) 28 = .ok (.aload 5, 2) := by decide +kernel
theorem dq_PL_colorAt_30 : decode (fx_cc mq_PL_colorAt) 30 = .ok (.getfield 40, 3) := by decide +kernel
theorem dq_PL_colorAt_33 : decode (fx_cc mq_PL_colorAt) 33 = .ok (.iload_n 1, 1) := by decide +kernel
theorem dq_PL_colorAt_34 : decode (fx_cc mq_PL_colorAt) 34 = .ok (.iload_n 2, 1) := by decide +kernel
theorem dq_PL_colorAt_35 : decode (fx_cc mq_PL_colorAt) 35 = .ok (.invokevirtual 44, 3) := by decide +kernel
theorem dq_PL_colorAt_38 : decode (fx_cc mq_PL_colorAt) 38 = .ok (.ifCond .eq 20, 3) := by decide +kernel
theorem dq_PL_colorAt_41 : decode (fx_cc mq_PL_colorAt) 41 = .ok (.aload 5, 2) := by decide +kernel
theorem dq_PL_colorAt_43 : decode (fx_cc mq_PL_colorAt) 43 = .ok (.iload_n 1, 1) := by decide +kernel
theorem dq_PL_colorAt_44 : decode (fx_cc mq_PL_colorAt) 44 = .ok (.iload_n 2, 1) := by decide +kernel
theorem dq_PL_colorAt_45 : decode (fx_cc mq_PL_colorAt) 45 = .ok (.invokevirtual 50, 3) := by decide +kernel
theorem dq_PL_colorAt_48 : decode (fx_cc mq_PL_colorAt) 48 = .ok (.iload_n 3, 1) := by decide +kernel
theorem dq_PL_colorAt_49 : decode (fx_cc mq_PL_colorAt) 49 = .ok (.aload 5, 2) := by decide +kernel
theorem dq_PL_colorAt_51 : decode (fx_cc mq_PL_colorAt) 51 = .ok (.getfield 54, 3) := by decide +kernel
theorem dq_PL_colorAt_54 : decode (fx_cc mq_PL_colorAt) 54 = .ok (.invokestatic 57, 3) := by decide +kernel
theorem dq_PL_colorAt_57 : decode (fx_cc mq_PL_colorAt) 57 = .ok (.istore_n 3, 1) := by decide +kernel
theorem dq_PL_colorAt_58 : decode (fx_cc mq_PL_colorAt) 58 = .ok (.iinc 4 1, 3) := by decide +kernel
theorem dq_PL_colorAt_61 : decode (fx_cc mq_PL_colorAt) 61 = .ok (.goto (-56), 3) := by decide +kernel
theorem dq_PL_colorAt_64 : decode (fx_cc mq_PL_colorAt) 64 = .ok (.iload_n 3, 1) := by decide +kernel
theorem dq_PL_colorAt_65 : decode (fx_cc mq_PL_colorAt) 65 = .ok (.ireturn, 1) := by decide +kernel
theorem dq_RE_has_0 : decode (fx_cc mq_RE_has) 0 = .ok (.iload_n 1, 1) := by decide +kernel
theorem dq_RE_has_1 : decode (fx_cc mq_RE_has) 1 = .ok (.aload_n 0, 1) := by decide +kernel
theorem dq_RE_has_2 : decode (fx_cc mq_RE_has) 2 = .ok (.getfield 7, 3) := by decide +kernel
theorem dq_RE_has_5 : decode (fx_cc mq_RE_has) 5 = .ok (.if_icmp .lt 41, 3) := by decide +kernel
theorem dq_RE_has_8 : decode (fx_cc mq_RE_has) 8 = .ok (.iload_n 1, 1) := by decide +kernel
theorem dq_RE_has_9 : decode (fx_cc mq_RE_has) 9 = .ok (.aload_n 0, 1) := by decide +kernel
theorem dq_RE_has_10 : decode (fx_cc mq_RE_has) 10 = .ok (.getfield 7, 3) := by decide +kernel
theorem dq_RE_has_13 : decode (fx_cc mq_RE_has) 13 = .ok (.aload_n 0, 1) := by decide +kernel
theorem dq_RE_has_14 : decode (fx_cc mq_RE_has) 14 = .ok (.getfield 16, 3) := by decide +kernel
theorem dq_RE_has_17 : decode (fx_cc mq_RE_has) 17 = .ok (.iadd, 1) := by decide +kernel
theorem dq_RE_has_18 : decode (fx_cc mq_RE_has) 18 = .ok (.if_icmp .ge 28, 3) := by decide +kernel
theorem dq_RE_has_21 : decode (fx_cc mq_RE_has) 21 = .ok (.iload_n 2, 1) := by decide +kernel
theorem dq_RE_has_22 : decode (fx_cc mq_RE_has) 22 = .ok (.aload_n 0, 1) := by decide +kernel
theorem dq_RE_has_23 : decode (fx_cc mq_RE_has) 23 = .ok (.getfield 13, 3) := by decide +kernel
theorem dq_RE_has_26 : decode (fx_cc mq_RE_has) 26 = .ok (.if_icmp .lt 20, 3) := by decide +kernel
theorem dq_RE_has_29 : decode (fx_cc mq_RE_has) 29 = .ok (.iload_n 2, 1) := by decide +kernel
theorem dq_RE_has_30 : decode (fx_cc mq_RE_has) 30 = .ok (.aload_n 0, 1) := by decide +kernel
theorem dq_RE_has_31 : decode (fx_cc mq_RE_has) 31 = .ok (.getfield 13, 3) := by decide +kernel
theorem dq_RE_has_34 : decode (fx_cc mq_RE_has) 34 = .ok (.aload_n 0, 1) := by decide +kernel
theorem dq_RE_has_35 : decode (fx_cc mq_RE_has) 35 = .ok (.getfield 19, 3) := by decide +kernel
theorem dq_RE_has_38 : decode (fx_cc mq_RE_has) 38 = .ok (.iadd, 1) := by decide +kernel
theorem dq_RE_has_39 : decode (fx_cc mq_RE_has) 39 = .ok (.if_icmp .ge 7, 3) := by decide +kernel
theorem dq_RE_has_42 : decode (fx_cc mq_RE_has) 42 = .ok (.iconst 1, 1) := by decide +kernel
theorem dq_RE_has_43 : decode (fx_cc mq_RE_has) 43 = .ok (.goto 4, 3) := by decide +kernel
theorem dq_RE_has_46 : decode (fx_cc mq_RE_has) 46 = .ok (.iconst 0, 1) := by decide +kernel
theorem dq_RE_has_47 : decode (fx_cc mq_RE_has) 47 = .ok (.ireturn, 1) := by decide +kernel
theorem dq_PI_colorAt_0 : decode (fx_cc mq_PI_colorAt) 0 = .ok (.aload_n 0, 1) := by decide +kernel
theorem dq_PI_colorAt_1 : decode (fx_cc mq_PI_colorAt) 1 = .ok (.getfield 9, 3) := by decide +kernel
theorem dq_PI_colorAt_4 : decode (fx_cc mq_PI_colorAt) 4 = .ok (.iload_n 2, 1) := by decide +kernel
theorem dq_PI_colorAt_5 : decode (fx_cc mq_PI_colorAt) 5 = .ok (.aload_n 0, 1) := by decide +kernel
theorem dq_PI_colorAt_6 : decode (fx_cc mq_PI_colorAt) 6 = .ok (.getfield 39, 3) := by decide +kernel
theorem dq_PI_colorAt_9 : decode (fx_cc mq_PI_colorAt) 9 = .ok (.isub, 1) := by decide +kernel
theorem dq_PI_colorAt_10 : decode (fx_cc mq_PI_colorAt) 10 = .ok (.aload_n 0, 1) := by decide +kernel
theorem dq_PI_colorAt_11 : decode (fx_cc mq_PI_colorAt) 11 = .ok (.getfield 29, 3) := by decide +kernel
theorem dq_PI_colorAt_14 : decode (fx_cc mq_PI_colorAt) 14 = .ok (.imul, 1) := by decide +kernel
theorem dq_PI_colorAt_15 : decode (fx_cc mq_PI_colorAt) 15 = .ok (.iload_n 1, 1) := by decide +kernel
theorem dq_PI_colorAt_16 : decode (fx_cc mq_PI_colorAt) 16 = .ok (.iadd, 1) := by decide +kernel
theorem dq_PI_colorAt_17 : decode (fx_cc mq_PI_colorAt) 17 = .ok (.aload_n 0, 1) := by decide +kernel
theorem dq_PI_colorAt_18 : decode (fx_cc mq_PI_colorAt) 18 = .ok (.getfield 36, 3) := by decide +kernel
theorem dq_PI_colorAt_21 : decode (fx_cc mq_PI_colorAt) 21 = .ok (.isub, 1) := by decide +kernel
theorem dq_PI_colorAt_22 : decode (fx_cc mq_PI_colorAt) 22 = .ok (.iaload, 1) := by decide +kernel
theorem dq_PI_colorAt_23 : decode (fx_cc mq_PI_colorAt) 23 = .ok (.ireturn, 1) := by decide +kernel
theorem dq_FS_mix_0 : decode (fx_cc mq_FS_mix) 0 = .ok (.iload_n 0, 1) := by decide +kernel
theorem dq_FS_mix_1 : decode (fx_cc mq_FS_mix) 1 = .ok (.bipush 11, 2) := by decide +kernel
theorem dq_FS_mix_3 : decode (fx_cc mq_FS_mix) 3 = .ok (.ishr, 1) := by decide +kernel
theorem dq_FS_mix_4 : decode (fx_cc mq_FS_mix) 4 = .ok (.iload_n 1, 1) := by decide +kernel
theorem dq_FS_mix_5 : decode (fx_cc mq_FS_mix) 5 = .ok (.bipush 11, 2) := by decide +kernel
theorem dq_FS_mix_7 : decode (fx_cc mq_FS_mix) 7 = .ok (.ishr, 1) := by decide +kernel
theorem dq_FS_mix_8 : decode (fx_cc mq_FS_mix) 8 = .ok (.iload_n 2, 1) := by decide +kernel
theorem dq_FS_mix_9 : decode (fx_cc mq_FS_mix) 9 = .ok (.invokestatic 258, 3) := by decide +kernel
theorem dq_FS_mix_12 : decode (fx_cc mq_FS_mix) 12 = .ok (.istore_n 3, 1) := by decide +kernel
theorem dq_FS_mix_13 : decode (fx_cc mq_FS_mix) 13 = .ok (.iload_n 0, 1) := by decide +kernel
theorem dq_FS_mix_14 : decode (fx_cc mq_FS_mix) 14 = .ok (.iconst 5, 1) := by decide +kernel
theorem dq_FS_mix_15 : decode (fx_cc mq_FS_mix) 15 = .ok (.ishr, 1) := by decide +kernel
theorem dq_FS_mix_16 : decode (fx_cc mq_FS_mix) 16 = .ok (.bipush 63, 2) := by decide +kernel
theorem dq_FS_mix_18 : decode (fx_cc mq_FS_mix) 18 = .ok (.iand, 1) := by decide +kernel
theorem dq_FS_mix_19 : decode (fx_cc mq_FS_mix) 19 = .ok (.iload_n 1, 1) := by decide +kernel
theorem dq_FS_mix_20 : decode (fx_cc mq_FS_mix) 20 = .ok (.iconst 5, 1) := by decide +kernel
theorem dq_FS_mix_21 : decode (fx_cc mq_FS_mix) 21 = .ok (.ishr, 1) := by decide +kernel
theorem dq_FS_mix_22 : decode (fx_cc mq_FS_mix) 22 = .ok (.bipush 63, 2) := by decide +kernel
theorem dq_FS_mix_24 : decode (fx_cc mq_FS_mix) 24 = .ok (.iand, 1) := by decide +kernel
theorem dq_FS_mix_25 : decode (fx_cc mq_FS_mix) 25 = .ok (.iload_n 2, 1) := by decide +kernel
theorem dq_FS_mix_26 : decode (fx_cc mq_FS_mix) 26 = .ok (.invokestatic 258, 3) := by decide +kernel
theorem dq_FS_mix_29 : decode (fx_cc mq_FS_mix) 29 = .ok (.istore 4, 2) := by decide +kernel
theorem dq_FS_mix_31 : decode (fx_cc mq_FS_mix) 31 = .ok (.iload_n 0, 1) := by decide +kernel
theorem dq_FS_mix_32 : decode (fx_cc mq_FS_mix) 32 = .ok (.bipush 31, 2) := by decide +kernel
theorem dq_FS_mix_34 : decode (fx_cc mq_FS_mix) 34 = .ok (.iand, 1) := by decide +kernel
theorem dq_FS_mix_35 : decode (fx_cc mq_FS_mix) 35 = .ok (.iload_n 1, 1) := by decide +kernel
theorem dq_FS_mix_36 : decode (fx_cc mq_FS_mix) 36 = .ok (.bipush 31, 2) := by decide +kernel
theorem dq_FS_mix_38 : decode (fx_cc mq_FS_mix) 38 = .ok (.iand, 1) := by decide +kernel
theorem dq_FS_mix_39 : decode (fx_cc mq_FS_mix) 39 = .ok (.iload_n 2, 1) := by decide +kernel
theorem dq_FS_mix_40 : decode (fx_cc mq_FS_mix) 40 = .ok (.invokestatic 258, 3) := by decide +kernel
theorem dq_FS_mix_43 : decode (fx_cc mq_FS_mix) 43 = .ok (.istore 5, 2) := by decide +kernel
theorem dq_FS_mix_45 : decode (fx_cc mq_FS_mix) 45 = .ok (.iload_n 3, 1) := by decide +kernel
theorem dq_FS_mix_46 : decode (fx_cc mq_FS_mix) 46 = .ok (.bipush 11, 2) := by decide +kernel
theorem dq_FS_mix_48 : decode (fx_cc mq_FS_mix) 48 = .ok (.ishl, 1) := by decide +kernel
theorem dq_FS_mix_49 : decode (fx_cc mq_FS_mix) 49 = .ok (.iload 4, 2) := by decide +kernel
theorem dq_FS_mix_51 : decode (fx_cc mq_FS_mix) 51 = .ok (.iconst 5, 1) := by decide +kernel
theorem dq_FS_mix_52 : decode (fx_cc mq_FS_mix) 52 = .ok (.ishl, 1) := by decide +kernel
theorem dq_FS_mix_53 : decode (fx_cc mq_FS_mix) 53 = .ok (.ior, 1) := by decide +kernel
theorem dq_FS_mix_54 : decode (fx_cc mq_FS_mix) 54 = .ok (.iload 5, 2) := by decide +kernel
theorem dq_FS_mix_56 : decode (fx_cc mq_FS_mix) 56 = .ok (.ior, 1) := by decide +kernel
theorem dq_FS_mix_57 : decode (fx_cc mq_FS_mix) 57 = .ok (.ireturn, 1) := by decide +kernel
theorem dq_FS_mixPart_0 : decode (fx_cc mq_FS_mixPart) 0 = .ok (.iload_n 2, 1) := by decide +kernel
theorem dq_FS_mixPart_1 : decode (fx_cc mq_FS_mixPart) 1 = .ok (.iload_n 0, 1) := by decide +kernel
theorem dq_FS_mixPart_2 : decode (fx_cc mq_FS_mixPart) 2 = .ok (.imul, 1) := by decide +kernel
theorem dq_FS_mixPart_3 : decode (fx_cc mq_FS_mixPart) 3 = .ok (.bipush 16, 2) := by decide +kernel
theorem dq_FS_mixPart_5 : decode (fx_cc mq_FS_mixPart) 5 = .ok (.iload_n 2, 1) := by decide +kernel
theorem dq_FS_mixPart_6 : decode (fx_cc mq_FS_mixPart) 6 = .ok (.isub, 1) := by decide +kernel
theorem dq_FS_mixPart_7 : decode (fx_cc mq_FS_mixPart) 7 = .ok (.iload_n 1, 1) := by decide +kernel
theorem dq_FS_mixPart_8 : decode (fx_cc mq_FS_mixPart) 8 = .ok (.imul, 1) := by decide +kernel
theorem dq_FS_mixPart_9 : decode (fx_cc mq_FS_mixPart) 9 = .ok (.iadd, 1) := by decide +kernel
theorem dq_FS_mixPart_10 : decode (fx_cc mq_FS_mixPart) 10 = .ok (.bipush 16, 2) := by decide +kernel
theorem dq_FS_mixPart_12 : decode (fx_cc mq_FS_mixPart) 12 = .ok (.idiv, 1) := by decide +kernel
theorem dq_FS_mixPart_13 : decode (fx_cc mq_FS_mixPart) 13 = .ok (.ireturn, 1) := by decide +kernel
theorem dq_FS_count_0 : decode (fx_cc mq_FS_count) 0 = .ok (.iload_n 1, 1) := by decide +kernel
theorem dq_FS_count_1 : decode (fx_cc mq_FS_count) 1 = .ok (.tableswitch 51 0 2 #[27, 35, 43], 27) := by decide +kernel
theorem dq_FS_count_28 : decode (fx_cc mq_FS_count) 28 = .ok (.aload_n 0, 1) := by decide +kernel
theorem dq_FS_count_29 : decode (fx_cc mq_FS_count) 29 = .ok (.getfield 26, 3) := by decide +kernel
theorem dq_FS_count_32 : decode (fx_cc mq_FS_count) 32 = .ok (.getfield 223, 3) := by decide +kernel
theorem dq_FS_count_35 : decode (fx_cc mq_FS_count) 35 = .ok (.ireturn, 1) := by decide +kernel
theorem dq_FS_count_36 : decode (fx_cc mq_FS_count) 36 = .ok (.aload_n 0, 1) := by decide +kernel
theorem dq_FS_count_37 : decode (fx_cc mq_FS_count) 37 = .ok (.getfield 26, 3) := by decide +kernel
theorem dq_FS_count_40 : decode (fx_cc mq_FS_count) 40 = .ok (.getfield 226, 3) := by decide +kernel
theorem dq_FS_count_43 : decode (fx_cc mq_FS_count) 43 = .ok (.ireturn, 1) := by decide +kernel
theorem dq_FS_count_44 : decode (fx_cc mq_FS_count) 44 = .ok (.aload_n 0, 1) := by decide +kernel
theorem dq_FS_count_45 : decode (fx_cc mq_FS_count) 45 = .ok (.getfield 19, 3) := by decide +kernel
theorem dq_FS_count_48 : decode (fx_cc mq_FS_count) 48 = .ok (.getfield 156, 3) := by decide +kernel
theorem dq_FS_count_51 : decode (fx_cc mq_FS_count) 51 = .ok (.ireturn, 1) := by decide +kernel
theorem dq_FS_count_52 : decode (fx_cc mq_FS_count) 52 = .ok (.iconst (-1), 1) := by decide +kernel
theorem dq_FS_count_53 : decode (fx_cc mq_FS_count) 53 = .ok (.ireturn, 1) := by decide +kernel
theorem dq_FS_missed_0 : decode (fx_cc mq_FS_missed) 0 = .ok (.aload_n 0, 1) := by decide +kernel
theorem dq_FS_missed_1 : decode (fx_cc mq_FS_missed) 1 = .ok (.getfield 19, 3) := by decide +kernel
theorem dq_FS_missed_4 : decode (fx_cc mq_FS_missed) 4 = .ok (.getfield 229, 3) := by decide +kernel
theorem dq_FS_missed_7 : decode (fx_cc mq_FS_missed) 7 = .ok (.getfield 232, 3) := by decide +kernel
theorem dq_FS_missed_10 : decode (fx_cc mq_FS_missed) 10 = .ok (.astore_n 3, 1) := by decide +kernel
theorem dq_FS_missed_11 : decode (fx_cc mq_FS_missed) 11 = .ok (.iload_n 1, 1) := by decide +kernel
theorem dq_FS_missed_12 : decode (fx_cc mq_FS_missed) 12 = .ok (.ifCond .lt 11, 3) := by decide +kernel
theorem dq_FS_missed_15 : decode (fx_cc mq_FS_missed) 15 = .ok (.iload_n 1, 1) := by decide +kernel
theorem dq_FS_missed_16 : decode (fx_cc mq_FS_missed) 16 = .ok (.aload_n 3, 1) := by decide +kernel
theorem dq_FS_missed_17 : decode (fx_cc mq_FS_missed) 17 = .ok (.getfield 238, 3) := by decide +kernel
theorem dq_FS_missed_20 : decode (fx_cc mq_FS_missed) 20 = .ok (.if_icmp .lt 5, 3) := by decide +kernel
theorem dq_FS_missed_23 : decode (fx_cc mq_FS_missed) 23 = .ok (.iconst (-1), 1) := by decide +kernel
theorem dq_FS_missed_24 : decode (fx_cc mq_FS_missed) 24 = .ok (.ireturn, 1) := by decide +kernel
theorem dq_FS_missed_25 : decode (fx_cc mq_FS_missed) 25 = .ok (.aload_n 3, 1) := by decide +kernel
theorem dq_FS_missed_26 : decode (fx_cc mq_FS_missed) 26 = .ok (.getfield 243, 3) := by decide +kernel
theorem dq_FS_missed_29 : decode (fx_cc mq_FS_missed) 29 = .ok (.iload_n 1, 1) := by decide +kernel
theorem dq_FS_missed_30 : decode (fx_cc mq_FS_missed) 30 = .ok (.aaload, 1) := by decide +kernel
theorem dq_FS_missed_31 : decode (fx_cc mq_FS_missed) 31 = .ok (.astore 4, 2) := by decide +kernel
theorem dq_FS_missed_33 : decode (fx_cc mq_FS_missed) 33 = .ok (.iload_n 2, 1) := by decide +kernel
theorem dq_FS_missed_34 : decode (fx_cc mq_FS_missed) 34 = .ok (.tableswitch 54 0 3 #[30, 36, 42, 48], 30) := by decide +kernel
theorem dq_FS_missed_64 : decode (fx_cc mq_FS_missed) 64 = .ok (.aload 4, 2) := by decide +kernel
theorem dq_FS_missed_66 : decode (fx_cc mq_FS_missed) 66 = .ok (.getfield 247, 3) := by decide +kernel
theorem dq_FS_missed_69 : decode (fx_cc mq_FS_missed) 69 = .ok (.ireturn, 1) := by decide +kernel
theorem dq_FS_missed_70 : decode (fx_cc mq_FS_missed) 70 = .ok (.aload 4, 2) := by decide +kernel
theorem dq_FS_missed_72 : decode (fx_cc mq_FS_missed) 72 = .ok (.getfield 248, 3) := by decide +kernel
theorem dq_FS_missed_75 : decode (fx_cc mq_FS_missed) 75 = .ok (.ireturn, 1) := by decide +kernel
theorem dq_FS_missed_76 : decode (fx_cc mq_FS_missed) 76 = .ok (.aload 4, 2) := by decide +kernel
theorem dq_FS_missed_78 : decode (fx_cc mq_FS_missed) 78 = .ok (.getfield 249, 3) := by decide +kernel
theorem dq_FS_missed_81 : decode (fx_cc mq_FS_missed) 81 = .ok (.ireturn, 1) := by decide +kernel
theorem dq_FS_missed_82 : decode (fx_cc mq_FS_missed) 82 = .ok (.aload 4, 2) := by decide +kernel
theorem dq_FS_missed_84 : decode (fx_cc mq_FS_missed) 84 = .ok (.getfield 250, 3) := by decide +kernel
theorem dq_FS_missed_87 : decode (fx_cc mq_FS_missed) 87 = .ok (.ireturn, 1) := by decide +kernel
theorem dq_FS_missed_88 : decode (fx_cc mq_FS_missed) 88 = .ok (.iconst (-1), 1) := by decide +kernel
theorem dq_FS_missed_89 : decode (fx_cc mq_FS_missed) 89 = .ok (.ireturn, 1) := by decide +kernel
theorem dq_FS_plane_0 : decode (fx_cc mq_FS_plane) 0 = .ok (.iload_n 1, 1) := by decide +kernel
theorem dq_FS_plane_1 : decode (fx_cc mq_FS_plane) 1 = .ok (.iconst 0, 1) := by decide +kernel
theorem dq_FS_plane_2 : decode (fx_cc mq_FS_plane) 2 = .ok (.iconst 1, 1) := by decide +kernel
theorem dq_FS_plane_3 : decode (fx_cc mq_FS_plane) 3 = .ok (.invokestatic 48, 3) := by decide +kernel
theorem dq_FS_plane_6 : decode (fx_cc mq_FS_plane) 6 = .ok (.ifCond .eq 18, 3) := by decide +kernel
theorem dq_FS_plane_9 : decode (fx_cc mq_FS_plane) 9 = .ok (.aload_n 0, 1) := by decide +kernel
theorem dq_FS_plane_10 : decode (fx_cc mq_FS_plane) 10 = .ok (.getfield 19, 3) := by decide +kernel
theorem dq_FS_plane_13 : decode (fx_cc mq_FS_plane) 13 = .ok (.getfield 198, 3) := by decide +kernel
theorem dq_FS_plane_16 : decode (fx_cc mq_FS_plane) 16 = .ok (.getfield 251, 3) := by decide +kernel
theorem dq_FS_plane_19 : decode (fx_cc mq_FS_plane) 19 = .ok (.iload_n 1, 1) := by decide +kernel
theorem dq_FS_plane_20 : decode (fx_cc mq_FS_plane) 20 = .ok (.iaload, 1) := by decide +kernel
theorem dq_FS_plane_21 : decode (fx_cc mq_FS_plane) 21 = .ok (.goto 4, 3) := by decide +kernel
theorem dq_FS_plane_24 : decode (fx_cc mq_FS_plane) 24 = .ok (.iconst (-1), 1) := by decide +kernel
theorem dq_FS_plane_25 : decode (fx_cc mq_FS_plane) 25 = .ok (.ireturn, 1) := by decide +kernel
theorem dq_FS_free_0 : decode (fx_cc mq_FS_free) 0 = .ok (.aload_n 0, 1) := by decide +kernel
theorem dq_FS_free_1 : decode (fx_cc mq_FS_free) 1 = .ok (.getfield 10, 3) := by decide +kernel
theorem dq_FS_free_4 : decode (fx_cc mq_FS_free) 4 = .ok (.getfield 60, 3) := by decide +kernel
theorem dq_FS_free_7 : decode (fx_cc mq_FS_free) 7 = .ok (.ireturn, 1) := by decide +kernel
theorem dq_LA_surface_0 : decode (fx_cc mq_LA_surface) 0 = .ok (.aload 4, 2) := by decide +kernel
theorem dq_LA_surface_2 : decode (fx_cc mq_LA_surface) 2 = .ok (.iconst 0, 1) := by decide +kernel
theorem dq_LA_surface_3 : decode (fx_cc mq_LA_surface) 3 = .ok (.aload_n 0, 1) := by decide +kernel
theorem dq_LA_surface_4 : decode (fx_cc mq_LA_surface) 4 = .ok (.iload_n 1, 1) := by decide +kernel
theorem dq_LA_surface_5 : decode (fx_cc mq_LA_surface) 5 = .ok (.iload_n 2, 1) := by decide +kernel
theorem dq_LA_surface_6 : decode (fx_cc mq_LA_surface) 6 = .ok (.iload_n 3, 1) := by decide +kernel
theorem dq_LA_surface_7 : decode (fx_cc mq_LA_surface) 7 = .ok (.invokevirtual 7, 3) := by decide +kernel
theorem dq_LA_surface_10 : decode (fx_cc mq_LA_surface) 10 = .ok (.i2l, 1) := by decide +kernel
theorem dq_LA_surface_11 : decode (fx_cc mq_LA_surface) 11 = .ok (.lastore, 1) := by decide +kernel
theorem dq_LA_surface_12 : decode (fx_cc mq_LA_surface) 12 = .ok (.goto 11, 3) := by decide +kernel
theorem dq_LA_surface_15 : decode (fx_cc mq_LA_surface) 15 = .ok (.astore 5, 2) := by decide +kernel
theorem dq_LA_surface_17 : decode (fx_cc mq_LA_surface) 17 = .ok (.iconst 1, 1) := by decide +kernel
theorem dq_LA_surface_18 : decode (fx_cc mq_LA_surface) 18 = .ok (.ireturn, 1) := by decide +kernel
theorem dq_LA_surface_19 : decode (fx_cc mq_LA_surface) 19 = .ok (.astore 5, 2) := by decide +kernel
theorem dq_LA_surface_21 : decode (fx_cc mq_LA_surface) 21 = .ok (.iconst 2, 1) := by decide +kernel
theorem dq_LA_surface_22 : decode (fx_cc mq_LA_surface) 22 = .ok (.ireturn, 1) := by decide +kernel
theorem dq_LA_surface_23 : decode (fx_cc mq_LA_surface) 23 = .ok (.iconst 0, 1) := by decide +kernel
theorem dq_LA_surface_24 : decode (fx_cc mq_LA_surface) 24 = .ok (.ireturn, 1) := by decide +kernel
theorem dq_FS_surface_0 : decode (fx_cc mq_FS_surface) 0 = .ok (.iload_n 1, 1) := by decide +kernel
theorem dq_FS_surface_1 : decode (fx_cc mq_FS_surface) 1 = .ok (.invokestatic 44, 3) := by decide +kernel
theorem dq_FS_surface_4 : decode (fx_cc mq_FS_surface) 4 = .ok (.ifCond .eq 27, 3) := by decide +kernel
theorem dq_FS_surface_7 : decode (fx_cc mq_FS_surface) 7 = .ok (.iload_n 2, 1) := by decide +kernel
theorem dq_FS_surface_8 : decode (fx_cc mq_FS_surface) 8 = .ok (.iconst 1, 1) := by decide +kernel
theorem dq_FS_surface_9 : decode (fx_cc mq_FS_surface) 9 = .ok (.bipush 12, 2) := by decide +kernel
theorem dq_FS_surface_11 : decode (fx_cc mq_FS_surface) 11 = .ok (.invokestatic 48, 3) := by decide +kernel
theorem dq_FS_surface_14 : decode (fx_cc mq_FS_surface) 14 = .ok (.ifCond .eq 17, 3) := by decide +kernel
theorem dq_FS_surface_17 : decode (fx_cc mq_FS_surface) 17 = .ok (.iload_n 3, 1) := by decide +kernel
theorem dq_FS_surface_18 : decode (fx_cc mq_FS_surface) 18 = .ok (.iconst 1, 1) := by decide +kernel
theorem dq_FS_surface_19 : decode (fx_cc mq_FS_surface) 19 = .ok (.bipush 8, 2) := by decide +kernel
theorem dq_FS_surface_21 : decode (fx_cc mq_FS_surface) 21 = .ok (.invokestatic 48, 3) := by decide +kernel
theorem dq_FS_surface_24 : decode (fx_cc mq_FS_surface) 24 = .ok (.ifCond .eq 7, 3) := by decide +kernel
theorem dq_FS_surface_27 : decode (fx_cc mq_FS_surface) 27 = .ok (.iconst 1, 1) := by decide +kernel
theorem dq_FS_surface_28 : decode (fx_cc mq_FS_surface) 28 = .ok (.goto 4, 3) := by decide +kernel
theorem dq_FS_surface_31 : decode (fx_cc mq_FS_surface) 31 = .ok (.iconst 0, 1) := by decide +kernel
theorem dq_FS_surface_32 : decode (fx_cc mq_FS_surface) 32 = .ok (.invokestatic 52, 3) := by decide +kernel
theorem dq_FS_surface_35 : decode (fx_cc mq_FS_surface) 35 = .ok (.aload_n 0, 1) := by decide +kernel
theorem dq_FS_surface_36 : decode (fx_cc mq_FS_surface) 36 = .ok (.getfield 10, 3) := by decide +kernel
theorem dq_FS_surface_39 : decode (fx_cc mq_FS_surface) 39 = .ok (.invokevirtual 56, 3) := by decide +kernel
theorem dq_FS_surface_42 : decode (fx_cc mq_FS_surface) 42 = .ok (.istore 4, 2) := by decide +kernel
theorem dq_FS_surface_44 : decode (fx_cc mq_FS_surface) 44 = .ok (.iload 4, 2) := by decide +kernel
theorem dq_FS_surface_46 : decode (fx_cc mq_FS_surface) 46 = .ok (.iconst (-1), 1) := by decide +kernel
theorem dq_FS_surface_47 : decode (fx_cc mq_FS_surface) 47 = .ok (.if_icmp .eq 16, 3) := by decide +kernel
theorem dq_FS_surface_50 : decode (fx_cc mq_FS_surface) 50 = .ok (.iload_n 2, 1) := by decide +kernel
theorem dq_FS_surface_51 : decode (fx_cc mq_FS_surface) 51 = .ok (.iload_n 3, 1) := by decide +kernel
theorem dq_FS_surface_52 : decode (fx_cc mq_FS_surface) 52 = .ok (.imul, 1) := by decide +kernel
theorem dq_FS_surface_53 : decode (fx_cc mq_FS_surface) 53 = .ok (.aload_n 0, 1) := by decide +kernel
theorem dq_FS_surface_54 : decode (fx_cc mq_FS_surface) 54 = .ok (.getfield 10, 3) := by decide +kernel
theorem dq_FS_surface_57 : decode (fx_cc mq_FS_surface) 57 = .ok (.getfield 60, 3) := by decide +kernel
theorem dq_FS_surface_60 : decode (fx_cc mq_FS_surface) 60 = .ok (.if_icmp .le 11, 3) := by decide +kernel
theorem dq_FS_surface_63 : decode (fx_cc mq_FS_surface) 63 = .ok (.new 64, 3) := by decide +kernel
theorem dq_FS_surface_66 : decode (fx_cc mq_FS_surface) 66 = .ok (.dup, 1) := by decide +kernel
theorem dq_FS_surface_67 : decode (fx_cc mq_FS_surface) 67 = .ok (.invokespecial 66, 3) := by decide +kernel
theorem dq_FS_surface_70 : decode (fx_cc mq_FS_surface) 70 = .ok (.athrow, 1) := by decide +kernel
theorem dq_FS_surface_71 : decode (fx_cc mq_FS_surface) 71 = .ok (.aload_n 0, 1) := by decide +kernel
theorem dq_FS_surface_72 : decode (fx_cc mq_FS_surface) 72 = .ok (.getfield 10, 3) := by decide +kernel
theorem dq_FS_surface_75 : decode (fx_cc mq_FS_surface) 75 = .ok (.iload 4, 2) := by decide +kernel
theorem dq_FS_surface_77 : decode (fx_cc mq_FS_surface) 77 = .ok (.iload_n 1, 1) := by decide +kernel
theorem dq_FS_surface_78 : decode (fx_cc mq_FS_surface) 78 = .ok (.iload_n 2, 1) := by decide +kernel
theorem dq_FS_surface_79 : decode (fx_cc mq_FS_surface) 79 = .ok (.iload_n 3, 1) := by decide +kernel
theorem dq_FS_surface_80 : decode (fx_cc mq_FS_surface) 80 = .ok (.invokevirtual 67, 3) := by decide +kernel
theorem dq_FS_surface_83 : decode (fx_cc mq_FS_surface) 83 = .ok (.iload 4, 2) := by decide +kernel
theorem dq_FS_surface_85 : decode (fx_cc mq_FS_surface) 85 = .ok (.ireturn, 1) := by decide +kernel
theorem dq_FS_isClient_0 : decode (fx_cc mq_FS_isClient) 0 = .ok (.iload_n 0, 1) := by decide +kernel
theorem dq_FS_isClient_1 : decode (fx_cc mq_FS_isClient) 1 = .ok (.iconst 0, 1) := by decide +kernel
theorem dq_FS_isClient_2 : decode (fx_cc mq_FS_isClient) 2 = .ok (.iconst 3, 1) := by decide +kernel
theorem dq_FS_isClient_3 : decode (fx_cc mq_FS_isClient) 3 = .ok (.invokestatic 48, 3) := by decide +kernel
theorem dq_FS_isClient_6 : decode (fx_cc mq_FS_isClient) 6 = .ok (.ireturn, 1) := by decide +kernel
theorem dq_FS_demand_0 : decode (fx_cc mq_FS_demand) 0 = .ok (.iload_n 0, 1) := by decide +kernel
theorem dq_FS_demand_1 : decode (fx_cc mq_FS_demand) 1 = .ok (.ifCond .ne 11, 3) := by decide +kernel
theorem dq_FS_demand_4 : decode (fx_cc mq_FS_demand) 4 = .ok (.new 254, 3) := by decide +kernel
theorem dq_FS_demand_7 : decode (fx_cc mq_FS_demand) 7 = .ok (.dup, 1) := by decide +kernel
theorem dq_FS_demand_8 : decode (fx_cc mq_FS_demand) 8 = .ok (.invokespecial 256, 3) := by decide +kernel
theorem dq_FS_demand_11 : decode (fx_cc mq_FS_demand) 11 = .ok (.athrow, 1) := by decide +kernel
theorem dq_FS_demand_12 : decode (fx_cc mq_FS_demand) 12 = .ok (.return_, 1) := by decide +kernel
theorem dq_DE_lowestFreeNumber_0 : decode (fx_cc mq_DE_lowestFreeNumber) 0 = .ok (.iconst 0, 1) := by decide +kernel
theorem dq_DE_lowestFreeNumber_1 : decode (fx_cc mq_DE_lowestFreeNumber) 1 = .ok (.istore_n 1, 1) := by decide +kernel
theorem dq_DE_lowestFreeNumber_2 : decode (fx_cc mq_DE_lowestFreeNumber) 2 = .ok (.iload_n 1, 1) := by decide +kernel
theorem dq_DE_lowestFreeNumber_3 : decode (fx_cc mq_DE_lowestFreeNumber) 3 = .ok (.bipush 10, 2) := by decide +kernel
theorem dq_DE_lowestFreeNumber_5 : decode (fx_cc mq_DE_lowestFreeNumber) 5 = .ok (.if_icmp .ge 21, 3) := by decide +kernel
theorem dq_DE_lowestFreeNumber_8 : decode (fx_cc mq_DE_lowestFreeNumber) 8 = .ok (.aload_n 0, 1) := by decide +kernel
theorem dq_DE_lowestFreeNumber_9 : decode (fx_cc mq_DE_lowestFreeNumber) 9 = .ok (.getfield 24, 3) := by decide +kernel
theorem dq_DE_lowestFreeNumber_12 : decode (fx_cc mq_DE_lowestFreeNumber) 12 = .ok (.iload_n 1, 1) := by decide +kernel
theorem dq_DE_lowestFreeNumber_13 : decode (fx_cc mq_DE_lowestFreeNumber) 13 = .ok (.iaload, 1) := by decide +kernel
theorem dq_DE_lowestFreeNumber_14 : decode (fx_cc mq_DE_lowestFreeNumber) 14 = .ok (.iconst (-1), 1) := by decide +kernel
theorem dq_DE_lowestFreeNumber_15 : decode (fx_cc mq_DE_lowestFreeNumber) 15 = .ok (.if_icmp .ne 5, 3) := by decide +kernel
theorem dq_DE_lowestFreeNumber_18 : decode (fx_cc mq_DE_lowestFreeNumber) 18 = .ok (.iload_n 1, 1) := by decide +kernel
theorem dq_DE_lowestFreeNumber_19 : decode (fx_cc mq_DE_lowestFreeNumber) 19 = .ok (.ireturn, 1) := by decide +kernel
theorem dq_DE_lowestFreeNumber_20 : decode (fx_cc mq_DE_lowestFreeNumber) 20 = .ok (.iinc 1 1, 3) := by decide +kernel
theorem dq_DE_lowestFreeNumber_23 : decode (fx_cc mq_DE_lowestFreeNumber) 23 = .ok (.goto (-21), 3) := by decide +kernel
theorem dq_DE_lowestFreeNumber_26 : decode (fx_cc mq_DE_lowestFreeNumber) 26 = .ok (.iconst (-1), 1) := by decide +kernel
theorem dq_DE_lowestFreeNumber_27 : decode (fx_cc mq_DE_lowestFreeNumber) 27 = .ok (.ireturn, 1) := by decide +kernel
theorem dq_DE_open_0 : decode (fx_cc mq_DE_open) 0 = .ok (.aload_n 0, 1) := by decide +kernel
theorem dq_DE_open_1 : decode (fx_cc mq_DE_open) 1 = .ok (.getfield 24, 3) := by decide +kernel
theorem dq_DE_open_4 : decode (fx_cc mq_DE_open) 4 = .ok (.iload_n 1, 1) := by decide +kernel
theorem dq_DE_open_5 : decode (fx_cc mq_DE_open) 5 = .ok (.iload_n 2, 1) := by decide +kernel
theorem dq_DE_open_6 : decode (fx_cc mq_DE_open) 6 = .ok (.iastore, 1) := by decide +kernel
theorem dq_DE_open_7 : decode (fx_cc mq_DE_open) 7 = .ok (.aload_n 0, 1) := by decide +kernel
theorem dq_DE_open_8 : decode (fx_cc mq_DE_open) 8 = .ok (.getfield 11, 3) := by decide +kernel
theorem dq_DE_open_11 : decode (fx_cc mq_DE_open) 11 = .ok (.iload_n 1, 1) := by decide +kernel
theorem dq_DE_open_12 : decode (fx_cc mq_DE_open) 12 = .ok (.aaload, 1) := by decide +kernel
theorem dq_DE_open_13 : decode (fx_cc mq_DE_open) 13 = .ok (.iload_n 3, 1) := by decide +kernel
theorem dq_DE_open_14 : decode (fx_cc mq_DE_open) 14 = .ok (.iload 4, 2) := by decide +kernel
theorem dq_DE_open_16 : decode (fx_cc mq_DE_open) 16 = .ok (.invokevirtual 44, 3) := by decide +kernel
theorem dq_DE_open_19 : decode (fx_cc mq_DE_open) 19 = .ok (.aload_n 0, 1) := by decide +kernel
theorem dq_DE_open_20 : decode (fx_cc mq_DE_open) 20 = .ok (.dup, 1) := by decide +kernel
theorem dq_DE_open_21 : decode (fx_cc mq_DE_open) 21 = .ok (.getfield 35, 3) := by decide +kernel
theorem dq_DE_open_24 : decode (fx_cc mq_DE_open) 24 = .ok (.iload_n 3, 1) := by decide +kernel
theorem dq_DE_open_25 : decode (fx_cc mq_DE_open) 25 = .ok (.iload 4, 2) := by decide +kernel
theorem dq_DE_open_27 : decode (fx_cc mq_DE_open) 27 = .ok (.imul, 1) := by decide +kernel
theorem dq_DE_open_28 : decode (fx_cc mq_DE_open) 28 = .ok (.isub, 1) := by decide +kernel
theorem dq_DE_open_29 : decode (fx_cc mq_DE_open) 29 = .ok (.putfield 35, 3) := by decide +kernel
theorem dq_DE_open_32 : decode (fx_cc mq_DE_open) 32 = .ok (.return_, 1) := by decide +kernel
theorem dq_PI_start_0 : decode (fx_cc mq_PI_start) 0 = .ok (.aload_n 0, 1) := by decide +kernel
theorem dq_PI_start_1 : decode (fx_cc mq_PI_start) 1 = .ok (.iconst 1, 1) := by decide +kernel
theorem dq_PI_start_2 : decode (fx_cc mq_PI_start) 2 = .ok (.putfield 25, 3) := by decide +kernel
theorem dq_PI_start_5 : decode (fx_cc mq_PI_start) 5 = .ok (.aload_n 0, 1) := by decide +kernel
theorem dq_PI_start_6 : decode (fx_cc mq_PI_start) 6 = .ok (.iload_n 1, 1) := by decide +kernel
theorem dq_PI_start_7 : decode (fx_cc mq_PI_start) 7 = .ok (.putfield 29, 3) := by decide +kernel
theorem dq_PI_start_10 : decode (fx_cc mq_PI_start) 10 = .ok (.aload_n 0, 1) := by decide +kernel
theorem dq_PI_start_11 : decode (fx_cc mq_PI_start) 11 = .ok (.iload_n 2, 1) := by decide +kernel
theorem dq_PI_start_12 : decode (fx_cc mq_PI_start) 12 = .ok (.putfield 33, 3) := by decide +kernel
theorem dq_PI_start_15 : decode (fx_cc mq_PI_start) 15 = .ok (.aload_n 0, 1) := by decide +kernel
theorem dq_PI_start_16 : decode (fx_cc mq_PI_start) 16 = .ok (.iconst 0, 1) := by decide +kernel
theorem dq_PI_start_17 : decode (fx_cc mq_PI_start) 17 = .ok (.putfield 36, 3) := by decide +kernel
theorem dq_PI_start_20 : decode (fx_cc mq_PI_start) 20 = .ok (.aload_n 0, 1) := by decide +kernel
theorem dq_PI_start_21 : decode (fx_cc mq_PI_start) 21 = .ok (.iconst 0, 1) := by decide +kernel
theorem dq_PI_start_22 : decode (fx_cc mq_PI_start) 22 = .ok (.putfield 39, 3) := by decide +kernel
theorem dq_PI_start_25 : decode (fx_cc mq_PI_start) 25 = .ok (.aload_n 0, 1) := by decide +kernel
theorem dq_PI_start_26 : decode (fx_cc mq_PI_start) 26 = .ok (.iconst 0, 1) := by decide +kernel
theorem dq_PI_start_27 : decode (fx_cc mq_PI_start) 27 = .ok (.putfield 42, 3) := by decide +kernel
theorem dq_PI_start_30 : decode (fx_cc mq_PI_start) 30 = .ok (.aload_n 0, 1) := by decide +kernel
theorem dq_PI_start_31 : decode (fx_cc mq_PI_start) 31 = .ok (.bipush 16, 2) := by decide +kernel
theorem dq_PI_start_33 : decode (fx_cc mq_PI_start) 33 = .ok (.putfield 45, 3) := by decide +kernel
theorem dq_PI_start_36 : decode (fx_cc mq_PI_start) 36 = .ok (.aload_n 0, 1) := by decide +kernel
theorem dq_PI_start_37 : decode (fx_cc mq_PI_start) 37 = .ok (.iconst 0, 1) := by decide +kernel
theorem dq_PI_start_38 : decode (fx_cc mq_PI_start) 38 = .ok (.putfield 48, 3) := by decide +kernel
theorem dq_PI_start_41 : decode (fx_cc mq_PI_start) 41 = .ok (.aload_n 0, 1) := by decide +kernel
theorem dq_PI_start_42 : decode (fx_cc mq_PI_start) 42 = .ok (.getfield 9, 3) := by decide +kernel
theorem dq_PI_start_45 : decode (fx_cc mq_PI_start) 45 = .ok (.iconst 0, 1) := by decide +kernel
theorem dq_PI_start_46 : decode (fx_cc mq_PI_start) 46 = .ok (.invokestatic 51, 3) := by decide +kernel
theorem dq_PI_start_49 : decode (fx_cc mq_PI_start) 49 = .ok (.aload_n 0, 1) := by decide +kernel
theorem dq_PI_start_50 : decode (fx_cc mq_PI_start) 50 = .ok (.getfield 18, 3) := by decide +kernel
theorem dq_PI_start_53 : decode (fx_cc mq_PI_start) 53 = .ok (.iconst 0, 1) := by decide +kernel
theorem dq_PI_start_54 : decode (fx_cc mq_PI_start) 54 = .ok (.iconst 0, 1) := by decide +kernel
theorem dq_PI_start_55 : decode (fx_cc mq_PI_start) 55 = .ok (.aload_n 0, 1) := by decide +kernel
theorem dq_PI_start_56 : decode (fx_cc mq_PI_start) 56 = .ok (.getfield 29, 3) := by decide +kernel
theorem dq_PI_start_59 : decode (fx_cc mq_PI_start) 59 = .ok (.aload_n 0, 1) := by decide +kernel
theorem dq_PI_start_60 : decode (fx_cc mq_PI_start) 60 = .ok (.getfield 33, 3) := by decide +kernel
theorem dq_PI_start_63 : decode (fx_cc mq_PI_start) 63 = .ok (.invokevirtual 57, 3) := by decide +kernel
theorem dq_PI_start_66 : decode (fx_cc mq_PI_start) 66 = .ok (.aload_n 0, 1) := by decide +kernel
theorem dq_PI_start_67 : decode (fx_cc mq_PI_start) 67 = .ok (.invokevirtual 61, 3) := by decide +kernel
theorem dq_PI_start_70 : decode (fx_cc mq_PI_start) 70 = .ok (.return_, 1) := by decide +kernel
theorem dq_PI_findShown_0 : decode (fx_cc mq_PI_findShown) 0 = .ok (.aload_n 0, 1) := by decide +kernel
theorem dq_PI_findShown_1 : decode (fx_cc mq_PI_findShown) 1 = .ok (.getfield 25, 3) := by decide +kernel
theorem dq_PI_findShown_4 : decode (fx_cc mq_PI_findShown) 4 = .ok (.ifCond .eq 10, 3) := by decide +kernel
theorem dq_PI_findShown_7 : decode (fx_cc mq_PI_findShown) 7 = .ok (.aload_n 0, 1) := by decide +kernel
theorem dq_PI_findShown_8 : decode (fx_cc mq_PI_findShown) 8 = .ok (.getfield 48, 3) := by decide +kernel
theorem dq_PI_findShown_11 : decode (fx_cc mq_PI_findShown) 11 = .ok (.ifCond .ne 15, 3) := by decide +kernel
theorem dq_PI_findShown_14 : decode (fx_cc mq_PI_findShown) 14 = .ok (.aload_n 0, 1) := by decide +kernel
theorem dq_PI_findShown_15 : decode (fx_cc mq_PI_findShown) 15 = .ok (.getfield 22, 3) := by decide +kernel
theorem dq_PI_findShown_18 : decode (fx_cc mq_PI_findShown) 18 = .ok (.iconst 0, 1) := by decide +kernel
theorem dq_PI_findShown_19 : decode (fx_cc mq_PI_findShown) 19 = .ok (.iconst 0, 1) := by decide +kernel
theorem dq_PI_findShown_20 : decode (fx_cc mq_PI_findShown) 20 = .ok (.iconst 0, 1) := by decide +kernel
theorem dq_PI_findShown_21 : decode (fx_cc mq_PI_findShown) 21 = .ok (.iconst 0, 1) := by decide +kernel
theorem dq_PI_findShown_22 : decode (fx_cc mq_PI_findShown) 22 = .ok (.invokevirtual 57, 3) := by decide +kernel
theorem dq_PI_findShown_25 : decode (fx_cc mq_PI_findShown) 25 = .ok (.return_, 1) := by decide +kernel
theorem dq_PI_findShown_26 : decode (fx_cc mq_PI_findShown) 26 = .ok (.aload_n 0, 1) := by decide +kernel
theorem dq_PI_findShown_27 : decode (fx_cc mq_PI_findShown) 27 = .ok (.getfield 22, 3) := by decide +kernel
theorem dq_PI_findShown_30 : decode (fx_cc mq_PI_findShown) 30 = .ok (.aload_n 0, 1) := by decide +kernel
theorem dq_PI_findShown_31 : decode (fx_cc mq_PI_findShown) 31 = .ok (.getfield 18, 3) := by decide +kernel
theorem dq_PI_findShown_34 : decode (fx_cc mq_PI_findShown) 34 = .ok (.invokevirtual 70, 3) := by decide +kernel
theorem dq_PI_findShown_37 : decode (fx_cc mq_PI_findShown) 37 = .ok (.aload_n 0, 1) := by decide +kernel
end
section
/-! ===== a row for each instruction ===== -/
theorem dq_PI_findShown_38 : decode (fx_cc mq_PI_findShown) 38 = .ok (.getfield 22, 3) := by decide +kernel
theorem dq_PI_findShown_41 : decode (fx_cc mq_PI_findShown) 41 = .ok (.aload_n 0, 1) := by decide +kernel
theorem dq_PI_findShown_42 : decode (fx_cc mq_PI_findShown) 42 = .ok (.getfield 36, 3) := by decide +kernel
theorem dq_PI_findShown_45 : decode (fx_cc mq_PI_findShown) 45 = .ok (.aload_n 0, 1) := by decide +kernel
theorem dq_PI_findShown_46 : decode (fx_cc mq_PI_findShown) 46 = .ok (.getfield 39, 3) := by decide +kernel
theorem dq_PI_findShown_49 : decode (fx_cc mq_PI_findShown) 49 = .ok (.invokevirtual 74, 3) := by decide +kernel
theorem dq_PI_findShown_52 : decode (fx_cc mq_PI_findShown) 52 = .ok (.aload_n 0, 1) := by decide +kernel
theorem dq_PI_findShown_53 : decode (fx_cc mq_PI_findShown) 53 = .ok (.getfield 22, 3) := by decide +kernel
theorem dq_PI_findShown_56 : decode (fx_cc mq_PI_findShown) 56 = .ok (.bipush 20, 2) := by decide +kernel
theorem dq_PI_findShown_58 : decode (fx_cc mq_PI_findShown) 58 = .ok (.bipush 10, 2) := by decide +kernel
theorem dq_PI_findShown_60 : decode (fx_cc mq_PI_findShown) 60 = .ok (.invokevirtual 78, 3) := by decide +kernel
theorem dq_PI_findShown_63 : decode (fx_cc mq_PI_findShown) 63 = .ok (.return_, 1) := by decide +kernel
theorem dq_RE_shift_0 : decode (fx_cc mq_RE_shift) 0 = .ok (.aload_n 0, 1) := by decide +kernel
theorem dq_RE_shift_1 : decode (fx_cc mq_RE_shift) 1 = .ok (.dup, 1) := by decide +kernel
theorem dq_RE_shift_2 : decode (fx_cc mq_RE_shift) 2 = .ok (.getfield 7, 3) := by decide +kernel
theorem dq_RE_shift_5 : decode (fx_cc mq_RE_shift) 5 = .ok (.iload_n 1, 1) := by decide +kernel
theorem dq_RE_shift_6 : decode (fx_cc mq_RE_shift) 6 = .ok (.iadd, 1) := by decide +kernel
theorem dq_RE_shift_7 : decode (fx_cc mq_RE_shift) 7 = .ok (.putfield 7, 3) := by decide +kernel
theorem dq_RE_shift_10 : decode (fx_cc mq_RE_shift) 10 = .ok (.aload_n 0, 1) := by decide +kernel
theorem dq_RE_shift_11 : decode (fx_cc mq_RE_shift) 11 = .ok (.dup, 1) := by decide +kernel
theorem dq_RE_shift_12 : decode (fx_cc mq_RE_shift) 12 = .ok (.getfield 13, 3) := by decide +kernel
theorem dq_RE_shift_15 : decode (fx_cc mq_RE_shift) 15 = .ok (.iload_n 2, 1) := by decide +kernel
theorem dq_RE_shift_16 : decode (fx_cc mq_RE_shift) 16 = .ok (.iadd, 1) := by decide +kernel
theorem dq_RE_shift_17 : decode (fx_cc mq_RE_shift) 17 = .ok (.putfield 13, 3) := by decide +kernel
theorem dq_RE_shift_20 : decode (fx_cc mq_RE_shift) 20 = .ok (.return_, 1) := by decide +kernel
theorem dq_RE_cut_0 : decode (fx_cc mq_RE_cut) 0 = .ok (.aload_n 0, 1) := by decide +kernel
theorem dq_RE_cut_1 : decode (fx_cc mq_RE_cut) 1 = .ok (.getfield 7, 3) := by decide +kernel
theorem dq_RE_cut_4 : decode (fx_cc mq_RE_cut) 4 = .ok (.aload_n 0, 1) := by decide +kernel
theorem dq_RE_cut_5 : decode (fx_cc mq_RE_cut) 5 = .ok (.getfield 16, 3) := by decide +kernel
theorem dq_RE_cut_8 : decode (fx_cc mq_RE_cut) 8 = .ok (.iadd, 1) := by decide +kernel
theorem dq_RE_cut_9 : decode (fx_cc mq_RE_cut) 9 = .ok (.iload_n 1, 1) := by decide +kernel
theorem dq_RE_cut_10 : decode (fx_cc mq_RE_cut) 10 = .ok (.invokestatic 26, 3) := by decide +kernel
theorem dq_RE_cut_13 : decode (fx_cc mq_RE_cut) 13 = .ok (.istore_n 3, 1) := by decide +kernel
theorem dq_RE_cut_14 : decode (fx_cc mq_RE_cut) 14 = .ok (.aload_n 0, 1) := by decide +kernel
theorem dq_RE_cut_15 : decode (fx_cc mq_RE_cut) 15 = .ok (.getfield 13, 3) := by decide +kernel
theorem dq_RE_cut_18 : decode (fx_cc mq_RE_cut) 18 = .ok (.aload_n 0, 1) := by decide +kernel
theorem dq_RE_cut_19 : decode (fx_cc mq_RE_cut) 19 = .ok (.getfield 19, 3) := by decide +kernel
theorem dq_RE_cut_22 : decode (fx_cc mq_RE_cut) 22 = .ok (.iadd, 1) := by decide +kernel
theorem dq_RE_cut_23 : decode (fx_cc mq_RE_cut) 23 = .ok (.iload_n 2, 1) := by decide +kernel
theorem dq_RE_cut_24 : decode (fx_cc mq_RE_cut) 24 = .ok (.invokestatic 26, 3) := by decide +kernel
theorem dq_RE_cut_27 : decode (fx_cc mq_RE_cut) 27 = .ok (.istore 4, 2) := by decide +kernel
theorem dq_RE_cut_29 : decode (fx_cc mq_RE_cut) 29 = .ok (.aload_n 0, 1) := by decide +kernel
theorem dq_RE_cut_30 : decode (fx_cc mq_RE_cut) 30 = .ok (.aload_n 0, 1) := by decide +kernel
theorem dq_RE_cut_31 : decode (fx_cc mq_RE_cut) 31 = .ok (.getfield 7, 3) := by decide +kernel
theorem dq_RE_cut_34 : decode (fx_cc mq_RE_cut) 34 = .ok (.iconst 0, 1) := by decide +kernel
theorem dq_RE_cut_35 : decode (fx_cc mq_RE_cut) 35 = .ok (.invokestatic 32, 3) := by decide +kernel
theorem dq_RE_cut_38 : decode (fx_cc mq_RE_cut) 38 = .ok (.putfield 7, 3) := by decide +kernel
theorem dq_RE_cut_41 : decode (fx_cc mq_RE_cut) 41 = .ok (.aload_n 0, 1) := by decide +kernel
theorem dq_RE_cut_42 : decode (fx_cc mq_RE_cut) 42 = .ok (.aload_n 0, 1) := by decide +kernel
theorem dq_RE_cut_43 : decode (fx_cc mq_RE_cut) 43 = .ok (.getfield 13, 3) := by decide +kernel
theorem dq_RE_cut_46 : decode (fx_cc mq_RE_cut) 46 = .ok (.iconst 0, 1) := by decide +kernel
theorem dq_RE_cut_47 : decode (fx_cc mq_RE_cut) 47 = .ok (.invokestatic 32, 3) := by decide +kernel
theorem dq_RE_cut_50 : decode (fx_cc mq_RE_cut) 50 = .ok (.putfield 13, 3) := by decide +kernel
theorem dq_RE_cut_53 : decode (fx_cc mq_RE_cut) 53 = .ok (.aload_n 0, 1) := by decide +kernel
theorem dq_RE_cut_54 : decode (fx_cc mq_RE_cut) 54 = .ok (.iload_n 3, 1) := by decide +kernel
theorem dq_RE_cut_55 : decode (fx_cc mq_RE_cut) 55 = .ok (.aload_n 0, 1) := by decide +kernel
theorem dq_RE_cut_56 : decode (fx_cc mq_RE_cut) 56 = .ok (.getfield 7, 3) := by decide +kernel
theorem dq_RE_cut_59 : decode (fx_cc mq_RE_cut) 59 = .ok (.isub, 1) := by decide +kernel
theorem dq_RE_cut_60 : decode (fx_cc mq_RE_cut) 60 = .ok (.iconst 0, 1) := by decide +kernel
theorem dq_RE_cut_61 : decode (fx_cc mq_RE_cut) 61 = .ok (.invokestatic 32, 3) := by decide +kernel
theorem dq_RE_cut_64 : decode (fx_cc mq_RE_cut) 64 = .ok (.putfield 16, 3) := by decide +kernel
theorem dq_RE_cut_67 : decode (fx_cc mq_RE_cut) 67 = .ok (.aload_n 0, 1) := by decide +kernel
theorem dq_RE_cut_68 : decode (fx_cc mq_RE_cut) 68 = .ok (.iload 4, 2) := by decide +kernel
theorem dq_RE_cut_70 : decode (fx_cc mq_RE_cut) 70 = .ok (.aload_n 0, 1) := by decide +kernel
theorem dq_RE_cut_71 : decode (fx_cc mq_RE_cut) 71 = .ok (.getfield 13, 3) := by decide +kernel
theorem dq_RE_cut_74 : decode (fx_cc mq_RE_cut) 74 = .ok (.isub, 1) := by decide +kernel
theorem dq_RE_cut_75 : decode (fx_cc mq_RE_cut) 75 = .ok (.iconst 0, 1) := by decide +kernel
theorem dq_RE_cut_76 : decode (fx_cc mq_RE_cut) 76 = .ok (.invokestatic 32, 3) := by decide +kernel
theorem dq_RE_cut_79 : decode (fx_cc mq_RE_cut) 79 = .ok (.putfield 19, 3) := by decide +kernel
theorem dq_RE_cut_82 : decode (fx_cc mq_RE_cut) 82 = .ok (.return_, 1) := by decide +kernel
theorem dq_LA_destroy_0 : decode (fx_cc mq_LA_destroy) 0 = .ok (.aload_n 0, 1) := by decide +kernel
theorem dq_LA_destroy_1 : decode (fx_cc mq_LA_destroy) 1 = .ok (.iload_n 1, 1) := by decide +kernel
theorem dq_LA_destroy_2 : decode (fx_cc mq_LA_destroy) 2 = .ok (.invokevirtual 17, 3) := by decide +kernel
theorem dq_LA_destroy_5 : decode (fx_cc mq_LA_destroy) 5 = .ok (.goto 6, 3) := by decide +kernel
theorem dq_LA_destroy_8 : decode (fx_cc mq_LA_destroy) 8 = .ok (.astore_n 2, 1) := by decide +kernel
theorem dq_LA_destroy_9 : decode (fx_cc mq_LA_destroy) 9 = .ok (.iconst 1, 1) := by decide +kernel
theorem dq_LA_destroy_10 : decode (fx_cc mq_LA_destroy) 10 = .ok (.ireturn, 1) := by decide +kernel
theorem dq_LA_destroy_11 : decode (fx_cc mq_LA_destroy) 11 = .ok (.iconst 0, 1) := by decide +kernel
theorem dq_LA_destroy_12 : decode (fx_cc mq_LA_destroy) 12 = .ok (.ireturn, 1) := by decide +kernel
theorem dq_FS_destroy_0 : decode (fx_cc mq_FS_destroy) 0 = .ok (.aload_n 0, 1) := by decide +kernel
theorem dq_FS_destroy_1 : decode (fx_cc mq_FS_destroy) 1 = .ok (.getfield 10, 3) := by decide +kernel
theorem dq_FS_destroy_4 : decode (fx_cc mq_FS_destroy) 4 = .ok (.iload_n 1, 1) := by decide +kernel
theorem dq_FS_destroy_5 : decode (fx_cc mq_FS_destroy) 5 = .ok (.invokevirtual 71, 3) := by decide +kernel
theorem dq_FS_destroy_8 : decode (fx_cc mq_FS_destroy) 8 = .ok (.invokestatic 52, 3) := by decide +kernel
theorem dq_FS_destroy_11 : decode (fx_cc mq_FS_destroy) 11 = .ok (.aload_n 0, 1) := by decide +kernel
theorem dq_FS_destroy_12 : decode (fx_cc mq_FS_destroy) 12 = .ok (.getfield 10, 3) := by decide +kernel
theorem dq_FS_destroy_15 : decode (fx_cc mq_FS_destroy) 15 = .ok (.getfield 74, 3) := by decide +kernel
theorem dq_FS_destroy_18 : decode (fx_cc mq_FS_destroy) 18 = .ok (.iload_n 1, 1) := by decide +kernel
theorem dq_FS_destroy_19 : decode (fx_cc mq_FS_destroy) 19 = .ok (.aaload, 1) := by decide +kernel
theorem dq_FS_destroy_20 : decode (fx_cc mq_FS_destroy) 20 = .ok (.invokevirtual 78, 3) := by decide +kernel
theorem dq_FS_destroy_23 : decode (fx_cc mq_FS_destroy) 23 = .ok (.return_, 1) := by decide +kernel
theorem dq_DE_hasDraft_0 : decode (fx_cc mq_DE_hasDraft) 0 = .ok (.iload_n 1, 1) := by decide +kernel
theorem dq_DE_hasDraft_1 : decode (fx_cc mq_DE_hasDraft) 1 = .ok (.ifCond .lt 25, 3) := by decide +kernel
theorem dq_DE_hasDraft_4 : decode (fx_cc mq_DE_hasDraft) 4 = .ok (.iload_n 1, 1) := by decide +kernel
theorem dq_DE_hasDraft_5 : decode (fx_cc mq_DE_hasDraft) 5 = .ok (.bipush 10, 2) := by decide +kernel
theorem dq_DE_hasDraft_7 : decode (fx_cc mq_DE_hasDraft) 7 = .ok (.if_icmp .ge 19, 3) := by decide +kernel
theorem dq_DE_hasDraft_10 : decode (fx_cc mq_DE_hasDraft) 10 = .ok (.aload_n 0, 1) := by decide +kernel
theorem dq_DE_hasDraft_11 : decode (fx_cc mq_DE_hasDraft) 11 = .ok (.getfield 11, 3) := by decide +kernel
theorem dq_DE_hasDraft_14 : decode (fx_cc mq_DE_hasDraft) 14 = .ok (.iload_n 1, 1) := by decide +kernel
theorem dq_DE_hasDraft_15 : decode (fx_cc mq_DE_hasDraft) 15 = .ok (.aaload, 1) := by decide +kernel
theorem dq_DE_hasDraft_16 : decode (fx_cc mq_DE_hasDraft) 16 = .ok (.getfield 40, 3) := by decide +kernel
theorem dq_DE_hasDraft_19 : decode (fx_cc mq_DE_hasDraft) 19 = .ok (.ifCond .eq 7, 3) := by decide +kernel
theorem dq_DE_hasDraft_22 : decode (fx_cc mq_DE_hasDraft) 22 = .ok (.iconst 1, 1) := by decide +kernel
theorem dq_DE_hasDraft_23 : decode (fx_cc mq_DE_hasDraft) 23 = .ok (.goto 4, 3) := by decide +kernel
theorem dq_DE_hasDraft_26 : decode (fx_cc mq_DE_hasDraft) 26 = .ok (.iconst 0, 1) := by decide +kernel
theorem dq_DE_hasDraft_27 : decode (fx_cc mq_DE_hasDraft) 27 = .ok (.ireturn, 1) := by decide +kernel
theorem dq_PI_remove_0 : decode (fx_cc mq_PI_remove) 0 = .ok (.aload_n 0, 1) := by decide +kernel
theorem dq_PI_remove_1 : decode (fx_cc mq_PI_remove) 1 = .ok (.iconst 0, 1) := by decide +kernel
theorem dq_PI_remove_2 : decode (fx_cc mq_PI_remove) 2 = .ok (.putfield 25, 3) := by decide +kernel
theorem dq_PI_remove_5 : decode (fx_cc mq_PI_remove) 5 = .ok (.aload_n 0, 1) := by decide +kernel
theorem dq_PI_remove_6 : decode (fx_cc mq_PI_remove) 6 = .ok (.invokevirtual 61, 3) := by decide +kernel
theorem dq_PI_remove_9 : decode (fx_cc mq_PI_remove) 9 = .ok (.return_, 1) := by decide +kernel
theorem dq_LA_place_0 : decode (fx_cc mq_LA_place) 0 = .ok (.aload_n 0, 1) := by decide +kernel
theorem dq_LA_place_1 : decode (fx_cc mq_LA_place) 1 = .ok (.iload_n 1, 1) := by decide +kernel
theorem dq_LA_place_2 : decode (fx_cc mq_LA_place) 2 = .ok (.iload_n 2, 1) := by decide +kernel
theorem dq_LA_place_3 : decode (fx_cc mq_LA_place) 3 = .ok (.iload_n 3, 1) := by decide +kernel
theorem dq_LA_place_4 : decode (fx_cc mq_LA_place) 4 = .ok (.iload 4, 2) := by decide +kernel
theorem dq_LA_place_6 : decode (fx_cc mq_LA_place) 6 = .ok (.iload 5, 2) := by decide +kernel
theorem dq_LA_place_8 : decode (fx_cc mq_LA_place) 8 = .ok (.iload 6, 2) := by decide +kernel
theorem dq_LA_place_10 : decode (fx_cc mq_LA_place) 10 = .ok (.invokevirtual 21, 3) := by decide +kernel
theorem dq_LA_place_13 : decode (fx_cc mq_LA_place) 13 = .ok (.goto 7, 3) := by decide +kernel
theorem dq_LA_place_16 : decode (fx_cc mq_LA_place) 16 = .ok (.astore 7, 2) := by decide +kernel
theorem dq_LA_place_18 : decode (fx_cc mq_LA_place) 18 = .ok (.iconst 1, 1) := by decide +kernel
theorem dq_LA_place_19 : decode (fx_cc mq_LA_place) 19 = .ok (.ireturn, 1) := by decide +kernel
theorem dq_LA_place_20 : decode (fx_cc mq_LA_place) 20 = .ok (.iconst 0, 1) := by decide +kernel
theorem dq_LA_place_21 : decode (fx_cc mq_LA_place) 21 = .ok (.ireturn, 1) := by decide +kernel
theorem dq_FS_place_0 : decode (fx_cc mq_FS_place) 0 = .ok (.aload_n 0, 1) := by decide +kernel
theorem dq_FS_place_1 : decode (fx_cc mq_FS_place) 1 = .ok (.getfield 10, 3) := by decide +kernel
theorem dq_FS_place_4 : decode (fx_cc mq_FS_place) 4 = .ok (.iload_n 1, 1) := by decide +kernel
theorem dq_FS_place_5 : decode (fx_cc mq_FS_place) 5 = .ok (.invokevirtual 71, 3) := by decide +kernel
theorem dq_FS_place_8 : decode (fx_cc mq_FS_place) 8 = .ok (.ifCond .eq 21, 3) := by decide +kernel
theorem dq_FS_place_11 : decode (fx_cc mq_FS_place) 11 = .ok (.iload_n 2, 1) := by decide +kernel
theorem dq_FS_place_12 : decode (fx_cc mq_FS_place) 12 = .ok (.invokestatic 81, 3) := by decide +kernel
theorem dq_FS_place_15 : decode (fx_cc mq_FS_place) 15 = .ok (.ifCond .eq 14, 3) := by decide +kernel
theorem dq_FS_place_18 : decode (fx_cc mq_FS_place) 18 = .ok (.iload_n 3, 1) := by decide +kernel
theorem dq_FS_place_19 : decode (fx_cc mq_FS_place) 19 = .ok (.invokestatic 81, 3) := by decide +kernel
theorem dq_FS_place_22 : decode (fx_cc mq_FS_place) 22 = .ok (.ifCond .eq 7, 3) := by decide +kernel
theorem dq_FS_place_25 : decode (fx_cc mq_FS_place) 25 = .ok (.iconst 1, 1) := by decide +kernel
theorem dq_FS_place_26 : decode (fx_cc mq_FS_place) 26 = .ok (.goto 4, 3) := by decide +kernel
theorem dq_FS_place_29 : decode (fx_cc mq_FS_place) 29 = .ok (.iconst 0, 1) := by decide +kernel
theorem dq_FS_place_30 : decode (fx_cc mq_FS_place) 30 = .ok (.invokestatic 52, 3) := by decide +kernel
theorem dq_FS_place_33 : decode (fx_cc mq_FS_place) 33 = .ok (.iload 4, 2) := by decide +kernel
theorem dq_FS_place_35 : decode (fx_cc mq_FS_place) 35 = .ok (.iconst 0, 1) := by decide +kernel
theorem dq_FS_place_36 : decode (fx_cc mq_FS_place) 36 = .ok (.bipush 9, 2) := by decide +kernel
theorem dq_FS_place_38 : decode (fx_cc mq_FS_place) 38 = .ok (.invokestatic 48, 3) := by decide +kernel
theorem dq_FS_place_41 : decode (fx_cc mq_FS_place) 41 = .ok (.ifCond .eq 18, 3) := by decide +kernel
theorem dq_FS_place_44 : decode (fx_cc mq_FS_place) 44 = .ok (.iload 5, 2) := by decide +kernel
theorem dq_FS_place_46 : decode (fx_cc mq_FS_place) 46 = .ok (.iconst 0, 1) := by decide +kernel
theorem dq_FS_place_47 : decode (fx_cc mq_FS_place) 47 = .ok (.bipush 16, 2) := by decide +kernel
theorem dq_FS_place_49 : decode (fx_cc mq_FS_place) 49 = .ok (.invokestatic 48, 3) := by decide +kernel
theorem dq_FS_place_52 : decode (fx_cc mq_FS_place) 52 = .ok (.ifCond .eq 7, 3) := by decide +kernel
theorem dq_FS_place_55 : decode (fx_cc mq_FS_place) 55 = .ok (.iconst 1, 1) := by decide +kernel
theorem dq_FS_place_56 : decode (fx_cc mq_FS_place) 56 = .ok (.goto 4, 3) := by decide +kernel
theorem dq_FS_place_59 : decode (fx_cc mq_FS_place) 59 = .ok (.iconst 0, 1) := by decide +kernel
theorem dq_FS_place_60 : decode (fx_cc mq_FS_place) 60 = .ok (.invokestatic 52, 3) := by decide +kernel
theorem dq_FS_place_63 : decode (fx_cc mq_FS_place) 63 = .ok (.aload_n 0, 1) := by decide +kernel
theorem dq_FS_place_64 : decode (fx_cc mq_FS_place) 64 = .ok (.getfield 10, 3) := by decide +kernel
theorem dq_FS_place_67 : decode (fx_cc mq_FS_place) 67 = .ok (.getfield 74, 3) := by decide +kernel
theorem dq_FS_place_70 : decode (fx_cc mq_FS_place) 70 = .ok (.iload_n 1, 1) := by decide +kernel
theorem dq_FS_place_71 : decode (fx_cc mq_FS_place) 71 = .ok (.aaload, 1) := by decide +kernel
theorem dq_FS_place_72 : decode (fx_cc mq_FS_place) 72 = .ok (.astore 7, 2) := by decide +kernel
theorem dq_FS_place_74 : decode (fx_cc mq_FS_place) 74 = .ok (.aload 7, 2) := by decide +kernel
theorem dq_FS_place_76 : decode (fx_cc mq_FS_place) 76 = .ok (.iload_n 2, 1) := by decide +kernel
theorem dq_FS_place_77 : decode (fx_cc mq_FS_place) 77 = .ok (.putfield 84, 3) := by decide +kernel
theorem dq_FS_place_80 : decode (fx_cc mq_FS_place) 80 = .ok (.aload 7, 2) := by decide +kernel
theorem dq_FS_place_82 : decode (fx_cc mq_FS_place) 82 = .ok (.iload_n 3, 1) := by decide +kernel
theorem dq_FS_place_83 : decode (fx_cc mq_FS_place) 83 = .ok (.putfield 87, 3) := by decide +kernel
theorem dq_FS_place_86 : decode (fx_cc mq_FS_place) 86 = .ok (.aload 7, 2) := by decide +kernel
theorem dq_FS_place_88 : decode (fx_cc mq_FS_place) 88 = .ok (.iload 4, 2) := by decide +kernel
theorem dq_FS_place_90 : decode (fx_cc mq_FS_place) 90 = .ok (.putfield 90, 3) := by decide +kernel
theorem dq_FS_place_93 : decode (fx_cc mq_FS_place) 93 = .ok (.aload 7, 2) := by decide +kernel
theorem dq_FS_place_95 : decode (fx_cc mq_FS_place) 95 = .ok (.iload 5, 2) := by decide +kernel
theorem dq_FS_place_97 : decode (fx_cc mq_FS_place) 97 = .ok (.putfield 93, 3) := by decide +kernel
theorem dq_FS_place_100 : decode (fx_cc mq_FS_place) 100 = .ok (.aload 7, 2) := by decide +kernel
theorem dq_FS_place_102 : decode (fx_cc mq_FS_place) 102 = .ok (.iload 6, 2) := by decide +kernel
theorem dq_FS_place_104 : decode (fx_cc mq_FS_place) 104 = .ok (.putfield 96, 3) := by decide +kernel
theorem dq_FS_place_107 : decode (fx_cc mq_FS_place) 107 = .ok (.aload 7, 2) := by decide +kernel
theorem dq_FS_place_109 : decode (fx_cc mq_FS_place) 109 = .ok (.invokevirtual 100, 3) := by decide +kernel
theorem dq_FS_place_112 : decode (fx_cc mq_FS_place) 112 = .ok (.return_, 1) := by decide +kernel
theorem dq_FS_isPlace_0 : decode (fx_cc mq_FS_isPlace) 0 = .ok (.iload_n 0, 1) := by decide +kernel
theorem dq_FS_isPlace_1 : decode (fx_cc mq_FS_isPlace) 1 = .ok (.bipush (-20), 2) := by decide +kernel
theorem dq_FS_isPlace_3 : decode (fx_cc mq_FS_isPlace) 3 = .ok (.bipush 30, 2) := by decide +kernel
theorem dq_FS_isPlace_5 : decode (fx_cc mq_FS_isPlace) 5 = .ok (.invokestatic 48, 3) := by decide +kernel
theorem dq_FS_isPlace_8 : decode (fx_cc mq_FS_isPlace) 8 = .ok (.ireturn, 1) := by decide +kernel
theorem dq_LA_clip_0 : decode (fx_cc mq_LA_clip) 0 = .ok (.aload_n 0, 1) := by decide +kernel
theorem dq_LA_clip_1 : decode (fx_cc mq_LA_clip) 1 = .ok (.iload_n 1, 1) := by decide +kernel
theorem dq_LA_clip_2 : decode (fx_cc mq_LA_clip) 2 = .ok (.iload_n 2, 1) := by decide +kernel
theorem dq_LA_clip_3 : decode (fx_cc mq_LA_clip) 3 = .ok (.iload_n 3, 1) := by decide +kernel
theorem dq_LA_clip_4 : decode (fx_cc mq_LA_clip) 4 = .ok (.iload 4, 2) := by decide +kernel
theorem dq_LA_clip_6 : decode (fx_cc mq_LA_clip) 6 = .ok (.iload 5, 2) := by decide +kernel
theorem dq_LA_clip_8 : decode (fx_cc mq_LA_clip) 8 = .ok (.invokevirtual 25, 3) := by decide +kernel
theorem dq_LA_clip_11 : decode (fx_cc mq_LA_clip) 11 = .ok (.goto 7, 3) := by decide +kernel
theorem dq_LA_clip_14 : decode (fx_cc mq_LA_clip) 14 = .ok (.astore 6, 2) := by decide +kernel
theorem dq_LA_clip_16 : decode (fx_cc mq_LA_clip) 16 = .ok (.iconst 1, 1) := by decide +kernel
theorem dq_LA_clip_17 : decode (fx_cc mq_LA_clip) 17 = .ok (.ireturn, 1) := by decide +kernel
theorem dq_LA_clip_18 : decode (fx_cc mq_LA_clip) 18 = .ok (.iconst 0, 1) := by decide +kernel
theorem dq_LA_clip_19 : decode (fx_cc mq_LA_clip) 19 = .ok (.ireturn, 1) := by decide +kernel
theorem dq_FS_clip_0 : decode (fx_cc mq_FS_clip) 0 = .ok (.aload_n 0, 1) := by decide +kernel
theorem dq_FS_clip_1 : decode (fx_cc mq_FS_clip) 1 = .ok (.getfield 10, 3) := by decide +kernel
theorem dq_FS_clip_4 : decode (fx_cc mq_FS_clip) 4 = .ok (.iload_n 1, 1) := by decide +kernel
theorem dq_FS_clip_5 : decode (fx_cc mq_FS_clip) 5 = .ok (.invokevirtual 71, 3) := by decide +kernel
theorem dq_FS_clip_8 : decode (fx_cc mq_FS_clip) 8 = .ok (.ifCond .eq 19, 3) := by decide +kernel
theorem dq_FS_clip_11 : decode (fx_cc mq_FS_clip) 11 = .ok (.iload_n 2, 1) := by decide +kernel
theorem dq_FS_clip_12 : decode (fx_cc mq_FS_clip) 12 = .ok (.iload_n 3, 1) := by decide +kernel
theorem dq_FS_clip_13 : decode (fx_cc mq_FS_clip) 13 = .ok (.iload 4, 2) := by decide +kernel
theorem dq_FS_clip_15 : decode (fx_cc mq_FS_clip) 15 = .ok (.iload 5, 2) := by decide +kernel
theorem dq_FS_clip_17 : decode (fx_cc mq_FS_clip) 17 = .ok (.invokestatic 103, 3) := by decide +kernel
theorem dq_FS_clip_20 : decode (fx_cc mq_FS_clip) 20 = .ok (.ifCond .eq 7, 3) := by decide +kernel
theorem dq_FS_clip_23 : decode (fx_cc mq_FS_clip) 23 = .ok (.iconst 1, 1) := by decide +kernel
theorem dq_FS_clip_24 : decode (fx_cc mq_FS_clip) 24 = .ok (.goto 4, 3) := by decide +kernel
theorem dq_FS_clip_27 : decode (fx_cc mq_FS_clip) 27 = .ok (.iconst 0, 1) := by decide +kernel
theorem dq_FS_clip_28 : decode (fx_cc mq_FS_clip) 28 = .ok (.invokestatic 52, 3) := by decide +kernel
theorem dq_FS_clip_31 : decode (fx_cc mq_FS_clip) 31 = .ok (.aload_n 0, 1) := by decide +kernel
theorem dq_FS_clip_32 : decode (fx_cc mq_FS_clip) 32 = .ok (.getfield 10, 3) := by decide +kernel
theorem dq_FS_clip_35 : decode (fx_cc mq_FS_clip) 35 = .ok (.getfield 74, 3) := by decide +kernel
theorem dq_FS_clip_38 : decode (fx_cc mq_FS_clip) 38 = .ok (.iload_n 1, 1) := by decide +kernel
theorem dq_FS_clip_39 : decode (fx_cc mq_FS_clip) 39 = .ok (.aaload, 1) := by decide +kernel
theorem dq_FS_clip_40 : decode (fx_cc mq_FS_clip) 40 = .ok (.astore 6, 2) := by decide +kernel
theorem dq_FS_clip_42 : decode (fx_cc mq_FS_clip) 42 = .ok (.aload 6, 2) := by decide +kernel
theorem dq_FS_clip_44 : decode (fx_cc mq_FS_clip) 44 = .ok (.getfield 107, 3) := by decide +kernel
theorem dq_FS_clip_47 : decode (fx_cc mq_FS_clip) 47 = .ok (.iload_n 2, 1) := by decide +kernel
theorem dq_FS_clip_48 : decode (fx_cc mq_FS_clip) 48 = .ok (.iload_n 3, 1) := by decide +kernel
theorem dq_FS_clip_49 : decode (fx_cc mq_FS_clip) 49 = .ok (.iload 4, 2) := by decide +kernel
theorem dq_FS_clip_51 : decode (fx_cc mq_FS_clip) 51 = .ok (.iload 5, 2) := by decide +kernel
theorem dq_FS_clip_53 : decode (fx_cc mq_FS_clip) 53 = .ok (.invokevirtual 110, 3) := by decide +kernel
theorem dq_FS_clip_56 : decode (fx_cc mq_FS_clip) 56 = .ok (.aload 6, 2) := by decide +kernel
theorem dq_FS_clip_58 : decode (fx_cc mq_FS_clip) 58 = .ok (.getfield 107, 3) := by decide +kernel
theorem dq_FS_clip_61 : decode (fx_cc mq_FS_clip) 61 = .ok (.aload 6, 2) := by decide +kernel
theorem dq_FS_clip_63 : decode (fx_cc mq_FS_clip) 63 = .ok (.getfield 113, 3) := by decide +kernel
theorem dq_FS_clip_66 : decode (fx_cc mq_FS_clip) 66 = .ok (.aload 6, 2) := by decide +kernel
theorem dq_FS_clip_68 : decode (fx_cc mq_FS_clip) 68 = .ok (.getfield 116, 3) := by decide +kernel
theorem dq_FS_clip_71 : decode (fx_cc mq_FS_clip) 71 = .ok (.invokevirtual 119, 3) := by decide +kernel
theorem dq_FS_clip_74 : decode (fx_cc mq_FS_clip) 74 = .ok (.aload 6, 2) := by decide +kernel
theorem dq_FS_clip_76 : decode (fx_cc mq_FS_clip) 76 = .ok (.invokevirtual 100, 3) := by decide +kernel
theorem dq_FS_clip_79 : decode (fx_cc mq_FS_clip) 79 = .ok (.return_, 1) := by decide +kernel
theorem dq_FS_isArea_0 : decode (fx_cc mq_FS_isArea) 0 = .ok (.iload_n 0, 1) := by decide +kernel
theorem dq_FS_isArea_1 : decode (fx_cc mq_FS_isArea) 1 = .ok (.invokestatic 81, 3) := by decide +kernel
theorem dq_FS_isArea_4 : decode (fx_cc mq_FS_isArea) 4 = .ok (.ifCond .eq 34, 3) := by decide +kernel
theorem dq_FS_isArea_7 : decode (fx_cc mq_FS_isArea) 7 = .ok (.iload_n 1, 1) := by decide +kernel
theorem dq_FS_isArea_8 : decode (fx_cc mq_FS_isArea) 8 = .ok (.invokestatic 81, 3) := by decide +kernel
theorem dq_FS_isArea_11 : decode (fx_cc mq_FS_isArea) 11 = .ok (.ifCond .eq 27, 3) := by decide +kernel
theorem dq_FS_isArea_14 : decode (fx_cc mq_FS_isArea) 14 = .ok (.iload_n 2, 1) := by decide +kernel
theorem dq_FS_isArea_15 : decode (fx_cc mq_FS_isArea) 15 = .ok (.iconst 0, 1) := by decide +kernel
theorem dq_FS_isArea_16 : decode (fx_cc mq_FS_isArea) 16 = .ok (.bipush 30, 2) := by decide +kernel
theorem dq_FS_isArea_18 : decode (fx_cc mq_FS_isArea) 18 = .ok (.invokestatic 48, 3) := by decide +kernel
theorem dq_FS_isArea_21 : decode (fx_cc mq_FS_isArea) 21 = .ok (.ifCond .eq 17, 3) := by decide +kernel
theorem dq_FS_isArea_24 : decode (fx_cc mq_FS_isArea) 24 = .ok (.iload_n 3, 1) := by decide +kernel
theorem dq_FS_isArea_25 : decode (fx_cc mq_FS_isArea) 25 = .ok (.iconst 0, 1) := by decide +kernel
theorem dq_FS_isArea_26 : decode (fx_cc mq_FS_isArea) 26 = .ok (.bipush 30, 2) := by decide +kernel
theorem dq_FS_isArea_28 : decode (fx_cc mq_FS_isArea) 28 = .ok (.invokestatic 48, 3) := by decide +kernel
theorem dq_FS_isArea_31 : decode (fx_cc mq_FS_isArea) 31 = .ok (.ifCond .eq 7, 3) := by decide +kernel
theorem dq_FS_isArea_34 : decode (fx_cc mq_FS_isArea) 34 = .ok (.iconst 1, 1) := by decide +kernel
theorem dq_FS_isArea_35 : decode (fx_cc mq_FS_isArea) 35 = .ok (.goto 4, 3) := by decide +kernel
theorem dq_FS_isArea_38 : decode (fx_cc mq_FS_isArea) 38 = .ok (.iconst 0, 1) := by decide +kernel
theorem dq_FS_isArea_39 : decode (fx_cc mq_FS_isArea) 39 = .ok (.ireturn, 1) := by decide +kernel
theorem dq_LA_put_0 : decode (fx_cc mq_LA_put) 0 = .ok (.aload_n 0, 1) := by decide +kernel
theorem dq_LA_put_1 : decode (fx_cc mq_LA_put) 1 = .ok (.iload_n 1, 1) := by decide +kernel
theorem dq_LA_put_2 : decode (fx_cc mq_LA_put) 2 = .ok (.iload_n 2, 1) := by decide +kernel
theorem dq_LA_put_3 : decode (fx_cc mq_LA_put) 3 = .ok (.iload_n 3, 1) := by decide +kernel
theorem dq_LA_put_4 : decode (fx_cc mq_LA_put) 4 = .ok (.iload 4, 2) := by decide +kernel
theorem dq_LA_put_6 : decode (fx_cc mq_LA_put) 6 = .ok (.invokevirtual 29, 3) := by decide +kernel
theorem dq_LA_put_9 : decode (fx_cc mq_LA_put) 9 = .ok (.goto 11, 3) := by decide +kernel
theorem dq_LA_put_12 : decode (fx_cc mq_LA_put) 12 = .ok (.astore 5, 2) := by decide +kernel
theorem dq_LA_put_14 : decode (fx_cc mq_LA_put) 14 = .ok (.iconst 1, 1) := by decide +kernel
theorem dq_LA_put_15 : decode (fx_cc mq_LA_put) 15 = .ok (.ireturn, 1) := by decide +kernel
theorem dq_LA_put_16 : decode (fx_cc mq_LA_put) 16 = .ok (.astore 5, 2) := by decide +kernel
theorem dq_LA_put_18 : decode (fx_cc mq_LA_put) 18 = .ok (.iconst 2, 1) := by decide +kernel
theorem dq_LA_put_19 : decode (fx_cc mq_LA_put) 19 = .ok (.ireturn, 1) := by decide +kernel
theorem dq_LA_put_20 : decode (fx_cc mq_LA_put) 20 = .ok (.iconst 0, 1) := by decide +kernel
theorem dq_LA_put_21 : decode (fx_cc mq_LA_put) 21 = .ok (.ireturn, 1) := by decide +kernel
theorem dq_FS_put_0 : decode (fx_cc mq_FS_put) 0 = .ok (.aload_n 0, 1) := by decide +kernel
theorem dq_FS_put_1 : decode (fx_cc mq_FS_put) 1 = .ok (.getfield 10, 3) := by decide +kernel
theorem dq_FS_put_4 : decode (fx_cc mq_FS_put) 4 = .ok (.iload_n 1, 1) := by decide +kernel
theorem dq_FS_put_5 : decode (fx_cc mq_FS_put) 5 = .ok (.invokevirtual 71, 3) := by decide +kernel
theorem dq_FS_put_8 : decode (fx_cc mq_FS_put) 8 = .ok (.ifCond .eq 15, 3) := by decide +kernel
theorem dq_FS_put_11 : decode (fx_cc mq_FS_put) 11 = .ok (.iload 4, 2) := by decide +kernel
theorem dq_FS_put_13 : decode (fx_cc mq_FS_put) 13 = .ok (.invokestatic 123, 3) := by decide +kernel
theorem dq_FS_put_16 : decode (fx_cc mq_FS_put) 16 = .ok (.ifCond .eq 7, 3) := by decide +kernel
theorem dq_FS_put_19 : decode (fx_cc mq_FS_put) 19 = .ok (.iconst 1, 1) := by decide +kernel
theorem dq_FS_put_20 : decode (fx_cc mq_FS_put) 20 = .ok (.goto 4, 3) := by decide +kernel
theorem dq_FS_put_23 : decode (fx_cc mq_FS_put) 23 = .ok (.iconst 0, 1) := by decide +kernel
theorem dq_FS_put_24 : decode (fx_cc mq_FS_put) 24 = .ok (.invokestatic 52, 3) := by decide +kernel
theorem dq_FS_put_27 : decode (fx_cc mq_FS_put) 27 = .ok (.aload_n 0, 1) := by decide +kernel
theorem dq_FS_put_28 : decode (fx_cc mq_FS_put) 28 = .ok (.getfield 10, 3) := by decide +kernel
theorem dq_FS_put_31 : decode (fx_cc mq_FS_put) 31 = .ok (.getfield 74, 3) := by decide +kernel
theorem dq_FS_put_34 : decode (fx_cc mq_FS_put) 34 = .ok (.iload_n 1, 1) := by decide +kernel
theorem dq_FS_put_35 : decode (fx_cc mq_FS_put) 35 = .ok (.aaload, 1) := by decide +kernel
theorem dq_FS_put_36 : decode (fx_cc mq_FS_put) 36 = .ok (.astore 5, 2) := by decide +kernel
theorem dq_FS_put_38 : decode (fx_cc mq_FS_put) 38 = .ok (.iload_n 2, 1) := by decide +kernel
theorem dq_FS_put_39 : decode (fx_cc mq_FS_put) 39 = .ok (.iconst 0, 1) := by decide +kernel
theorem dq_FS_put_40 : decode (fx_cc mq_FS_put) 40 = .ok (.aload 5, 2) := by decide +kernel
theorem dq_FS_put_42 : decode (fx_cc mq_FS_put) 42 = .ok (.getfield 113, 3) := by decide +kernel
theorem dq_FS_put_45 : decode (fx_cc mq_FS_put) 45 = .ok (.iconst 1, 1) := by decide +kernel
theorem dq_FS_put_46 : decode (fx_cc mq_FS_put) 46 = .ok (.isub, 1) := by decide +kernel
theorem dq_FS_put_47 : decode (fx_cc mq_FS_put) 47 = .ok (.invokestatic 48, 3) := by decide +kernel
theorem dq_FS_put_50 : decode (fx_cc mq_FS_put) 50 = .ok (.ifCond .eq 18, 3) := by decide +kernel
theorem dq_FS_put_53 : decode (fx_cc mq_FS_put) 53 = .ok (.iload_n 3, 1) := by decide +kernel
theorem dq_FS_put_54 : decode (fx_cc mq_FS_put) 54 = .ok (.iconst 0, 1) := by decide +kernel
theorem dq_FS_put_55 : decode (fx_cc mq_FS_put) 55 = .ok (.aload 5, 2) := by decide +kernel
theorem dq_FS_put_57 : decode (fx_cc mq_FS_put) 57 = .ok (.getfield 116, 3) := by decide +kernel
theorem dq_FS_put_60 : decode (fx_cc mq_FS_put) 60 = .ok (.iconst 1, 1) := by decide +kernel
theorem dq_FS_put_61 : decode (fx_cc mq_FS_put) 61 = .ok (.isub, 1) := by decide +kernel
theorem dq_FS_put_62 : decode (fx_cc mq_FS_put) 62 = .ok (.invokestatic 48, 3) := by decide +kernel
theorem dq_FS_put_65 : decode (fx_cc mq_FS_put) 65 = .ok (.ifCond .ne 11, 3) := by decide +kernel
theorem dq_FS_put_68 : decode (fx_cc mq_FS_put) 68 = .ok (.new 126, 3) := by decide +kernel
theorem dq_FS_put_71 : decode (fx_cc mq_FS_put) 71 = .ok (.dup, 1) := by decide +kernel
theorem dq_FS_put_72 : decode (fx_cc mq_FS_put) 72 = .ok (.invokespecial 128, 3) := by decide +kernel
theorem dq_FS_put_75 : decode (fx_cc mq_FS_put) 75 = .ok (.athrow, 1) := by decide +kernel
theorem dq_FS_put_76 : decode (fx_cc mq_FS_put) 76 = .ok (.aload 5, 2) := by decide +kernel
theorem dq_FS_put_78 : decode (fx_cc mq_FS_put) 78 = .ok (.getfield 129, 3) := by decide +kernel
theorem dq_FS_put_81 : decode (fx_cc mq_FS_put) 81 = .ok (.iload_n 3, 1) := by decide +kernel
theorem dq_FS_put_82 : decode (fx_cc mq_FS_put) 82 = .ok (.aload 5, 2) := by decide +kernel
theorem dq_FS_put_84 : decode (fx_cc mq_FS_put) 84 = .ok (.getfield 113, 3) := by decide +kernel
theorem dq_FS_put_87 : decode (fx_cc mq_FS_put) 87 = .ok (.imul, 1) := by decide +kernel
theorem dq_FS_put_88 : decode (fx_cc mq_FS_put) 88 = .ok (.iload_n 2, 1) := by decide +kernel
theorem dq_FS_put_89 : decode (fx_cc mq_FS_put) 89 = .ok (.iadd, 1) := by decide +kernel
theorem dq_FS_put_90 : decode (fx_cc mq_FS_put) 90 = .ok (.iload 4, 2) := by decide +kernel
theorem dq_FS_put_92 : decode (fx_cc mq_FS_put) 92 = .ok (.iastore, 1) := by decide +kernel
theorem dq_FS_put_93 : decode (fx_cc mq_FS_put) 93 = .ok (.return_, 1) := by decide +kernel
theorem dq_FS_isColor_0 : decode (fx_cc mq_FS_isColor) 0 = .ok (.iload_n 0, 1) := by decide +kernel
theorem dq_FS_isColor_1 : decode (fx_cc mq_FS_isColor) 1 = .ok (.iconst 0, 1) := by decide +kernel
theorem dq_FS_isColor_2 : decode (fx_cc mq_FS_isColor) 2 = .ok (.ldc_w 257, 3) := by decide +kernel
theorem dq_FS_isColor_5 : decode (fx_cc mq_FS_isColor) 5 = .ok (.invokestatic 48, 3) := by decide +kernel
theorem dq_FS_isColor_8 : decode (fx_cc mq_FS_isColor) 8 = .ok (.ireturn, 1) := by decide +kernel
theorem dq_LA_fill_0 : decode (fx_cc mq_LA_fill) 0 = .ok (.aload 7, 2) := by decide +kernel
theorem dq_LA_fill_2 : decode (fx_cc mq_LA_fill) 2 = .ok (.iconst 0, 1) := by decide +kernel
theorem dq_LA_fill_3 : decode (fx_cc mq_LA_fill) 3 = .ok (.aload_n 0, 1) := by decide +kernel
theorem dq_LA_fill_4 : decode (fx_cc mq_LA_fill) 4 = .ok (.iload_n 1, 1) := by decide +kernel
theorem dq_LA_fill_5 : decode (fx_cc mq_LA_fill) 5 = .ok (.iload_n 2, 1) := by decide +kernel
theorem dq_LA_fill_6 : decode (fx_cc mq_LA_fill) 6 = .ok (.iload_n 3, 1) := by decide +kernel
theorem dq_LA_fill_7 : decode (fx_cc mq_LA_fill) 7 = .ok (.iload 4, 2) := by decide +kernel
theorem dq_LA_fill_9 : decode (fx_cc mq_LA_fill) 9 = .ok (.iload 5, 2) := by decide +kernel
theorem dq_LA_fill_11 : decode (fx_cc mq_LA_fill) 11 = .ok (.iload 6, 2) := by decide +kernel
theorem dq_LA_fill_13 : decode (fx_cc mq_LA_fill) 13 = .ok (.invokevirtual 35, 3) := by decide +kernel
theorem dq_LA_fill_16 : decode (fx_cc mq_LA_fill) 16 = .ok (.i2l, 1) := by decide +kernel
theorem dq_LA_fill_17 : decode (fx_cc mq_LA_fill) 17 = .ok (.lastore, 1) := by decide +kernel
theorem dq_LA_fill_18 : decode (fx_cc mq_LA_fill) 18 = .ok (.goto 7, 3) := by decide +kernel
theorem dq_LA_fill_21 : decode (fx_cc mq_LA_fill) 21 = .ok (.astore 8, 2) := by decide +kernel
theorem dq_LA_fill_23 : decode (fx_cc mq_LA_fill) 23 = .ok (.iconst 1, 1) := by decide +kernel
theorem dq_LA_fill_24 : decode (fx_cc mq_LA_fill) 24 = .ok (.ireturn, 1) := by decide +kernel
theorem dq_LA_fill_25 : decode (fx_cc mq_LA_fill) 25 = .ok (.iconst 0, 1) := by decide +kernel
theorem dq_LA_fill_26 : decode (fx_cc mq_LA_fill) 26 = .ok (.ireturn, 1) := by decide +kernel
theorem dq_FS_fill_0 : decode (fx_cc mq_FS_fill) 0 = .ok (.aload_n 0, 1) := by decide +kernel
theorem dq_FS_fill_1 : decode (fx_cc mq_FS_fill) 1 = .ok (.getfield 10, 3) := by decide +kernel
theorem dq_FS_fill_4 : decode (fx_cc mq_FS_fill) 4 = .ok (.iload_n 1, 1) := by decide +kernel
theorem dq_FS_fill_5 : decode (fx_cc mq_FS_fill) 5 = .ok (.invokevirtual 71, 3) := by decide +kernel
theorem dq_FS_fill_8 : decode (fx_cc mq_FS_fill) 8 = .ok (.ifCond .eq 27, 3) := by decide +kernel
theorem dq_FS_fill_11 : decode (fx_cc mq_FS_fill) 11 = .ok (.iload 6, 2) := by decide +kernel
theorem dq_FS_fill_13 : decode (fx_cc mq_FS_fill) 13 = .ok (.invokestatic 123, 3) := by decide +kernel
theorem dq_FS_fill_16 : decode (fx_cc mq_FS_fill) 16 = .ok (.ifCond .eq 19, 3) := by decide +kernel
theorem dq_FS_fill_19 : decode (fx_cc mq_FS_fill) 19 = .ok (.iload_n 2, 1) := by decide +kernel
theorem dq_FS_fill_20 : decode (fx_cc mq_FS_fill) 20 = .ok (.iload_n 3, 1) := by decide +kernel
theorem dq_FS_fill_21 : decode (fx_cc mq_FS_fill) 21 = .ok (.iload 4, 2) := by decide +kernel
theorem dq_FS_fill_23 : decode (fx_cc mq_FS_fill) 23 = .ok (.iload 5, 2) := by decide +kernel
theorem dq_FS_fill_25 : decode (fx_cc mq_FS_fill) 25 = .ok (.invokestatic 103, 3) := by decide +kernel
theorem dq_FS_fill_28 : decode (fx_cc mq_FS_fill) 28 = .ok (.ifCond .eq 7, 3) := by decide +kernel
theorem dq_FS_fill_31 : decode (fx_cc mq_FS_fill) 31 = .ok (.iconst 1, 1) := by decide +kernel
theorem dq_FS_fill_32 : decode (fx_cc mq_FS_fill) 32 = .ok (.goto 4, 3) := by decide +kernel
theorem dq_FS_fill_35 : decode (fx_cc mq_FS_fill) 35 = .ok (.iconst 0, 1) := by decide +kernel
theorem dq_FS_fill_36 : decode (fx_cc mq_FS_fill) 36 = .ok (.invokestatic 52, 3) := by decide +kernel
theorem dq_FS_fill_39 : decode (fx_cc mq_FS_fill) 39 = .ok (.aload_n 0, 1) := by decide +kernel
theorem dq_FS_fill_40 : decode (fx_cc mq_FS_fill) 40 = .ok (.getfield 10, 3) := by decide +kernel
theorem dq_FS_fill_43 : decode (fx_cc mq_FS_fill) 43 = .ok (.getfield 74, 3) := by decide +kernel
theorem dq_FS_fill_46 : decode (fx_cc mq_FS_fill) 46 = .ok (.iload_n 1, 1) := by decide +kernel
theorem dq_FS_fill_47 : decode (fx_cc mq_FS_fill) 47 = .ok (.aaload, 1) := by decide +kernel
theorem dq_FS_fill_48 : decode (fx_cc mq_FS_fill) 48 = .ok (.astore 7, 2) := by decide +kernel
theorem dq_FS_fill_50 : decode (fx_cc mq_FS_fill) 50 = .ok (.aload_n 0, 1) := by decide +kernel
theorem dq_FS_fill_51 : decode (fx_cc mq_FS_fill) 51 = .ok (.getfield 33, 3) := by decide +kernel
theorem dq_FS_fill_54 : decode (fx_cc mq_FS_fill) 54 = .ok (.iload_n 2, 1) := by decide +kernel
theorem dq_FS_fill_55 : decode (fx_cc mq_FS_fill) 55 = .ok (.iload_n 3, 1) := by decide +kernel
theorem dq_FS_fill_56 : decode (fx_cc mq_FS_fill) 56 = .ok (.iload 4, 2) := by decide +kernel
theorem dq_FS_fill_58 : decode (fx_cc mq_FS_fill) 58 = .ok (.iload 5, 2) := by decide +kernel
theorem dq_FS_fill_60 : decode (fx_cc mq_FS_fill) 60 = .ok (.invokevirtual 110, 3) := by decide +kernel
theorem dq_FS_fill_63 : decode (fx_cc mq_FS_fill) 63 = .ok (.aload_n 0, 1) := by decide +kernel
theorem dq_FS_fill_64 : decode (fx_cc mq_FS_fill) 64 = .ok (.getfield 33, 3) := by decide +kernel
theorem dq_FS_fill_67 : decode (fx_cc mq_FS_fill) 67 = .ok (.aload 7, 2) := by decide +kernel
theorem dq_FS_fill_69 : decode (fx_cc mq_FS_fill) 69 = .ok (.getfield 113, 3) := by decide +kernel
theorem dq_FS_fill_72 : decode (fx_cc mq_FS_fill) 72 = .ok (.aload 7, 2) := by decide +kernel
theorem dq_FS_fill_74 : decode (fx_cc mq_FS_fill) 74 = .ok (.getfield 116, 3) := by decide +kernel
theorem dq_FS_fill_77 : decode (fx_cc mq_FS_fill) 77 = .ok (.invokevirtual 119, 3) := by decide +kernel
theorem dq_FS_fill_80 : decode (fx_cc mq_FS_fill) 80 = .ok (.aload 7, 2) := by decide +kernel
theorem dq_FS_fill_82 : decode (fx_cc mq_FS_fill) 82 = .ok (.aload_n 0, 1) := by decide +kernel
theorem dq_FS_fill_83 : decode (fx_cc mq_FS_fill) 83 = .ok (.getfield 33, 3) := by decide +kernel
theorem dq_FS_fill_86 : decode (fx_cc mq_FS_fill) 86 = .ok (.iload 6, 2) := by decide +kernel
theorem dq_FS_fill_88 : decode (fx_cc mq_FS_fill) 88 = .ok (.invokevirtual 133, 3) := by decide +kernel
theorem dq_FS_fill_91 : decode (fx_cc mq_FS_fill) 91 = .ok (.aload_n 0, 1) := by decide +kernel
theorem dq_FS_fill_92 : decode (fx_cc mq_FS_fill) 92 = .ok (.getfield 33, 3) := by decide +kernel
theorem dq_FS_fill_95 : decode (fx_cc mq_FS_fill) 95 = .ok (.invokevirtual 137, 3) := by decide +kernel
theorem dq_FS_fill_98 : decode (fx_cc mq_FS_fill) 98 = .ok (.ireturn, 1) := by decide +kernel
theorem dq_PI_paintOver_0 : decode (fx_cc mq_PI_paintOver) 0 = .ok (.aload_n 1, 1) := by decide +kernel
theorem dq_PI_paintOver_1 : decode (fx_cc mq_PI_paintOver) 1 = .ok (.getfield 81, 3) := by decide +kernel
theorem dq_PI_paintOver_4 : decode (fx_cc mq_PI_paintOver) 4 = .ok (.istore_n 3, 1) := by decide +kernel
theorem dq_PI_paintOver_5 : decode (fx_cc mq_PI_paintOver) 5 = .ok (.iload_n 3, 1) := by decide +kernel
theorem dq_PI_paintOver_6 : decode (fx_cc mq_PI_paintOver) 6 = .ok (.aload_n 1, 1) := by decide +kernel
theorem dq_PI_paintOver_7 : decode (fx_cc mq_PI_paintOver) 7 = .ok (.getfield 81, 3) := by decide +kernel
theorem dq_PI_paintOver_10 : decode (fx_cc mq_PI_paintOver) 10 = .ok (.aload_n 1, 1) := by decide +kernel
theorem dq_PI_paintOver_11 : decode (fx_cc mq_PI_paintOver) 11 = .ok (.getfield 82, 3) := by decide +kernel
theorem dq_PI_paintOver_14 : decode (fx_cc mq_PI_paintOver) 14 = .ok (.iadd, 1) := by decide +kernel
theorem dq_PI_paintOver_15 : decode (fx_cc mq_PI_paintOver) 15 = .ok (.if_icmp .ge 50, 3) := by decide +kernel
theorem dq_PI_paintOver_18 : decode (fx_cc mq_PI_paintOver) 18 = .ok (.aload_n 1, 1) := by decide +kernel
theorem dq_PI_paintOver_19 : decode (fx_cc mq_PI_paintOver) 19 = .ok (.getfield 83, 3) := by decide +kernel
theorem dq_PI_paintOver_22 : decode (fx_cc mq_PI_paintOver) 22 = .ok (.istore 4, 2) := by decide +kernel
theorem dq_PI_paintOver_24 : decode (fx_cc mq_PI_paintOver) 24 = .ok (.iload 4, 2) := by decide +kernel
theorem dq_PI_paintOver_26 : decode (fx_cc mq_PI_paintOver) 26 = .ok (.aload_n 1, 1) := by decide +kernel
theorem dq_PI_paintOver_27 : decode (fx_cc mq_PI_paintOver) 27 = .ok (.getfield 83, 3) := by decide +kernel
theorem dq_PI_paintOver_30 : decode (fx_cc mq_PI_paintOver) 30 = .ok (.aload_n 1, 1) := by decide +kernel
theorem dq_PI_paintOver_31 : decode (fx_cc mq_PI_paintOver) 31 = .ok (.getfield 84, 3) := by decide +kernel
theorem dq_PI_paintOver_34 : decode (fx_cc mq_PI_paintOver) 34 = .ok (.iadd, 1) := by decide +kernel
theorem dq_PI_paintOver_35 : decode (fx_cc mq_PI_paintOver) 35 = .ok (.if_icmp .ge 24, 3) := by decide +kernel
theorem dq_PI_paintOver_38 : decode (fx_cc mq_PI_paintOver) 38 = .ok (.aload_n 0, 1) := by decide +kernel
theorem dq_PI_paintOver_39 : decode (fx_cc mq_PI_paintOver) 39 = .ok (.getfield 9, 3) := by decide +kernel
theorem dq_PI_paintOver_42 : decode (fx_cc mq_PI_paintOver) 42 = .ok (.iload_n 3, 1) := by decide +kernel
theorem dq_PI_paintOver_43 : decode (fx_cc mq_PI_paintOver) 43 = .ok (.aload_n 0, 1) := by decide +kernel
theorem dq_PI_paintOver_44 : decode (fx_cc mq_PI_paintOver) 44 = .ok (.getfield 29, 3) := by decide +kernel
theorem dq_PI_paintOver_47 : decode (fx_cc mq_PI_paintOver) 47 = .ok (.imul, 1) := by decide +kernel
theorem dq_PI_paintOver_48 : decode (fx_cc mq_PI_paintOver) 48 = .ok (.iload 4, 2) := by decide +kernel
theorem dq_PI_paintOver_50 : decode (fx_cc mq_PI_paintOver) 50 = .ok (.iadd, 1) := by decide +kernel
theorem dq_PI_paintOver_51 : decode (fx_cc mq_PI_paintOver) 51 = .ok (.iload_n 2, 1) := by decide +kernel
theorem dq_PI_paintOver_52 : decode (fx_cc mq_PI_paintOver) 52 = .ok (.iastore, 1) := by decide +kernel
theorem dq_PI_paintOver_53 : decode (fx_cc mq_PI_paintOver) 53 = .ok (.iinc 4 1, 3) := by decide +kernel
theorem dq_PI_paintOver_56 : decode (fx_cc mq_PI_paintOver) 56 = .ok (.goto (-32), 3) := by decide +kernel
theorem dq_PI_paintOver_59 : decode (fx_cc mq_PI_paintOver) 59 = .ok (.iinc 3 1, 3) := by decide +kernel
theorem dq_PI_paintOver_62 : decode (fx_cc mq_PI_paintOver) 62 = .ok (.goto (-57), 3) := by decide +kernel
theorem dq_PI_paintOver_65 : decode (fx_cc mq_PI_paintOver) 65 = .ok (.return_, 1) := by decide +kernel
theorem dq_RE_pixels_0 : decode (fx_cc mq_RE_pixels) 0 = .ok (.aload_n 0, 1) := by decide +kernel
theorem dq_RE_pixels_1 : decode (fx_cc mq_RE_pixels) 1 = .ok (.getfield 16, 3) := by decide +kernel
theorem dq_RE_pixels_4 : decode (fx_cc mq_RE_pixels) 4 = .ok (.aload_n 0, 1) := by decide +kernel
theorem dq_RE_pixels_5 : decode (fx_cc mq_RE_pixels) 5 = .ok (.getfield 19, 3) := by decide +kernel
theorem dq_RE_pixels_8 : decode (fx_cc mq_RE_pixels) 8 = .ok (.imul, 1) := by decide +kernel
theorem dq_RE_pixels_9 : decode (fx_cc mq_RE_pixels) 9 = .ok (.ireturn, 1) := by decide +kernel
theorem dq_LA_copy_0 : decode (fx_cc mq_LA_copy) 0 = .ok (.aload 9, 2) := by decide +kernel
theorem dq_LA_copy_2 : decode (fx_cc mq_LA_copy) 2 = .ok (.iconst 0, 1) := by decide +kernel
theorem dq_LA_copy_3 : decode (fx_cc mq_LA_copy) 3 = .ok (.aload_n 0, 1) := by decide +kernel
theorem dq_LA_copy_4 : decode (fx_cc mq_LA_copy) 4 = .ok (.iload_n 1, 1) := by decide +kernel
theorem dq_LA_copy_5 : decode (fx_cc mq_LA_copy) 5 = .ok (.iload_n 2, 1) := by decide +kernel
theorem dq_LA_copy_6 : decode (fx_cc mq_LA_copy) 6 = .ok (.iload_n 3, 1) := by decide +kernel
theorem dq_LA_copy_7 : decode (fx_cc mq_LA_copy) 7 = .ok (.iload 4, 2) := by decide +kernel
theorem dq_LA_copy_9 : decode (fx_cc mq_LA_copy) 9 = .ok (.iload 5, 2) := by decide +kernel
theorem dq_LA_copy_11 : decode (fx_cc mq_LA_copy) 11 = .ok (.iload 6, 2) := by decide +kernel
theorem dq_LA_copy_13 : decode (fx_cc mq_LA_copy) 13 = .ok (.iload 7, 2) := by decide +kernel
theorem dq_LA_copy_15 : decode (fx_cc mq_LA_copy) 15 = .ok (.iload 8, 2) := by decide +kernel
theorem dq_LA_copy_17 : decode (fx_cc mq_LA_copy) 17 = .ok (.invokevirtual 39, 3) := by decide +kernel
theorem dq_LA_copy_20 : decode (fx_cc mq_LA_copy) 20 = .ok (.i2l, 1) := by decide +kernel
theorem dq_LA_copy_21 : decode (fx_cc mq_LA_copy) 21 = .ok (.lastore, 1) := by decide +kernel
theorem dq_LA_copy_22 : decode (fx_cc mq_LA_copy) 22 = .ok (.goto 7, 3) := by decide +kernel
theorem dq_LA_copy_25 : decode (fx_cc mq_LA_copy) 25 = .ok (.astore 10, 2) := by decide +kernel
theorem dq_LA_copy_27 : decode (fx_cc mq_LA_copy) 27 = .ok (.iconst 1, 1) := by decide +kernel
theorem dq_LA_copy_28 : decode (fx_cc mq_LA_copy) 28 = .ok (.ireturn, 1) := by decide +kernel
theorem dq_LA_copy_29 : decode (fx_cc mq_LA_copy) 29 = .ok (.iconst 0, 1) := by decide +kernel
theorem dq_LA_copy_30 : decode (fx_cc mq_LA_copy) 30 = .ok (.ireturn, 1) := by decide +kernel
theorem dq_FS_copy_0 : decode (fx_cc mq_FS_copy) 0 = .ok (.aload_n 0, 1) := by decide +kernel
theorem dq_FS_copy_1 : decode (fx_cc mq_FS_copy) 1 = .ok (.getfield 10, 3) := by decide +kernel
theorem dq_FS_copy_4 : decode (fx_cc mq_FS_copy) 4 = .ok (.iload_n 1, 1) := by decide +kernel
theorem dq_FS_copy_5 : decode (fx_cc mq_FS_copy) 5 = .ok (.invokevirtual 71, 3) := by decide +kernel
theorem dq_FS_copy_8 : decode (fx_cc mq_FS_copy) 8 = .ok (.ifCond .eq 18, 3) := by decide +kernel
theorem dq_FS_copy_11 : decode (fx_cc mq_FS_copy) 11 = .ok (.aload_n 0, 1) := by decide +kernel
theorem dq_FS_copy_12 : decode (fx_cc mq_FS_copy) 12 = .ok (.getfield 10, 3) := by decide +kernel
theorem dq_FS_copy_15 : decode (fx_cc mq_FS_copy) 15 = .ok (.iload_n 2, 1) := by decide +kernel
theorem dq_FS_copy_16 : decode (fx_cc mq_FS_copy) 16 = .ok (.invokevirtual 71, 3) := by decide +kernel
theorem dq_FS_copy_19 : decode (fx_cc mq_FS_copy) 19 = .ok (.ifCond .eq 7, 3) := by decide +kernel
theorem dq_FS_copy_22 : decode (fx_cc mq_FS_copy) 22 = .ok (.iconst 1, 1) := by decide +kernel
theorem dq_FS_copy_23 : decode (fx_cc mq_FS_copy) 23 = .ok (.goto 4, 3) := by decide +kernel
theorem dq_FS_copy_26 : decode (fx_cc mq_FS_copy) 26 = .ok (.iconst 0, 1) := by decide +kernel
theorem dq_FS_copy_27 : decode (fx_cc mq_FS_copy) 27 = .ok (.invokestatic 52, 3) := by decide +kernel
theorem dq_FS_copy_30 : decode (fx_cc mq_FS_copy) 30 = .ok (.aload_n 0, 1) := by decide +kernel
theorem dq_FS_copy_31 : decode (fx_cc mq_FS_copy) 31 = .ok (.getfield 10, 3) := by decide +kernel
theorem dq_FS_copy_34 : decode (fx_cc mq_FS_copy) 34 = .ok (.getfield 139, 3) := by decide +kernel
theorem dq_FS_copy_37 : decode (fx_cc mq_FS_copy) 37 = .ok (.iload_n 1, 1) := by decide +kernel
theorem dq_FS_copy_38 : decode (fx_cc mq_FS_copy) 38 = .ok (.iaload, 1) := by decide +kernel
theorem dq_FS_copy_39 : decode (fx_cc mq_FS_copy) 39 = .ok (.aload_n 0, 1) := by decide +kernel
theorem dq_FS_copy_40 : decode (fx_cc mq_FS_copy) 40 = .ok (.getfield 10, 3) := by decide +kernel
theorem dq_FS_copy_43 : decode (fx_cc mq_FS_copy) 43 = .ok (.getfield 139, 3) := by decide +kernel
theorem dq_FS_copy_46 : decode (fx_cc mq_FS_copy) 46 = .ok (.iload_n 2, 1) := by decide +kernel
theorem dq_FS_copy_47 : decode (fx_cc mq_FS_copy) 47 = .ok (.iaload, 1) := by decide +kernel
theorem dq_FS_copy_48 : decode (fx_cc mq_FS_copy) 48 = .ok (.if_icmp .ne 7, 3) := by decide +kernel
theorem dq_FS_copy_51 : decode (fx_cc mq_FS_copy) 51 = .ok (.iconst 1, 1) := by decide +kernel
theorem dq_FS_copy_52 : decode (fx_cc mq_FS_copy) 52 = .ok (.goto 4, 3) := by decide +kernel
theorem dq_FS_copy_55 : decode (fx_cc mq_FS_copy) 55 = .ok (.iconst 0, 1) := by decide +kernel
theorem dq_FS_copy_56 : decode (fx_cc mq_FS_copy) 56 = .ok (.invokestatic 52, 3) := by decide +kernel
theorem dq_FS_copy_59 : decode (fx_cc mq_FS_copy) 59 = .ok (.iload_n 3, 1) := by decide +kernel
theorem dq_FS_copy_60 : decode (fx_cc mq_FS_copy) 60 = .ok (.iload 4, 2) := by decide +kernel
theorem dq_FS_copy_62 : decode (fx_cc mq_FS_copy) 62 = .ok (.iload 5, 2) := by decide +kernel
theorem dq_FS_copy_64 : decode (fx_cc mq_FS_copy) 64 = .ok (.iload 6, 2) := by decide +kernel
theorem dq_FS_copy_66 : decode (fx_cc mq_FS_copy) 66 = .ok (.invokestatic 103, 3) := by decide +kernel
theorem dq_FS_copy_69 : decode (fx_cc mq_FS_copy) 69 = .ok (.ifCond .eq 23, 3) := by decide +kernel
theorem dq_FS_copy_72 : decode (fx_cc mq_FS_copy) 72 = .ok (.iload 7, 2) := by decide +kernel
theorem dq_FS_copy_74 : decode (fx_cc mq_FS_copy) 74 = .ok (.invokestatic 81, 3) := by decide +kernel
theorem dq_FS_copy_77 : decode (fx_cc mq_FS_copy) 77 = .ok (.ifCond .eq 15, 3) := by decide +kernel
theorem dq_FS_copy_80 : decode (fx_cc mq_FS_copy) 80 = .ok (.iload 8, 2) := by decide +kernel
theorem dq_FS_copy_82 : decode (fx_cc mq_FS_copy) 82 = .ok (.invokestatic 81, 3) := by decide +kernel
theorem dq_FS_copy_85 : decode (fx_cc mq_FS_copy) 85 = .ok (.ifCond .eq 7, 3) := by decide +kernel
theorem dq_FS_copy_88 : decode (fx_cc mq_FS_copy) 88 = .ok (.iconst 1, 1) := by decide +kernel
theorem dq_FS_copy_89 : decode (fx_cc mq_FS_copy) 89 = .ok (.goto 4, 3) := by decide +kernel
theorem dq_FS_copy_92 : decode (fx_cc mq_FS_copy) 92 = .ok (.iconst 0, 1) := by decide +kernel
theorem dq_FS_copy_93 : decode (fx_cc mq_FS_copy) 93 = .ok (.invokestatic 52, 3) := by decide +kernel
theorem dq_FS_copy_96 : decode (fx_cc mq_FS_copy) 96 = .ok (.aload_n 0, 1) := by decide +kernel
theorem dq_FS_copy_97 : decode (fx_cc mq_FS_copy) 97 = .ok (.getfield 10, 3) := by decide +kernel
theorem dq_FS_copy_100 : decode (fx_cc mq_FS_copy) 100 = .ok (.getfield 74, 3) := by decide +kernel
theorem dq_FS_copy_103 : decode (fx_cc mq_FS_copy) 103 = .ok (.iload_n 1, 1) := by decide +kernel
theorem dq_FS_copy_104 : decode (fx_cc mq_FS_copy) 104 = .ok (.aaload, 1) := by decide +kernel
theorem dq_FS_copy_105 : decode (fx_cc mq_FS_copy) 105 = .ok (.astore 9, 2) := by decide +kernel
theorem dq_FS_copy_107 : decode (fx_cc mq_FS_copy) 107 = .ok (.aload_n 0, 1) := by decide +kernel
theorem dq_FS_copy_108 : decode (fx_cc mq_FS_copy) 108 = .ok (.getfield 10, 3) := by decide +kernel
theorem dq_FS_copy_111 : decode (fx_cc mq_FS_copy) 111 = .ok (.getfield 74, 3) := by decide +kernel
theorem dq_FS_copy_114 : decode (fx_cc mq_FS_copy) 114 = .ok (.iload_n 2, 1) := by decide +kernel
theorem dq_FS_copy_115 : decode (fx_cc mq_FS_copy) 115 = .ok (.aaload, 1) := by decide +kernel
theorem dq_FS_copy_116 : decode (fx_cc mq_FS_copy) 116 = .ok (.astore 10, 2) := by decide +kernel
theorem dq_FS_copy_118 : decode (fx_cc mq_FS_copy) 118 = .ok (.aload_n 0, 1) := by decide +kernel
theorem dq_FS_copy_119 : decode (fx_cc mq_FS_copy) 119 = .ok (.getfield 33, 3) := by decide +kernel
theorem dq_FS_copy_122 : decode (fx_cc mq_FS_copy) 122 = .ok (.iload_n 3, 1) := by decide +kernel
theorem dq_FS_copy_123 : decode (fx_cc mq_FS_copy) 123 = .ok (.iload 4, 2) := by decide +kernel
theorem dq_FS_copy_125 : decode (fx_cc mq_FS_copy) 125 = .ok (.iload 5, 2) := by decide +kernel
theorem dq_FS_copy_127 : decode (fx_cc mq_FS_copy) 127 = .ok (.iload 6, 2) := by decide +kernel
theorem dq_FS_copy_129 : decode (fx_cc mq_FS_copy) 129 = .ok (.invokevirtual 110, 3) := by decide +kernel
theorem dq_FS_copy_132 : decode (fx_cc mq_FS_copy) 132 = .ok (.aload_n 0, 1) := by decide +kernel
theorem dq_FS_copy_133 : decode (fx_cc mq_FS_copy) 133 = .ok (.getfield 33, 3) := by decide +kernel
theorem dq_FS_copy_136 : decode (fx_cc mq_FS_copy) 136 = .ok (.aload 9, 2) := by decide +kernel
theorem dq_FS_copy_138 : decode (fx_cc mq_FS_copy) 138 = .ok (.getfield 113, 3) := by decide +kernel
theorem dq_FS_copy_141 : decode (fx_cc mq_FS_copy) 141 = .ok (.aload 9, 2) := by decide +kernel
theorem dq_FS_copy_143 : decode (fx_cc mq_FS_copy) 143 = .ok (.getfield 116, 3) := by decide +kernel
theorem dq_FS_copy_146 : decode (fx_cc mq_FS_copy) 146 = .ok (.invokevirtual 119, 3) := by decide +kernel
theorem dq_FS_copy_149 : decode (fx_cc mq_FS_copy) 149 = .ok (.aload_n 0, 1) := by decide +kernel
theorem dq_FS_copy_150 : decode (fx_cc mq_FS_copy) 150 = .ok (.getfield 33, 3) := by decide +kernel
theorem dq_FS_copy_153 : decode (fx_cc mq_FS_copy) 153 = .ok (.iload 7, 2) := by decide +kernel
theorem dq_FS_copy_155 : decode (fx_cc mq_FS_copy) 155 = .ok (.iload_n 3, 1) := by decide +kernel
theorem dq_FS_copy_156 : decode (fx_cc mq_FS_copy) 156 = .ok (.isub, 1) := by decide +kernel
theorem dq_FS_copy_157 : decode (fx_cc mq_FS_copy) 157 = .ok (.iload 8, 2) := by decide +kernel
theorem dq_FS_copy_159 : decode (fx_cc mq_FS_copy) 159 = .ok (.iload 4, 2) := by decide +kernel
theorem dq_FS_copy_161 : decode (fx_cc mq_FS_copy) 161 = .ok (.isub, 1) := by decide +kernel
theorem dq_FS_copy_162 : decode (fx_cc mq_FS_copy) 162 = .ok (.invokevirtual 142, 3) := by decide +kernel
theorem dq_FS_copy_165 : decode (fx_cc mq_FS_copy) 165 = .ok (.aload_n 0, 1) := by decide +kernel
theorem dq_FS_copy_166 : decode (fx_cc mq_FS_copy) 166 = .ok (.getfield 33, 3) := by decide +kernel
theorem dq_FS_copy_169 : decode (fx_cc mq_FS_copy) 169 = .ok (.aload 10, 2) := by decide +kernel
theorem dq_FS_copy_171 : decode (fx_cc mq_FS_copy) 171 = .ok (.getfield 113, 3) := by decide +kernel
theorem dq_FS_copy_174 : decode (fx_cc mq_FS_copy) 174 = .ok (.aload 10, 2) := by decide +kernel
theorem dq_FS_copy_176 : decode (fx_cc mq_FS_copy) 176 = .ok (.getfield 116, 3) := by decide +kernel
theorem dq_FS_copy_179 : decode (fx_cc mq_FS_copy) 179 = .ok (.invokevirtual 119, 3) := by decide +kernel
theorem dq_FS_copy_182 : decode (fx_cc mq_FS_copy) 182 = .ok (.aload_n 0, 1) := by decide +kernel
theorem dq_FS_copy_183 : decode (fx_cc mq_FS_copy) 183 = .ok (.getfield 40, 3) := by decide +kernel
theorem dq_FS_copy_186 : decode (fx_cc mq_FS_copy) 186 = .ok (.aload 9, 2) := by decide +kernel
theorem dq_FS_copy_188 : decode (fx_cc mq_FS_copy) 188 = .ok (.invokevirtual 145, 3) := by decide +kernel
theorem dq_FS_copy_191 : decode (fx_cc mq_FS_copy) 191 = .ok (.aload_n 0, 1) := by decide +kernel
theorem dq_FS_copy_192 : decode (fx_cc mq_FS_copy) 192 = .ok (.getfield 40, 3) := by decide +kernel
theorem dq_FS_copy_195 : decode (fx_cc mq_FS_copy) 195 = .ok (.iload 7, 2) := by decide +kernel
theorem dq_FS_copy_197 : decode (fx_cc mq_FS_copy) 197 = .ok (.iload_n 3, 1) := by decide +kernel
theorem dq_FS_copy_198 : decode (fx_cc mq_FS_copy) 198 = .ok (.isub, 1) := by decide +kernel
theorem dq_FS_copy_199 : decode (fx_cc mq_FS_copy) 199 = .ok (.putfield 84, 3) := by decide +kernel
theorem dq_FS_copy_202 : decode (fx_cc mq_FS_copy) 202 = .ok (.aload_n 0, 1) := by decide +kernel
theorem dq_FS_copy_203 : decode (fx_cc mq_FS_copy) 203 = .ok (.getfield 40, 3) := by decide +kernel
theorem dq_FS_copy_206 : decode (fx_cc mq_FS_copy) 206 = .ok (.iload 8, 2) := by decide +kernel
theorem dq_FS_copy_208 : decode (fx_cc mq_FS_copy) 208 = .ok (.iload 4, 2) := by decide +kernel
theorem dq_FS_copy_210 : decode (fx_cc mq_FS_copy) 210 = .ok (.isub, 1) := by decide +kernel
theorem dq_FS_copy_211 : decode (fx_cc mq_FS_copy) 211 = .ok (.putfield 87, 3) := by decide +kernel
theorem dq_FS_copy_214 : decode (fx_cc mq_FS_copy) 214 = .ok (.aload 10, 2) := by decide +kernel
theorem dq_FS_copy_216 : decode (fx_cc mq_FS_copy) 216 = .ok (.aload_n 0, 1) := by decide +kernel
theorem dq_FS_copy_217 : decode (fx_cc mq_FS_copy) 217 = .ok (.getfield 33, 3) := by decide +kernel
theorem dq_FS_copy_220 : decode (fx_cc mq_FS_copy) 220 = .ok (.aload_n 0, 1) := by decide +kernel
theorem dq_FS_copy_221 : decode (fx_cc mq_FS_copy) 221 = .ok (.getfield 40, 3) := by decide +kernel
theorem dq_FS_copy_224 : decode (fx_cc mq_FS_copy) 224 = .ok (.invokevirtual 149, 3) := by decide +kernel
theorem dq_FS_copy_227 : decode (fx_cc mq_FS_copy) 227 = .ok (.aload_n 0, 1) := by decide +kernel
theorem dq_FS_copy_228 : decode (fx_cc mq_FS_copy) 228 = .ok (.getfield 33, 3) := by decide +kernel
theorem dq_FS_copy_231 : decode (fx_cc mq_FS_copy) 231 = .ok (.invokevirtual 137, 3) := by decide +kernel
theorem dq_FS_copy_234 : decode (fx_cc mq_FS_copy) 234 = .ok (.ireturn, 1) := by decide +kernel
theorem dq_PI_become_0 : decode (fx_cc mq_PI_become) 0 = .ok (.aload_n 0, 1) := by decide +kernel
theorem dq_PI_become_1 : decode (fx_cc mq_PI_become) 1 = .ok (.aload_n 1, 1) := by decide +kernel
theorem dq_PI_become_2 : decode (fx_cc mq_PI_become) 2 = .ok (.getfield 25, 3) := by decide +kernel
theorem dq_PI_become_5 : decode (fx_cc mq_PI_become) 5 = .ok (.putfield 25, 3) := by decide +kernel
theorem dq_PI_become_8 : decode (fx_cc mq_PI_become) 8 = .ok (.aload_n 0, 1) := by decide +kernel
theorem dq_PI_become_9 : decode (fx_cc mq_PI_become) 9 = .ok (.aload_n 1, 1) := by decide +kernel
theorem dq_PI_become_10 : decode (fx_cc mq_PI_become) 10 = .ok (.getfield 29, 3) := by decide +kernel
theorem dq_PI_become_13 : decode (fx_cc mq_PI_become) 13 = .ok (.putfield 29, 3) := by decide +kernel
theorem dq_PI_become_16 : decode (fx_cc mq_PI_become) 16 = .ok (.aload_n 0, 1) := by decide +kernel
theorem dq_PI_become_17 : decode (fx_cc mq_PI_become) 17 = .ok (.aload_n 1, 1) := by decide +kernel
theorem dq_PI_become_18 : decode (fx_cc mq_PI_become) 18 = .ok (.getfield 33, 3) := by decide +kernel
theorem dq_PI_become_21 : decode (fx_cc mq_PI_become) 21 = .ok (.putfield 33, 3) := by decide +kernel
theorem dq_PI_become_24 : decode (fx_cc mq_PI_become) 24 = .ok (.aload_n 0, 1) := by decide +kernel
theorem dq_PI_become_25 : decode (fx_cc mq_PI_become) 25 = .ok (.aload_n 1, 1) := by decide +kernel
theorem dq_PI_become_26 : decode (fx_cc mq_PI_become) 26 = .ok (.getfield 36, 3) := by decide +kernel
theorem dq_PI_become_29 : decode (fx_cc mq_PI_become) 29 = .ok (.putfield 36, 3) := by decide +kernel
theorem dq_PI_become_32 : decode (fx_cc mq_PI_become) 32 = .ok (.aload_n 0, 1) := by decide +kernel
theorem dq_PI_become_33 : decode (fx_cc mq_PI_become) 33 = .ok (.aload_n 1, 1) := by decide +kernel
theorem dq_PI_become_34 : decode (fx_cc mq_PI_become) 34 = .ok (.getfield 39, 3) := by decide +kernel
theorem dq_PI_become_37 : decode (fx_cc mq_PI_become) 37 = .ok (.putfield 39, 3) := by decide +kernel
theorem dq_PI_become_40 : decode (fx_cc mq_PI_become) 40 = .ok (.aload_n 0, 1) := by decide +kernel
theorem dq_PI_become_41 : decode (fx_cc mq_PI_become) 41 = .ok (.aload_n 1, 1) := by decide +kernel
theorem dq_PI_become_42 : decode (fx_cc mq_PI_become) 42 = .ok (.getfield 42, 3) := by decide +kernel
theorem dq_PI_become_45 : decode (fx_cc mq_PI_become) 45 = .ok (.putfield 42, 3) := by decide +kernel
theorem dq_PI_become_48 : decode (fx_cc mq_PI_become) 48 = .ok (.aload_n 0, 1) := by decide +kernel
theorem dq_PI_become_49 : decode (fx_cc mq_PI_become) 49 = .ok (.aload_n 1, 1) := by decide +kernel
theorem dq_PI_become_50 : decode (fx_cc mq_PI_become) 50 = .ok (.getfield 45, 3) := by decide +kernel
theorem dq_PI_become_53 : decode (fx_cc mq_PI_become) 53 = .ok (.putfield 45, 3) := by decide +kernel
theorem dq_PI_become_56 : decode (fx_cc mq_PI_become) 56 = .ok (.aload_n 0, 1) := by decide +kernel
theorem dq_PI_become_57 : decode (fx_cc mq_PI_become) 57 = .ok (.aload_n 1, 1) := by decide +kernel
theorem dq_PI_become_58 : decode (fx_cc mq_PI_become) 58 = .ok (.getfield 48, 3) := by decide +kernel
theorem dq_PI_become_61 : decode (fx_cc mq_PI_become) 61 = .ok (.putfield 48, 3) := by decide +kernel
theorem dq_PI_become_64 : decode (fx_cc mq_PI_become) 64 = .ok (.aload_n 1, 1) := by decide +kernel
theorem dq_PI_become_65 : decode (fx_cc mq_PI_become) 65 = .ok (.getfield 9, 3) := by decide +kernel
theorem dq_PI_become_68 : decode (fx_cc mq_PI_become) 68 = .ok (.iconst 0, 1) := by decide +kernel
theorem dq_PI_become_69 : decode (fx_cc mq_PI_become) 69 = .ok (.aload_n 0, 1) := by decide +kernel
theorem dq_PI_become_70 : decode (fx_cc mq_PI_become) 70 = .ok (.getfield 9, 3) := by decide +kernel
theorem dq_PI_become_73 : decode (fx_cc mq_PI_become) 73 = .ok (.iconst 0, 1) := by decide +kernel
theorem dq_PI_become_74 : decode (fx_cc mq_PI_become) 74 = .ok (.aload_n 0, 1) := by decide +kernel
theorem dq_PI_become_75 : decode (fx_cc mq_PI_become) 75 = .ok (.getfield 9, 3) := by decide +kernel
theorem dq_PI_become_78 : decode (fx_cc mq_PI_become) 78 = .ok (.arraylength, 1) := by decide +kernel
theorem dq_PI_become_79 : decode (fx_cc mq_PI_become) 79 = .ok (.invokestatic 64, 3) := by decide +kernel
theorem dq_PI_become_82 : decode (fx_cc mq_PI_become) 82 = .ok (.aload_n 0, 1) := by decide +kernel
theorem dq_PI_become_83 : decode (fx_cc mq_PI_become) 83 = .ok (.getfield 18, 3) := by decide +kernel
theorem dq_PI_become_86 : decode (fx_cc mq_PI_become) 86 = .ok (.aload_n 1, 1) := by decide +kernel
theorem dq_PI_become_87 : decode (fx_cc mq_PI_become) 87 = .ok (.getfield 18, 3) := by decide +kernel
theorem dq_PI_become_90 : decode (fx_cc mq_PI_become) 90 = .ok (.invokevirtual 70, 3) := by decide +kernel
theorem dq_PI_become_93 : decode (fx_cc mq_PI_become) 93 = .ok (.aload_n 0, 1) := by decide +kernel
theorem dq_PI_become_94 : decode (fx_cc mq_PI_become) 94 = .ok (.getfield 22, 3) := by decide +kernel
theorem dq_PI_become_97 : decode (fx_cc mq_PI_become) 97 = .ok (.aload_n 1, 1) := by decide +kernel
theorem dq_PI_become_98 : decode (fx_cc mq_PI_become) 98 = .ok (.getfield 22, 3) := by decide +kernel
theorem dq_PI_become_101 : decode (fx_cc mq_PI_become) 101 = .ok (.invokevirtual 70, 3) := by decide +kernel
theorem dq_PI_become_104 : decode (fx_cc mq_PI_become) 104 = .ok (.return_, 1) := by decide +kernel
theorem dq_PI_layDown_0 : decode (fx_cc mq_PI_layDown) 0 = .ok (.aload_n 1, 1) := by decide +kernel
theorem dq_PI_layDown_1 : decode (fx_cc mq_PI_layDown) 1 = .ok (.getfield 81, 3) := by decide +kernel
theorem dq_PI_layDown_4 : decode (fx_cc mq_PI_layDown) 4 = .ok (.istore_n 3, 1) := by decide +kernel
theorem dq_PI_layDown_5 : decode (fx_cc mq_PI_layDown) 5 = .ok (.iload_n 3, 1) := by decide +kernel
theorem dq_PI_layDown_6 : decode (fx_cc mq_PI_layDown) 6 = .ok (.aload_n 1, 1) := by decide +kernel
theorem dq_PI_layDown_7 : decode (fx_cc mq_PI_layDown) 7 = .ok (.getfield 81, 3) := by decide +kernel
theorem dq_PI_layDown_10 : decode (fx_cc mq_PI_layDown) 10 = .ok (.aload_n 1, 1) := by decide +kernel
theorem dq_PI_layDown_11 : decode (fx_cc mq_PI_layDown) 11 = .ok (.getfield 82, 3) := by decide +kernel
theorem dq_PI_layDown_14 : decode (fx_cc mq_PI_layDown) 14 = .ok (.iadd, 1) := by decide +kernel
theorem dq_PI_layDown_15 : decode (fx_cc mq_PI_layDown) 15 = .ok (.if_icmp .ge 56, 3) := by decide +kernel
theorem dq_PI_layDown_18 : decode (fx_cc mq_PI_layDown) 18 = .ok (.aload_n 1, 1) := by decide +kernel
theorem dq_PI_layDown_19 : decode (fx_cc mq_PI_layDown) 19 = .ok (.getfield 83, 3) := by decide +kernel
theorem dq_PI_layDown_22 : decode (fx_cc mq_PI_layDown) 22 = .ok (.istore 4, 2) := by decide +kernel
theorem dq_PI_layDown_24 : decode (fx_cc mq_PI_layDown) 24 = .ok (.iload 4, 2) := by decide +kernel
theorem dq_PI_layDown_26 : decode (fx_cc mq_PI_layDown) 26 = .ok (.aload_n 1, 1) := by decide +kernel
theorem dq_PI_layDown_27 : decode (fx_cc mq_PI_layDown) 27 = .ok (.getfield 83, 3) := by decide +kernel
theorem dq_PI_layDown_30 : decode (fx_cc mq_PI_layDown) 30 = .ok (.aload_n 1, 1) := by decide +kernel
theorem dq_PI_layDown_31 : decode (fx_cc mq_PI_layDown) 31 = .ok (.getfield 84, 3) := by decide +kernel
theorem dq_PI_layDown_34 : decode (fx_cc mq_PI_layDown) 34 = .ok (.iadd, 1) := by decide +kernel
theorem dq_PI_layDown_35 : decode (fx_cc mq_PI_layDown) 35 = .ok (.if_icmp .ge 30, 3) := by decide +kernel
theorem dq_PI_layDown_38 : decode (fx_cc mq_PI_layDown) 38 = .ok (.aload_n 0, 1) := by decide +kernel
theorem dq_PI_layDown_39 : decode (fx_cc mq_PI_layDown) 39 = .ok (.getfield 9, 3) := by decide +kernel
theorem dq_PI_layDown_42 : decode (fx_cc mq_PI_layDown) 42 = .ok (.iload_n 3, 1) := by decide +kernel
theorem dq_PI_layDown_43 : decode (fx_cc mq_PI_layDown) 43 = .ok (.aload_n 0, 1) := by decide +kernel
theorem dq_PI_layDown_44 : decode (fx_cc mq_PI_layDown) 44 = .ok (.getfield 29, 3) := by decide +kernel
theorem dq_PI_layDown_47 : decode (fx_cc mq_PI_layDown) 47 = .ok (.imul, 1) := by decide +kernel
theorem dq_PI_layDown_48 : decode (fx_cc mq_PI_layDown) 48 = .ok (.iload 4, 2) := by decide +kernel
theorem dq_PI_layDown_50 : decode (fx_cc mq_PI_layDown) 50 = .ok (.iadd, 1) := by decide +kernel
theorem dq_PI_layDown_51 : decode (fx_cc mq_PI_layDown) 51 = .ok (.aload_n 2, 1) := by decide +kernel
theorem dq_PI_layDown_52 : decode (fx_cc mq_PI_layDown) 52 = .ok (.iload 4, 2) := by decide +kernel
theorem dq_PI_layDown_54 : decode (fx_cc mq_PI_layDown) 54 = .ok (.iload_n 3, 1) := by decide +kernel
theorem dq_PI_layDown_55 : decode (fx_cc mq_PI_layDown) 55 = .ok (.invokevirtual 85, 3) := by decide +kernel
theorem dq_PI_layDown_58 : decode (fx_cc mq_PI_layDown) 58 = .ok (.iastore, 1) := by decide +kernel
theorem dq_PI_layDown_59 : decode (fx_cc mq_PI_layDown) 59 = .ok (.iinc 4 1, 3) := by decide +kernel
theorem dq_PI_layDown_62 : decode (fx_cc mq_PI_layDown) 62 = .ok (.goto (-38), 3) := by decide +kernel
theorem dq_PI_layDown_65 : decode (fx_cc mq_PI_layDown) 65 = .ok (.iinc 3 1, 3) := by decide +kernel
theorem dq_PI_layDown_68 : decode (fx_cc mq_PI_layDown) 68 = .ok (.goto (-63), 3) := by decide +kernel
theorem dq_PI_layDown_71 : decode (fx_cc mq_PI_layDown) 71 = .ok (.return_, 1) := by decide +kernel
theorem dq_LA_commit_0 : decode (fx_cc mq_LA_commit) 0 = .ok (.aload_n 2, 1) := by decide +kernel
theorem dq_LA_commit_1 : decode (fx_cc mq_LA_commit) 1 = .ok (.iconst 0, 1) := by decide +kernel
theorem dq_LA_commit_2 : decode (fx_cc mq_LA_commit) 2 = .ok (.aload_n 0, 1) := by decide +kernel
theorem dq_LA_commit_3 : decode (fx_cc mq_LA_commit) 3 = .ok (.iload_n 1, 1) := by decide +kernel
theorem dq_LA_commit_4 : decode (fx_cc mq_LA_commit) 4 = .ok (.invokevirtual 43, 3) := by decide +kernel
theorem dq_LA_commit_7 : decode (fx_cc mq_LA_commit) 7 = .ok (.i2l, 1) := by decide +kernel
theorem dq_LA_commit_8 : decode (fx_cc mq_LA_commit) 8 = .ok (.lastore, 1) := by decide +kernel
theorem dq_LA_commit_9 : decode (fx_cc mq_LA_commit) 9 = .ok (.goto 9, 3) := by decide +kernel
theorem dq_LA_commit_12 : decode (fx_cc mq_LA_commit) 12 = .ok (.astore_n 3, 1) := by decide +kernel
theorem dq_LA_commit_13 : decode (fx_cc mq_LA_commit) 13 = .ok (.iconst 1, 1) := by decide +kernel
theorem dq_LA_commit_14 : decode (fx_cc mq_LA_commit) 14 = .ok (.ireturn, 1) := by decide +kernel
theorem dq_LA_commit_15 : decode (fx_cc mq_LA_commit) 15 = .ok (.astore_n 3, 1) := by decide +kernel
theorem dq_LA_commit_16 : decode (fx_cc mq_LA_commit) 16 = .ok (.iconst 2, 1) := by decide +kernel
theorem dq_LA_commit_17 : decode (fx_cc mq_LA_commit) 17 = .ok (.ireturn, 1) := by decide +kernel
theorem dq_LA_commit_18 : decode (fx_cc mq_LA_commit) 18 = .ok (.iconst 0, 1) := by decide +kernel
theorem dq_LA_commit_19 : decode (fx_cc mq_LA_commit) 19 = .ok (.ireturn, 1) := by decide +kernel
theorem dq_FS_commit_0 : decode (fx_cc mq_FS_commit) 0 = .ok (.iload_n 1, 1) := by decide +kernel
theorem dq_FS_commit_1 : decode (fx_cc mq_FS_commit) 1 = .ok (.invokestatic 44, 3) := by decide +kernel
theorem dq_FS_commit_4 : decode (fx_cc mq_FS_commit) 4 = .ok (.invokestatic 52, 3) := by decide +kernel
theorem dq_FS_commit_7 : decode (fx_cc mq_FS_commit) 7 = .ok (.aload_n 0, 1) := by decide +kernel
theorem dq_FS_commit_8 : decode (fx_cc mq_FS_commit) 8 = .ok (.getfield 10, 3) := by decide +kernel
theorem dq_FS_commit_11 : decode (fx_cc mq_FS_commit) 11 = .ok (.getfield 153, 3) := by decide +kernel
theorem dq_FS_commit_14 : decode (fx_cc mq_FS_commit) 14 = .ok (.aload_n 0, 1) := by decide +kernel
theorem dq_FS_commit_15 : decode (fx_cc mq_FS_commit) 15 = .ok (.getfield 19, 3) := by decide +kernel
theorem dq_FS_commit_18 : decode (fx_cc mq_FS_commit) 18 = .ok (.getfield 156, 3) := by decide +kernel
theorem dq_FS_commit_21 : decode (fx_cc mq_FS_commit) 21 = .ok (.isub, 1) := by decide +kernel
theorem dq_FS_commit_22 : decode (fx_cc mq_FS_commit) 22 = .ok (.bipush 6, 2) := by decide +kernel
theorem dq_FS_commit_24 : decode (fx_cc mq_FS_commit) 24 = .ok (.if_icmp .lt 11, 3) := by decide +kernel
theorem dq_FS_commit_27 : decode (fx_cc mq_FS_commit) 27 = .ok (.new 64, 3) := by decide +kernel
theorem dq_FS_commit_30 : decode (fx_cc mq_FS_commit) 30 = .ok (.dup, 1) := by decide +kernel
theorem dq_FS_commit_31 : decode (fx_cc mq_FS_commit) 31 = .ok (.invokespecial 66, 3) := by decide +kernel
theorem dq_FS_commit_34 : decode (fx_cc mq_FS_commit) 34 = .ok (.athrow, 1) := by decide +kernel
theorem dq_FS_commit_35 : decode (fx_cc mq_FS_commit) 35 = .ok (.aload_n 0, 1) := by decide +kernel
theorem dq_FS_commit_36 : decode (fx_cc mq_FS_commit) 36 = .ok (.getfield 10, 3) := by decide +kernel
theorem dq_FS_commit_39 : decode (fx_cc mq_FS_commit) 39 = .ok (.iload_n 1, 1) := by decide +kernel
theorem dq_FS_commit_40 : decode (fx_cc mq_FS_commit) 40 = .ok (.invokevirtual 159, 3) := by decide +kernel
theorem dq_FS_commit_43 : decode (fx_cc mq_FS_commit) 43 = .ok (.aload_n 0, 1) := by decide +kernel
theorem dq_FS_commit_44 : decode (fx_cc mq_FS_commit) 44 = .ok (.getfield 10, 3) := by decide +kernel
theorem dq_FS_commit_47 : decode (fx_cc mq_FS_commit) 47 = .ok (.getfield 153, 3) := by decide +kernel
theorem dq_FS_commit_50 : decode (fx_cc mq_FS_commit) 50 = .ok (.ireturn, 1) := by decide +kernel
theorem dq_DE_commitAll_0 : decode (fx_cc mq_DE_commitAll) 0 = .ok (.iconst 0, 1) := by decide +kernel
theorem dq_DE_commitAll_1 : decode (fx_cc mq_DE_commitAll) 1 = .ok (.istore_n 2, 1) := by decide +kernel
theorem dq_DE_commitAll_2 : decode (fx_cc mq_DE_commitAll) 2 = .ok (.iload_n 2, 1) := by decide +kernel
theorem dq_DE_commitAll_3 : decode (fx_cc mq_DE_commitAll) 3 = .ok (.bipush 10, 2) := by decide +kernel
theorem dq_DE_commitAll_5 : decode (fx_cc mq_DE_commitAll) 5 = .ok (.if_icmp .ge 60, 3) := by decide +kernel
theorem dq_DE_commitAll_8 : decode (fx_cc mq_DE_commitAll) 8 = .ok (.aload_n 0, 1) := by decide +kernel
theorem dq_DE_commitAll_9 : decode (fx_cc mq_DE_commitAll) 9 = .ok (.getfield 24, 3) := by decide +kernel
theorem dq_DE_commitAll_12 : decode (fx_cc mq_DE_commitAll) 12 = .ok (.iload_n 2, 1) := by decide +kernel
theorem dq_DE_commitAll_13 : decode (fx_cc mq_DE_commitAll) 13 = .ok (.iaload, 1) := by decide +kernel
theorem dq_DE_commitAll_14 : decode (fx_cc mq_DE_commitAll) 14 = .ok (.iload_n 1, 1) := by decide +kernel
theorem dq_DE_commitAll_15 : decode (fx_cc mq_DE_commitAll) 15 = .ok (.if_icmp .ne 44, 3) := by decide +kernel
theorem dq_DE_commitAll_18 : decode (fx_cc mq_DE_commitAll) 18 = .ok (.aload_n 0, 1) := by decide +kernel
theorem dq_DE_commitAll_19 : decode (fx_cc mq_DE_commitAll) 19 = .ok (.getfield 20, 3) := by decide +kernel
theorem dq_DE_commitAll_22 : decode (fx_cc mq_DE_commitAll) 22 = .ok (.getfield 48, 3) := by decide +kernel
theorem dq_DE_commitAll_25 : decode (fx_cc mq_DE_commitAll) 25 = .ok (.iload_n 2, 1) := by decide +kernel
theorem dq_DE_commitAll_26 : decode (fx_cc mq_DE_commitAll) 26 = .ok (.aaload, 1) := by decide +kernel
theorem dq_DE_commitAll_27 : decode (fx_cc mq_DE_commitAll) 27 = .ok (.aload_n 0, 1) := by decide +kernel
theorem dq_DE_commitAll_28 : decode (fx_cc mq_DE_commitAll) 28 = .ok (.getfield 11, 3) := by decide +kernel
theorem dq_DE_commitAll_31 : decode (fx_cc mq_DE_commitAll) 31 = .ok (.iload_n 2, 1) := by decide +kernel
theorem dq_DE_commitAll_32 : decode (fx_cc mq_DE_commitAll) 32 = .ok (.aaload, 1) := by decide +kernel
theorem dq_DE_commitAll_33 : decode (fx_cc mq_DE_commitAll) 33 = .ok (.invokevirtual 51, 3) := by decide +kernel
theorem dq_DE_commitAll_36 : decode (fx_cc mq_DE_commitAll) 36 = .ok (.aload_n 0, 1) := by decide +kernel
theorem dq_DE_commitAll_37 : decode (fx_cc mq_DE_commitAll) 37 = .ok (.getfield 28, 3) := by decide +kernel
theorem dq_DE_commitAll_40 : decode (fx_cc mq_DE_commitAll) 40 = .ok (.iload_n 2, 1) := by decide +kernel
theorem dq_DE_commitAll_41 : decode (fx_cc mq_DE_commitAll) 41 = .ok (.aload_n 0, 1) := by decide +kernel
theorem dq_DE_commitAll_42 : decode (fx_cc mq_DE_commitAll) 42 = .ok (.getfield 11, 3) := by decide +kernel
theorem dq_DE_commitAll_45 : decode (fx_cc mq_DE_commitAll) 45 = .ok (.iload_n 2, 1) := by decide +kernel
theorem dq_DE_commitAll_46 : decode (fx_cc mq_DE_commitAll) 46 = .ok (.aaload, 1) := by decide +kernel
theorem dq_DE_commitAll_47 : decode (fx_cc mq_DE_commitAll) 47 = .ok (.getfield 40, 3) := by decide +kernel
theorem dq_DE_commitAll_50 : decode (fx_cc mq_DE_commitAll) 50 = .ok (.ifCond .ne 7, 3) := by decide +kernel
theorem dq_DE_commitAll_53 : decode (fx_cc mq_DE_commitAll) 53 = .ok (.iconst 1, 1) := by decide +kernel
theorem dq_DE_commitAll_54 : decode (fx_cc mq_DE_commitAll) 54 = .ok (.goto 4, 3) := by decide +kernel
theorem dq_DE_commitAll_57 : decode (fx_cc mq_DE_commitAll) 57 = .ok (.iconst 0, 1) := by decide +kernel
theorem dq_DE_commitAll_58 : decode (fx_cc mq_DE_commitAll) 58 = .ok (.bastore, 1) := by decide +kernel
theorem dq_DE_commitAll_59 : decode (fx_cc mq_DE_commitAll) 59 = .ok (.iinc 2 1, 3) := by decide +kernel
theorem dq_DE_commitAll_62 : decode (fx_cc mq_DE_commitAll) 62 = .ok (.goto (-60), 3) := by decide +kernel
theorem dq_DE_commitAll_65 : decode (fx_cc mq_DE_commitAll) 65 = .ok (.aload_n 0, 1) := by decide +kernel
theorem dq_DE_commitAll_66 : decode (fx_cc mq_DE_commitAll) 66 = .ok (.getfield 20, 3) := by decide +kernel
theorem dq_DE_commitAll_69 : decode (fx_cc mq_DE_commitAll) 69 = .ok (.invokevirtual 55, 3) := by decide +kernel
theorem dq_DE_commitAll_72 : decode (fx_cc mq_DE_commitAll) 72 = .ok (.aload_n 0, 1) := by decide +kernel
theorem dq_DE_commitAll_73 : decode (fx_cc mq_DE_commitAll) 73 = .ok (.getfield 32, 3) := by decide +kernel
theorem dq_DE_commitAll_76 : decode (fx_cc mq_DE_commitAll) 76 = .ok (.iload_n 1, 1) := by decide +kernel
theorem dq_DE_commitAll_77 : decode (fx_cc mq_DE_commitAll) 77 = .ok (.iconst 1, 1) := by decide +kernel
theorem dq_DE_commitAll_78 : decode (fx_cc mq_DE_commitAll) 78 = .ok (.bastore, 1) := by decide +kernel
theorem dq_DE_commitAll_79 : decode (fx_cc mq_DE_commitAll) 79 = .ok (.aload_n 0, 1) := by decide +kernel
theorem dq_DE_commitAll_80 : decode (fx_cc mq_DE_commitAll) 80 = .ok (.dup, 1) := by decide +kernel
theorem dq_DE_commitAll_81 : decode (fx_cc mq_DE_commitAll) 81 = .ok (.getfield 58, 3) := by decide +kernel
theorem dq_DE_commitAll_84 : decode (fx_cc mq_DE_commitAll) 84 = .ok (.iconst 1, 1) := by decide +kernel
theorem dq_DE_commitAll_85 : decode (fx_cc mq_DE_commitAll) 85 = .ok (.iadd, 1) := by decide +kernel
theorem dq_DE_commitAll_86 : decode (fx_cc mq_DE_commitAll) 86 = .ok (.putfield 58, 3) := by decide +kernel
theorem dq_DE_commitAll_89 : decode (fx_cc mq_DE_commitAll) 89 = .ok (.return_, 1) := by decide +kernel
theorem dq_PL_sort_0 : decode (fx_cc mq_PL_sort) 0 = .ok (.aload_n 0, 1) := by decide +kernel
theorem dq_PL_sort_1 : decode (fx_cc mq_PL_sort) 1 = .ok (.iconst 0, 1) := by decide +kernel
theorem dq_PL_sort_2 : decode (fx_cc mq_PL_sort) 2 = .ok (.putfield 22, 3) := by decide +kernel
theorem dq_PL_sort_5 : decode (fx_cc mq_PL_sort) 5 = .ok (.iconst 0, 1) := by decide +kernel
theorem dq_PL_sort_6 : decode (fx_cc mq_PL_sort) 6 = .ok (.istore_n 1, 1) := by decide +kernel
theorem dq_PL_sort_7 : decode (fx_cc mq_PL_sort) 7 = .ok (.iload_n 1, 1) := by decide +kernel
theorem dq_PL_sort_8 : decode (fx_cc mq_PL_sort) 8 = .ok (.bipush 9, 2) := by decide +kernel
theorem dq_PL_sort_10 : decode (fx_cc mq_PL_sort) 10 = .ok (.if_icmp .gt 68, 3) := by decide +kernel
theorem dq_PL_sort_13 : decode (fx_cc mq_PL_sort) 13 = .ok (.iconst 0, 1) := by decide +kernel
theorem dq_PL_sort_14 : decode (fx_cc mq_PL_sort) 14 = .ok (.istore_n 2, 1) := by decide +kernel
theorem dq_PL_sort_15 : decode (fx_cc mq_PL_sort) 15 = .ok (.iload_n 2, 1) := by decide +kernel
theorem dq_PL_sort_16 : decode (fx_cc mq_PL_sort) 16 = .ok (.bipush 10, 2) := by decide +kernel
theorem dq_PL_sort_18 : decode (fx_cc mq_PL_sort) 18 = .ok (.if_icmp .ge 54, 3) := by decide +kernel
theorem dq_PL_sort_21 : decode (fx_cc mq_PL_sort) 21 = .ok (.aload_n 0, 1) := by decide +kernel
theorem dq_PL_sort_22 : decode (fx_cc mq_PL_sort) 22 = .ok (.getfield 11, 3) := by decide +kernel
theorem dq_PL_sort_25 : decode (fx_cc mq_PL_sort) 25 = .ok (.iload_n 2, 1) := by decide +kernel
theorem dq_PL_sort_26 : decode (fx_cc mq_PL_sort) 26 = .ok (.aaload, 1) := by decide +kernel
theorem dq_PL_sort_27 : decode (fx_cc mq_PL_sort) 27 = .ok (.getfield 26, 3) := by decide +kernel
theorem dq_PL_sort_30 : decode (fx_cc mq_PL_sort) 30 = .ok (.ifCond .eq 36, 3) := by decide +kernel
theorem dq_PL_sort_33 : decode (fx_cc mq_PL_sort) 33 = .ok (.aload_n 0, 1) := by decide +kernel
theorem dq_PL_sort_34 : decode (fx_cc mq_PL_sort) 34 = .ok (.getfield 11, 3) := by decide +kernel
theorem dq_PL_sort_37 : decode (fx_cc mq_PL_sort) 37 = .ok (.iload_n 2, 1) := by decide +kernel
theorem dq_PL_sort_38 : decode (fx_cc mq_PL_sort) 38 = .ok (.aaload, 1) := by decide +kernel
theorem dq_PL_sort_39 : decode (fx_cc mq_PL_sort) 39 = .ok (.getfield 30, 3) := by decide +kernel
theorem dq_PL_sort_42 : decode (fx_cc mq_PL_sort) 42 = .ok (.iload_n 1, 1) := by decide +kernel
theorem dq_PL_sort_43 : decode (fx_cc mq_PL_sort) 43 = .ok (.if_icmp .ne 23, 3) := by decide +kernel
theorem dq_PL_sort_46 : decode (fx_cc mq_PL_sort) 46 = .ok (.aload_n 0, 1) := by decide +kernel
theorem dq_PL_sort_47 : decode (fx_cc mq_PL_sort) 47 = .ok (.getfield 17, 3) := by decide +kernel
theorem dq_PL_sort_50 : decode (fx_cc mq_PL_sort) 50 = .ok (.aload_n 0, 1) := by decide +kernel
theorem dq_PL_sort_51 : decode (fx_cc mq_PL_sort) 51 = .ok (.getfield 22, 3) := by decide +kernel
theorem dq_PL_sort_54 : decode (fx_cc mq_PL_sort) 54 = .ok (.iload_n 2, 1) := by decide +kernel
theorem dq_PL_sort_55 : decode (fx_cc mq_PL_sort) 55 = .ok (.iastore, 1) := by decide +kernel
theorem dq_PL_sort_56 : decode (fx_cc mq_PL_sort) 56 = .ok (.aload_n 0, 1) := by decide +kernel
theorem dq_PL_sort_57 : decode (fx_cc mq_PL_sort) 57 = .ok (.dup, 1) := by decide +kernel
theorem dq_PL_sort_58 : decode (fx_cc mq_PL_sort) 58 = .ok (.getfield 22, 3) := by decide +kernel
theorem dq_PL_sort_61 : decode (fx_cc mq_PL_sort) 61 = .ok (.iconst 1, 1) := by decide +kernel
theorem dq_PL_sort_62 : decode (fx_cc mq_PL_sort) 62 = .ok (.iadd, 1) := by decide +kernel
theorem dq_PL_sort_63 : decode (fx_cc mq_PL_sort) 63 = .ok (.putfield 22, 3) := by decide +kernel
theorem dq_PL_sort_66 : decode (fx_cc mq_PL_sort) 66 = .ok (.iinc 2 1, 3) := by decide +kernel
theorem dq_PL_sort_69 : decode (fx_cc mq_PL_sort) 69 = .ok (.goto (-54), 3) := by decide +kernel
theorem dq_PL_sort_72 : decode (fx_cc mq_PL_sort) 72 = .ok (.iinc 1 1, 3) := by decide +kernel
theorem dq_PL_sort_75 : decode (fx_cc mq_PL_sort) 75 = .ok (.goto (-68), 3) := by decide +kernel
theorem dq_PL_sort_78 : decode (fx_cc mq_PL_sort) 78 = .ok (.return_, 1) := by decide +kernel
theorem dq_LA_draw_0 : decode (fx_cc mq_LA_draw) 0 = .ok (.aload_n 2, 1) := by decide +kernel
theorem dq_LA_draw_1 : decode (fx_cc mq_LA_draw) 1 = .ok (.iconst 0, 1) := by decide +kernel
theorem dq_LA_draw_2 : decode (fx_cc mq_LA_draw) 2 = .ok (.aload_n 0, 1) := by decide +kernel
theorem dq_LA_draw_3 : decode (fx_cc mq_LA_draw) 3 = .ok (.iload_n 1, 1) := by decide +kernel
theorem dq_LA_draw_4 : decode (fx_cc mq_LA_draw) 4 = .ok (.invokevirtual 47, 3) := by decide +kernel
theorem dq_LA_draw_7 : decode (fx_cc mq_LA_draw) 7 = .ok (.i2l, 1) := by decide +kernel
theorem dq_LA_draw_8 : decode (fx_cc mq_LA_draw) 8 = .ok (.lastore, 1) := by decide +kernel
theorem dq_LA_draw_9 : decode (fx_cc mq_LA_draw) 9 = .ok (.goto 6, 3) := by decide +kernel
theorem dq_LA_draw_12 : decode (fx_cc mq_LA_draw) 12 = .ok (.astore_n 3, 1) := by decide +kernel
theorem dq_LA_draw_13 : decode (fx_cc mq_LA_draw) 13 = .ok (.iconst 1, 1) := by decide +kernel
theorem dq_LA_draw_14 : decode (fx_cc mq_LA_draw) 14 = .ok (.ireturn, 1) := by decide +kernel
theorem dq_LA_draw_15 : decode (fx_cc mq_LA_draw) 15 = .ok (.iconst 0, 1) := by decide +kernel
theorem dq_LA_draw_16 : decode (fx_cc mq_LA_draw) 16 = .ok (.ireturn, 1) := by decide +kernel
theorem dq_FS_draw_0 : decode (fx_cc mq_FS_draw) 0 = .ok (.iload_n 1, 1) := by decide +kernel
theorem dq_FS_draw_1 : decode (fx_cc mq_FS_draw) 1 = .ok (.iconst 0, 1) := by decide +kernel
theorem dq_FS_draw_2 : decode (fx_cc mq_FS_draw) 2 = .ok (.sipush 200, 3) := by decide +kernel
theorem dq_FS_draw_5 : decode (fx_cc mq_FS_draw) 5 = .ok (.invokestatic 48, 3) := by decide +kernel
theorem dq_FS_draw_8 : decode (fx_cc mq_FS_draw) 8 = .ok (.invokestatic 52, 3) := by decide +kernel
theorem dq_FS_draw_11 : decode (fx_cc mq_FS_draw) 11 = .ok (.iload_n 1, 1) := by decide +kernel
theorem dq_FS_draw_12 : decode (fx_cc mq_FS_draw) 12 = .ok (.ifCond .eq 41, 3) := by decide +kernel
theorem dq_FS_draw_15 : decode (fx_cc mq_FS_draw) 15 = .ok (.aload_n 0, 1) := by decide +kernel
theorem dq_FS_draw_16 : decode (fx_cc mq_FS_draw) 16 = .ok (.getfield 19, 3) := by decide +kernel
theorem dq_FS_draw_19 : decode (fx_cc mq_FS_draw) 19 = .ok (.getfield 163, 3) := by decide +kernel
theorem dq_FS_draw_22 : decode (fx_cc mq_FS_draw) 22 = .ok (.ifCond .ne 31, 3) := by decide +kernel
theorem dq_FS_draw_25 : decode (fx_cc mq_FS_draw) 25 = .ok (.aload_n 0, 1) := by decide +kernel
theorem dq_FS_draw_26 : decode (fx_cc mq_FS_draw) 26 = .ok (.getfield 19, 3) := by decide +kernel
theorem dq_FS_draw_29 : decode (fx_cc mq_FS_draw) 29 = .ok (.getfield 156, 3) := by decide +kernel
theorem dq_FS_draw_32 : decode (fx_cc mq_FS_draw) 32 = .ok (.aload_n 0, 1) := by decide +kernel
theorem dq_FS_draw_33 : decode (fx_cc mq_FS_draw) 33 = .ok (.getfield 10, 3) := by decide +kernel
theorem dq_FS_draw_36 : decode (fx_cc mq_FS_draw) 36 = .ok (.getfield 153, 3) := by decide +kernel
theorem dq_FS_draw_39 : decode (fx_cc mq_FS_draw) 39 = .ok (.if_icmp .ge 14, 3) := by decide +kernel
theorem dq_FS_draw_42 : decode (fx_cc mq_FS_draw) 42 = .ok (.aload_n 0, 1) := by decide +kernel
theorem dq_FS_draw_43 : decode (fx_cc mq_FS_draw) 43 = .ok (.getfield 19, 3) := by decide +kernel
theorem dq_FS_draw_46 : decode (fx_cc mq_FS_draw) 46 = .ok (.aload_n 0, 1) := by decide +kernel
theorem dq_FS_draw_47 : decode (fx_cc mq_FS_draw) 47 = .ok (.getfield 10, 3) := by decide +kernel
theorem dq_FS_draw_50 : decode (fx_cc mq_FS_draw) 50 = .ok (.invokevirtual 166, 3) := by decide +kernel
theorem dq_FS_draw_53 : decode (fx_cc mq_FS_draw) 53 = .ok (.aload_n 0, 1) := by decide +kernel
theorem dq_FS_draw_54 : decode (fx_cc mq_FS_draw) 54 = .ok (.getfield 19, 3) := by decide +kernel
theorem dq_FS_draw_57 : decode (fx_cc mq_FS_draw) 57 = .ok (.iload_n 1, 1) := by decide +kernel
theorem dq_FS_draw_58 : decode (fx_cc mq_FS_draw) 58 = .ok (.invokevirtual 170, 3) := by decide +kernel
theorem dq_FS_draw_61 : decode (fx_cc mq_FS_draw) 61 = .ok (.ireturn, 1) := by decide +kernel
theorem dq_CO_begin_0 : decode (fx_cc mq_CO_begin) 0 = .ok (.aload_n 0, 1) := by decide +kernel
theorem dq_CO_begin_1 : decode (fx_cc mq_CO_begin) 1 = .ok (.invokevirtual 50, 3) := by decide +kernel
theorem dq_CO_begin_4 : decode (fx_cc mq_CO_begin) 4 = .ok (.aload_n 0, 1) := by decide +kernel
theorem dq_CO_begin_5 : decode (fx_cc mq_CO_begin) 5 = .ok (.getfield 12, 3) := by decide +kernel
theorem dq_CO_begin_8 : decode (fx_cc mq_CO_begin) 8 = .ok (.aload_n 1, 1) := by decide +kernel
theorem dq_CO_begin_9 : decode (fx_cc mq_CO_begin) 9 = .ok (.getfield 53, 3) := by decide +kernel
theorem dq_CO_begin_12 : decode (fx_cc mq_CO_begin) 12 = .ok (.invokevirtual 58, 3) := by decide +kernel
theorem dq_CO_begin_15 : decode (fx_cc mq_CO_begin) 15 = .ok (.aload_n 0, 1) := by decide +kernel
theorem dq_CO_begin_16 : decode (fx_cc mq_CO_begin) 16 = .ok (.aload_n 1, 1) := by decide +kernel
theorem dq_CO_begin_17 : decode (fx_cc mq_CO_begin) 17 = .ok (.getfield 62, 3) := by decide +kernel
theorem dq_CO_begin_20 : decode (fx_cc mq_CO_begin) 20 = .ok (.putfield 65, 3) := by decide +kernel
theorem dq_CO_begin_23 : decode (fx_cc mq_CO_begin) 23 = .ok (.aload_n 0, 1) := by decide +kernel
theorem dq_CO_begin_24 : decode (fx_cc mq_CO_begin) 24 = .ok (.getfield 21, 3) := by decide +kernel
theorem dq_CO_begin_27 : decode (fx_cc mq_CO_begin) 27 = .ok (.aload_n 0, 1) := by decide +kernel
theorem dq_CO_begin_28 : decode (fx_cc mq_CO_begin) 28 = .ok (.getfield 12, 3) := by decide +kernel
theorem dq_CO_begin_31 : decode (fx_cc mq_CO_begin) 31 = .ok (.invokevirtual 68, 3) := by decide +kernel
theorem dq_CO_begin_34 : decode (fx_cc mq_CO_begin) 34 = .ok (.aload_n 0, 1) := by decide +kernel
theorem dq_CO_begin_35 : decode (fx_cc mq_CO_begin) 35 = .ok (.aload_n 1, 1) := by decide +kernel
theorem dq_CO_begin_36 : decode (fx_cc mq_CO_begin) 36 = .ok (.invokevirtual 71, 3) := by decide +kernel
theorem dq_CO_begin_39 : decode (fx_cc mq_CO_begin) 39 = .ok (.aload_n 1, 1) := by decide +kernel
theorem dq_CO_begin_40 : decode (fx_cc mq_CO_begin) 40 = .ok (.invokevirtual 75, 3) := by decide +kernel
theorem dq_CO_begin_43 : decode (fx_cc mq_CO_begin) 43 = .ok (.aload_n 0, 1) := by decide +kernel
theorem dq_CO_begin_44 : decode (fx_cc mq_CO_begin) 44 = .ok (.iconst 1, 1) := by decide +kernel
theorem dq_CO_begin_45 : decode (fx_cc mq_CO_begin) 45 = .ok (.putfield 45, 3) := by decide +kernel
theorem dq_CO_begin_48 : decode (fx_cc mq_CO_begin) 48 = .ok (.aload_n 0, 1) := by decide +kernel
theorem dq_CO_begin_49 : decode (fx_cc mq_CO_begin) 49 = .ok (.iconst 0, 1) := by decide +kernel
theorem dq_CO_begin_50 : decode (fx_cc mq_CO_begin) 50 = .ok (.invokevirtual 78, 3) := by decide +kernel
theorem dq_CO_begin_53 : decode (fx_cc mq_CO_begin) 53 = .ok (.return_, 1) := by decide +kernel
theorem dq_CO_rememberBefore_0 : decode (fx_cc mq_CO_rememberBefore) 0 = .ok (.iconst 0, 1) := by decide +kernel
theorem dq_CO_rememberBefore_1 : decode (fx_cc mq_CO_rememberBefore) 1 = .ok (.istore_n 1, 1) := by decide +kernel
theorem dq_CO_rememberBefore_2 : decode (fx_cc mq_CO_rememberBefore) 2 = .ok (.iload_n 1, 1) := by decide +kernel
theorem dq_CO_rememberBefore_3 : decode (fx_cc mq_CO_rememberBefore) 3 = .ok (.bipush 10, 2) := by decide +kernel
theorem dq_CO_rememberBefore_5 : decode (fx_cc mq_CO_rememberBefore) 5 = .ok (.if_icmp .ge 44, 3) := by decide +kernel
theorem dq_CO_rememberBefore_8 : decode (fx_cc mq_CO_rememberBefore) 8 = .ok (.aload_n 0, 1) := by decide +kernel
theorem dq_CO_rememberBefore_9 : decode (fx_cc mq_CO_rememberBefore) 9 = .ok (.getfield 25, 3) := by decide +kernel
theorem dq_CO_rememberBefore_12 : decode (fx_cc mq_CO_rememberBefore) 12 = .ok (.iload_n 1, 1) := by decide +kernel
theorem dq_CO_rememberBefore_13 : decode (fx_cc mq_CO_rememberBefore) 13 = .ok (.aload_n 0, 1) := by decide +kernel
theorem dq_CO_rememberBefore_14 : decode (fx_cc mq_CO_rememberBefore) 14 = .ok (.getfield 21, 3) := by decide +kernel
theorem dq_CO_rememberBefore_17 : decode (fx_cc mq_CO_rememberBefore) 17 = .ok (.iload_n 1, 1) := by decide +kernel
theorem dq_CO_rememberBefore_18 : decode (fx_cc mq_CO_rememberBefore) 18 = .ok (.invokevirtual 82, 3) := by decide +kernel
theorem dq_CO_rememberBefore_21 : decode (fx_cc mq_CO_rememberBefore) 21 = .ok (.bastore, 1) := by decide +kernel
theorem dq_CO_rememberBefore_22 : decode (fx_cc mq_CO_rememberBefore) 22 = .ok (.aload_n 0, 1) := by decide +kernel
theorem dq_CO_rememberBefore_23 : decode (fx_cc mq_CO_rememberBefore) 23 = .ok (.getfield 31, 3) := by decide +kernel
theorem dq_CO_rememberBefore_26 : decode (fx_cc mq_CO_rememberBefore) 26 = .ok (.iload_n 1, 1) := by decide +kernel
theorem dq_CO_rememberBefore_27 : decode (fx_cc mq_CO_rememberBefore) 27 = .ok (.aaload, 1) := by decide +kernel
theorem dq_CO_rememberBefore_28 : decode (fx_cc mq_CO_rememberBefore) 28 = .ok (.aload_n 0, 1) := by decide +kernel
theorem dq_CO_rememberBefore_29 : decode (fx_cc mq_CO_rememberBefore) 29 = .ok (.getfield 12, 3) := by decide +kernel
theorem dq_CO_rememberBefore_32 : decode (fx_cc mq_CO_rememberBefore) 32 = .ok (.getfield 86, 3) := by decide +kernel
theorem dq_CO_rememberBefore_35 : decode (fx_cc mq_CO_rememberBefore) 35 = .ok (.iload_n 1, 1) := by decide +kernel
theorem dq_CO_rememberBefore_36 : decode (fx_cc mq_CO_rememberBefore) 36 = .ok (.aaload, 1) := by decide +kernel
theorem dq_CO_rememberBefore_37 : decode (fx_cc mq_CO_rememberBefore) 37 = .ok (.getfield 90, 3) := by decide +kernel
theorem dq_CO_rememberBefore_40 : decode (fx_cc mq_CO_rememberBefore) 40 = .ok (.invokevirtual 96, 3) := by decide +kernel
theorem dq_CO_rememberBefore_43 : decode (fx_cc mq_CO_rememberBefore) 43 = .ok (.iinc 1 1, 3) := by decide +kernel
theorem dq_CO_rememberBefore_46 : decode (fx_cc mq_CO_rememberBefore) 46 = .ok (.goto (-44), 3) := by decide +kernel
theorem dq_CO_rememberBefore_49 : decode (fx_cc mq_CO_rememberBefore) 49 = .ok (.return_, 1) := by decide +kernel
theorem dq_PN_has_0 : decode (fx_cc mq_PN_has) 0 = .ok (.aload_n 0, 1) := by decide +kernel
theorem dq_PN_has_1 : decode (fx_cc mq_PN_has) 1 = .ok (.getfield 9, 3) := by decide +kernel
theorem dq_PN_has_4 : decode (fx_cc mq_PN_has) 4 = .ok (.iconst 0, 1) := by decide +kernel
theorem dq_PN_has_5 : decode (fx_cc mq_PN_has) 5 = .ok (.iaload, 1) := by decide +kernel
theorem dq_PN_has_6 : decode (fx_cc mq_PN_has) 6 = .ok (.iload_n 1, 1) := by decide +kernel
theorem dq_PN_has_7 : decode (fx_cc mq_PN_has) 7 = .ok (.if_icmp .eq 13, 3) := by decide +kernel
theorem dq_PN_has_10 : decode (fx_cc mq_PN_has) 10 = .ok (.aload_n 0, 1) := by decide +kernel
theorem dq_PN_has_11 : decode (fx_cc mq_PN_has) 11 = .ok (.getfield 9, 3) := by decide +kernel
theorem dq_PN_has_14 : decode (fx_cc mq_PN_has) 14 = .ok (.iconst 1, 1) := by decide +kernel
theorem dq_PN_has_15 : decode (fx_cc mq_PN_has) 15 = .ok (.iaload, 1) := by decide +kernel
theorem dq_PN_has_16 : decode (fx_cc mq_PN_has) 16 = .ok (.iload_n 1, 1) := by decide +kernel
theorem dq_PN_has_17 : decode (fx_cc mq_PN_has) 17 = .ok (.if_icmp .ne 7, 3) := by decide +kernel
theorem dq_PN_has_20 : decode (fx_cc mq_PN_has) 20 = .ok (.iconst 1, 1) := by decide +kernel
theorem dq_PN_has_21 : decode (fx_cc mq_PN_has) 21 = .ok (.goto 4, 3) := by decide +kernel
theorem dq_PN_has_24 : decode (fx_cc mq_PN_has) 24 = .ok (.iconst 0, 1) := by decide +kernel
theorem dq_PN_has_25 : decode (fx_cc mq_PN_has) 25 = .ok (.ireturn, 1) := by decide +kernel
end
section
/-! ===== a row for each instruction ===== -/
theorem dq_PL_become_0 : decode (fx_cc mq_PL_become) 0 = .ok (.iconst 0, 1) := by decide +kernel
theorem dq_PL_become_1 : decode (fx_cc mq_PL_become) 1 = .ok (.istore_n 2, 1) := by decide +kernel
theorem dq_PL_become_2 : decode (fx_cc mq_PL_become) 2 = .ok (.iload_n 2, 1) := by decide +kernel
theorem dq_PL_become_3 : decode (fx_cc mq_PL_become) 3 = .ok (.bipush 10, 2) := by decide +kernel
theorem dq_PL_become_5 : decode (fx_cc mq_PL_become) 5 = .ok (.if_icmp .ge 24, 3) := by decide +kernel
theorem dq_PL_become_8 : decode (fx_cc mq_PL_become) 8 = .ok (.aload_n 0, 1) := by decide +kernel
theorem dq_PL_become_9 : decode (fx_cc mq_PL_become) 9 = .ok (.getfield 11, 3) := by decide +kernel
theorem dq_PL_become_12 : decode (fx_cc mq_PL_become) 12 = .ok (.iload_n 2, 1) := by decide +kernel
theorem dq_PL_become_13 : decode (fx_cc mq_PL_become) 13 = .ok (.aaload, 1) := by decide +kernel
theorem dq_PL_become_14 : decode (fx_cc mq_PL_become) 14 = .ok (.aload_n 1, 1) := by decide +kernel
theorem dq_PL_become_15 : decode (fx_cc mq_PL_become) 15 = .ok (.getfield 11, 3) := by decide +kernel
theorem dq_PL_become_18 : decode (fx_cc mq_PL_become) 18 = .ok (.iload_n 2, 1) := by decide +kernel
theorem dq_PL_become_19 : decode (fx_cc mq_PL_become) 19 = .ok (.aaload, 1) := by decide +kernel
theorem dq_PL_become_20 : decode (fx_cc mq_PL_become) 20 = .ok (.invokevirtual 33, 3) := by decide +kernel
theorem dq_PL_become_23 : decode (fx_cc mq_PL_become) 23 = .ok (.iinc 2 1, 3) := by decide +kernel
theorem dq_PL_become_26 : decode (fx_cc mq_PL_become) 26 = .ok (.goto (-24), 3) := by decide +kernel
theorem dq_PL_become_29 : decode (fx_cc mq_PL_become) 29 = .ok (.aload_n 0, 1) := by decide +kernel
theorem dq_PL_become_30 : decode (fx_cc mq_PL_become) 30 = .ok (.invokevirtual 37, 3) := by decide +kernel
theorem dq_PL_become_33 : decode (fx_cc mq_PL_become) 33 = .ok (.return_, 1) := by decide +kernel
theorem dq_PN_choose_0 : decode (fx_cc mq_PN_choose) 0 = .ok (.aload_n 0, 1) := by decide +kernel
theorem dq_PN_choose_1 : decode (fx_cc mq_PN_choose) 1 = .ok (.getfield 9, 3) := by decide +kernel
theorem dq_PN_choose_4 : decode (fx_cc mq_PN_choose) 4 = .ok (.iconst (-1), 1) := by decide +kernel
theorem dq_PN_choose_5 : decode (fx_cc mq_PN_choose) 5 = .ok (.invokestatic 37, 3) := by decide +kernel
theorem dq_PN_choose_8 : decode (fx_cc mq_PN_choose) 8 = .ok (.iconst 0, 1) := by decide +kernel
theorem dq_PN_choose_9 : decode (fx_cc mq_PN_choose) 9 = .ok (.istore_n 2, 1) := by decide +kernel
theorem dq_PN_choose_10 : decode (fx_cc mq_PN_choose) 10 = .ok (.aload_n 1, 1) := by decide +kernel
theorem dq_PN_choose_11 : decode (fx_cc mq_PN_choose) 11 = .ok (.getfield 43, 3) := by decide +kernel
theorem dq_PN_choose_14 : decode (fx_cc mq_PN_choose) 14 = .ok (.iconst 1, 1) := by decide +kernel
theorem dq_PN_choose_15 : decode (fx_cc mq_PN_choose) 15 = .ok (.isub, 1) := by decide +kernel
theorem dq_PN_choose_16 : decode (fx_cc mq_PN_choose) 16 = .ok (.istore_n 3, 1) := by decide +kernel
theorem dq_PN_choose_17 : decode (fx_cc mq_PN_choose) 17 = .ok (.iload_n 3, 1) := by decide +kernel
theorem dq_PN_choose_18 : decode (fx_cc mq_PN_choose) 18 = .ok (.ifCond .lt 48, 3) := by decide +kernel
theorem dq_PN_choose_21 : decode (fx_cc mq_PN_choose) 21 = .ok (.iload_n 2, 1) := by decide +kernel
theorem dq_PN_choose_22 : decode (fx_cc mq_PN_choose) 22 = .ok (.iconst 2, 1) := by decide +kernel
theorem dq_PN_choose_23 : decode (fx_cc mq_PN_choose) 23 = .ok (.if_icmp .ge 43, 3) := by decide +kernel
theorem dq_PN_choose_26 : decode (fx_cc mq_PN_choose) 26 = .ok (.aload_n 0, 1) := by decide +kernel
theorem dq_PN_choose_27 : decode (fx_cc mq_PN_choose) 27 = .ok (.aload_n 1, 1) := by decide +kernel
theorem dq_PN_choose_28 : decode (fx_cc mq_PN_choose) 28 = .ok (.iload_n 3, 1) := by decide +kernel
theorem dq_PN_choose_29 : decode (fx_cc mq_PN_choose) 29 = .ok (.invokevirtual 49, 3) := by decide +kernel
theorem dq_PN_choose_32 : decode (fx_cc mq_PN_choose) 32 = .ok (.ifCond .eq 28, 3) := by decide +kernel
theorem dq_PN_choose_35 : decode (fx_cc mq_PN_choose) 35 = .ok (.aload_n 0, 1) := by decide +kernel
theorem dq_PN_choose_36 : decode (fx_cc mq_PN_choose) 36 = .ok (.iload_n 2, 1) := by decide +kernel
theorem dq_PN_choose_37 : decode (fx_cc mq_PN_choose) 37 = .ok (.aload_n 1, 1) := by decide +kernel
theorem dq_PN_choose_38 : decode (fx_cc mq_PN_choose) 38 = .ok (.getfield 53, 3) := by decide +kernel
theorem dq_PN_choose_41 : decode (fx_cc mq_PN_choose) 41 = .ok (.iload_n 3, 1) := by decide +kernel
theorem dq_PN_choose_42 : decode (fx_cc mq_PN_choose) 42 = .ok (.iaload, 1) := by decide +kernel
theorem dq_PN_choose_43 : decode (fx_cc mq_PN_choose) 43 = .ok (.aload_n 1, 1) := by decide +kernel
theorem dq_PN_choose_44 : decode (fx_cc mq_PN_choose) 44 = .ok (.getfield 56, 3) := by decide +kernel
theorem dq_PN_choose_47 : decode (fx_cc mq_PN_choose) 47 = .ok (.aload_n 1, 1) := by decide +kernel
theorem dq_PN_choose_48 : decode (fx_cc mq_PN_choose) 48 = .ok (.getfield 53, 3) := by decide +kernel
theorem dq_PN_choose_51 : decode (fx_cc mq_PN_choose) 51 = .ok (.iload_n 3, 1) := by decide +kernel
theorem dq_PN_choose_52 : decode (fx_cc mq_PN_choose) 52 = .ok (.iaload, 1) := by decide +kernel
theorem dq_PN_choose_53 : decode (fx_cc mq_PN_choose) 53 = .ok (.aaload, 1) := by decide +kernel
theorem dq_PN_choose_54 : decode (fx_cc mq_PN_choose) 54 = .ok (.invokevirtual 60, 3) := by decide +kernel
theorem dq_PN_choose_57 : decode (fx_cc mq_PN_choose) 57 = .ok (.iinc 2 1, 3) := by decide +kernel
theorem dq_PN_choose_60 : decode (fx_cc mq_PN_choose) 60 = .ok (.iinc 3 (-1), 3) := by decide +kernel
theorem dq_PN_choose_63 : decode (fx_cc mq_PN_choose) 63 = .ok (.goto (-46), 3) := by decide +kernel
theorem dq_PN_choose_66 : decode (fx_cc mq_PN_choose) 66 = .ok (.return_, 1) := by decide +kernel
theorem dq_PN_isFit_0 : decode (fx_cc mq_PN_isFit) 0 = .ok (.aload_n 1, 1) := by decide +kernel
theorem dq_PN_isFit_1 : decode (fx_cc mq_PN_isFit) 1 = .ok (.getfield 56, 3) := by decide +kernel
theorem dq_PN_isFit_4 : decode (fx_cc mq_PN_isFit) 4 = .ok (.aload_n 1, 1) := by decide +kernel
theorem dq_PN_isFit_5 : decode (fx_cc mq_PN_isFit) 5 = .ok (.getfield 53, 3) := by decide +kernel
theorem dq_PN_isFit_8 : decode (fx_cc mq_PN_isFit) 8 = .ok (.iload_n 2, 1) := by decide +kernel
theorem dq_PN_isFit_9 : decode (fx_cc mq_PN_isFit) 9 = .ok (.iaload, 1) := by decide +kernel
theorem dq_PN_isFit_10 : decode (fx_cc mq_PN_isFit) 10 = .ok (.aaload, 1) := by decide +kernel
theorem dq_PN_isFit_11 : decode (fx_cc mq_PN_isFit) 11 = .ok (.astore_n 3, 1) := by decide +kernel
theorem dq_PN_isFit_12 : decode (fx_cc mq_PN_isFit) 12 = .ok (.aload_n 3, 1) := by decide +kernel
theorem dq_PN_isFit_13 : decode (fx_cc mq_PN_isFit) 13 = .ok (.getfield 64, 3) := by decide +kernel
theorem dq_PN_isFit_16 : decode (fx_cc mq_PN_isFit) 16 = .ok (.bipush 16, 2) := by decide +kernel
theorem dq_PN_isFit_18 : decode (fx_cc mq_PN_isFit) 18 = .ok (.if_icmp .ne 25, 3) := by decide +kernel
theorem dq_PN_isFit_21 : decode (fx_cc mq_PN_isFit) 21 = .ok (.aload_n 3, 1) := by decide +kernel
theorem dq_PN_isFit_22 : decode (fx_cc mq_PN_isFit) 22 = .ok (.getfield 69, 3) := by decide +kernel
theorem dq_PN_isFit_25 : decode (fx_cc mq_PN_isFit) 25 = .ok (.invokevirtual 72, 3) := by decide +kernel
theorem dq_PN_isFit_28 : decode (fx_cc mq_PN_isFit) 28 = .ok (.ifCond .ne 15, 3) := by decide +kernel
theorem dq_PN_isFit_31 : decode (fx_cc mq_PN_isFit) 31 = .ok (.aload_n 3, 1) := by decide +kernel
theorem dq_PN_isFit_32 : decode (fx_cc mq_PN_isFit) 32 = .ok (.getfield 69, 3) := by decide +kernel
theorem dq_PN_isFit_35 : decode (fx_cc mq_PN_isFit) 35 = .ok (.invokevirtual 76, 3) := by decide +kernel
theorem dq_PN_isFit_38 : decode (fx_cc mq_PN_isFit) 38 = .ok (.bipush 24, 2) := by decide +kernel
theorem dq_PN_isFit_40 : decode (fx_cc mq_PN_isFit) 40 = .ok (.if_icmp .le 5, 3) := by decide +kernel
theorem dq_PN_isFit_43 : decode (fx_cc mq_PN_isFit) 43 = .ok (.iconst 0, 1) := by decide +kernel
theorem dq_PN_isFit_44 : decode (fx_cc mq_PN_isFit) 44 = .ok (.ireturn, 1) := by decide +kernel
theorem dq_PN_isFit_45 : decode (fx_cc mq_PN_isFit) 45 = .ok (.iload_n 2, 1) := by decide +kernel
theorem dq_PN_isFit_46 : decode (fx_cc mq_PN_isFit) 46 = .ok (.iconst 1, 1) := by decide +kernel
theorem dq_PN_isFit_47 : decode (fx_cc mq_PN_isFit) 47 = .ok (.iadd, 1) := by decide +kernel
theorem dq_PN_isFit_48 : decode (fx_cc mq_PN_isFit) 48 = .ok (.istore 4, 2) := by decide +kernel
theorem dq_PN_isFit_50 : decode (fx_cc mq_PN_isFit) 50 = .ok (.iload 4, 2) := by decide +kernel
theorem dq_PN_isFit_52 : decode (fx_cc mq_PN_isFit) 52 = .ok (.aload_n 1, 1) := by decide +kernel
theorem dq_PN_isFit_53 : decode (fx_cc mq_PN_isFit) 53 = .ok (.getfield 43, 3) := by decide +kernel
theorem dq_PN_isFit_56 : decode (fx_cc mq_PN_isFit) 56 = .ok (.if_icmp .ge 36, 3) := by decide +kernel
theorem dq_PN_isFit_59 : decode (fx_cc mq_PN_isFit) 59 = .ok (.aload_n 3, 1) := by decide +kernel
theorem dq_PN_isFit_60 : decode (fx_cc mq_PN_isFit) 60 = .ok (.getfield 69, 3) := by decide +kernel
theorem dq_PN_isFit_63 : decode (fx_cc mq_PN_isFit) 63 = .ok (.aload_n 1, 1) := by decide +kernel
theorem dq_PN_isFit_64 : decode (fx_cc mq_PN_isFit) 64 = .ok (.getfield 56, 3) := by decide +kernel
theorem dq_PN_isFit_67 : decode (fx_cc mq_PN_isFit) 67 = .ok (.aload_n 1, 1) := by decide +kernel
theorem dq_PN_isFit_68 : decode (fx_cc mq_PN_isFit) 68 = .ok (.getfield 53, 3) := by decide +kernel
theorem dq_PN_isFit_71 : decode (fx_cc mq_PN_isFit) 71 = .ok (.iload 4, 2) := by decide +kernel
theorem dq_PN_isFit_73 : decode (fx_cc mq_PN_isFit) 73 = .ok (.iaload, 1) := by decide +kernel
theorem dq_PN_isFit_74 : decode (fx_cc mq_PN_isFit) 74 = .ok (.aaload, 1) := by decide +kernel
theorem dq_PN_isFit_75 : decode (fx_cc mq_PN_isFit) 75 = .ok (.getfield 69, 3) := by decide +kernel
theorem dq_PN_isFit_78 : decode (fx_cc mq_PN_isFit) 78 = .ok (.invokevirtual 80, 3) := by decide +kernel
theorem dq_PN_isFit_81 : decode (fx_cc mq_PN_isFit) 81 = .ok (.ifCond .eq 5, 3) := by decide +kernel
theorem dq_PN_isFit_84 : decode (fx_cc mq_PN_isFit) 84 = .ok (.iconst 0, 1) := by decide +kernel
theorem dq_PN_isFit_85 : decode (fx_cc mq_PN_isFit) 85 = .ok (.ireturn, 1) := by decide +kernel
theorem dq_PN_isFit_86 : decode (fx_cc mq_PN_isFit) 86 = .ok (.iinc 4 1, 3) := by decide +kernel
theorem dq_PN_isFit_89 : decode (fx_cc mq_PN_isFit) 89 = .ok (.goto (-39), 3) := by decide +kernel
theorem dq_PN_isFit_92 : decode (fx_cc mq_PN_isFit) 92 = .ok (.iconst 1, 1) := by decide +kernel
theorem dq_PN_isFit_93 : decode (fx_cc mq_PN_isFit) 93 = .ok (.ireturn, 1) := by decide +kernel
theorem dq_RE_isEmpty_0 : decode (fx_cc mq_RE_isEmpty) 0 = .ok (.aload_n 0, 1) := by decide +kernel
theorem dq_RE_isEmpty_1 : decode (fx_cc mq_RE_isEmpty) 1 = .ok (.getfield 16, 3) := by decide +kernel
theorem dq_RE_isEmpty_4 : decode (fx_cc mq_RE_isEmpty) 4 = .ok (.ifCond .eq 10, 3) := by decide +kernel
theorem dq_RE_isEmpty_7 : decode (fx_cc mq_RE_isEmpty) 7 = .ok (.aload_n 0, 1) := by decide +kernel
theorem dq_RE_isEmpty_8 : decode (fx_cc mq_RE_isEmpty) 8 = .ok (.getfield 19, 3) := by decide +kernel
theorem dq_RE_isEmpty_11 : decode (fx_cc mq_RE_isEmpty) 11 = .ok (.ifCond .ne 7, 3) := by decide +kernel
theorem dq_RE_isEmpty_14 : decode (fx_cc mq_RE_isEmpty) 14 = .ok (.iconst 1, 1) := by decide +kernel
theorem dq_RE_isEmpty_15 : decode (fx_cc mq_RE_isEmpty) 15 = .ok (.goto 4, 3) := by decide +kernel
theorem dq_RE_isEmpty_18 : decode (fx_cc mq_RE_isEmpty) 18 = .ok (.iconst 0, 1) := by decide +kernel
theorem dq_RE_isEmpty_19 : decode (fx_cc mq_RE_isEmpty) 19 = .ok (.ireturn, 1) := by decide +kernel
theorem dq_RE_meets_0 : decode (fx_cc mq_RE_meets) 0 = .ok (.aload_n 0, 1) := by decide +kernel
theorem dq_RE_meets_1 : decode (fx_cc mq_RE_meets) 1 = .ok (.getfield 7, 3) := by decide +kernel
theorem dq_RE_meets_4 : decode (fx_cc mq_RE_meets) 4 = .ok (.aload_n 1, 1) := by decide +kernel
theorem dq_RE_meets_5 : decode (fx_cc mq_RE_meets) 5 = .ok (.getfield 7, 3) := by decide +kernel
theorem dq_RE_meets_8 : decode (fx_cc mq_RE_meets) 8 = .ok (.invokestatic 32, 3) := by decide +kernel
theorem dq_RE_meets_11 : decode (fx_cc mq_RE_meets) 11 = .ok (.aload_n 0, 1) := by decide +kernel
theorem dq_RE_meets_12 : decode (fx_cc mq_RE_meets) 12 = .ok (.getfield 7, 3) := by decide +kernel
theorem dq_RE_meets_15 : decode (fx_cc mq_RE_meets) 15 = .ok (.aload_n 0, 1) := by decide +kernel
theorem dq_RE_meets_16 : decode (fx_cc mq_RE_meets) 16 = .ok (.getfield 16, 3) := by decide +kernel
theorem dq_RE_meets_19 : decode (fx_cc mq_RE_meets) 19 = .ok (.iadd, 1) := by decide +kernel
theorem dq_RE_meets_20 : decode (fx_cc mq_RE_meets) 20 = .ok (.aload_n 1, 1) := by decide +kernel
theorem dq_RE_meets_21 : decode (fx_cc mq_RE_meets) 21 = .ok (.getfield 7, 3) := by decide +kernel
theorem dq_RE_meets_24 : decode (fx_cc mq_RE_meets) 24 = .ok (.aload_n 1, 1) := by decide +kernel
theorem dq_RE_meets_25 : decode (fx_cc mq_RE_meets) 25 = .ok (.getfield 16, 3) := by decide +kernel
theorem dq_RE_meets_28 : decode (fx_cc mq_RE_meets) 28 = .ok (.iadd, 1) := by decide +kernel
theorem dq_RE_meets_29 : decode (fx_cc mq_RE_meets) 29 = .ok (.invokestatic 26, 3) := by decide +kernel
theorem dq_RE_meets_32 : decode (fx_cc mq_RE_meets) 32 = .ok (.if_icmp .ge 42, 3) := by decide +kernel
theorem dq_RE_meets_35 : decode (fx_cc mq_RE_meets) 35 = .ok (.aload_n 0, 1) := by decide +kernel
theorem dq_RE_meets_36 : decode (fx_cc mq_RE_meets) 36 = .ok (.getfield 13, 3) := by decide +kernel
theorem dq_RE_meets_39 : decode (fx_cc mq_RE_meets) 39 = .ok (.aload_n 1, 1) := by decide +kernel
theorem dq_RE_meets_40 : decode (fx_cc mq_RE_meets) 40 = .ok (.getfield 13, 3) := by decide +kernel
theorem dq_RE_meets_43 : decode (fx_cc mq_RE_meets) 43 = .ok (.invokestatic 32, 3) := by decide +kernel
theorem dq_RE_meets_46 : decode (fx_cc mq_RE_meets) 46 = .ok (.aload_n 0, 1) := by decide +kernel
theorem dq_RE_meets_47 : decode (fx_cc mq_RE_meets) 47 = .ok (.getfield 13, 3) := by decide +kernel
theorem dq_RE_meets_50 : decode (fx_cc mq_RE_meets) 50 = .ok (.aload_n 0, 1) := by decide +kernel
theorem dq_RE_meets_51 : decode (fx_cc mq_RE_meets) 51 = .ok (.getfield 19, 3) := by decide +kernel
theorem dq_RE_meets_54 : decode (fx_cc mq_RE_meets) 54 = .ok (.iadd, 1) := by decide +kernel
theorem dq_RE_meets_55 : decode (fx_cc mq_RE_meets) 55 = .ok (.aload_n 1, 1) := by decide +kernel
theorem dq_RE_meets_56 : decode (fx_cc mq_RE_meets) 56 = .ok (.getfield 13, 3) := by decide +kernel
theorem dq_RE_meets_59 : decode (fx_cc mq_RE_meets) 59 = .ok (.aload_n 1, 1) := by decide +kernel
theorem dq_RE_meets_60 : decode (fx_cc mq_RE_meets) 60 = .ok (.getfield 19, 3) := by decide +kernel
theorem dq_RE_meets_63 : decode (fx_cc mq_RE_meets) 63 = .ok (.iadd, 1) := by decide +kernel
theorem dq_RE_meets_64 : decode (fx_cc mq_RE_meets) 64 = .ok (.invokestatic 26, 3) := by decide +kernel
theorem dq_RE_meets_67 : decode (fx_cc mq_RE_meets) 67 = .ok (.if_icmp .ge 7, 3) := by decide +kernel
theorem dq_RE_meets_70 : decode (fx_cc mq_RE_meets) 70 = .ok (.iconst 1, 1) := by decide +kernel
theorem dq_RE_meets_71 : decode (fx_cc mq_RE_meets) 71 = .ok (.goto 4, 3) := by decide +kernel
theorem dq_RE_meets_74 : decode (fx_cc mq_RE_meets) 74 = .ok (.iconst 0, 1) := by decide +kernel
theorem dq_RE_meets_75 : decode (fx_cc mq_RE_meets) 75 = .ok (.ireturn, 1) := by decide +kernel
theorem dq_PN_give_0 : decode (fx_cc mq_PN_give) 0 = .ok (.aload_n 0, 1) := by decide +kernel
theorem dq_PN_give_1 : decode (fx_cc mq_PN_give) 1 = .ok (.getfield 9, 3) := by decide +kernel
theorem dq_PN_give_4 : decode (fx_cc mq_PN_give) 4 = .ok (.iload_n 1, 1) := by decide +kernel
theorem dq_PN_give_5 : decode (fx_cc mq_PN_give) 5 = .ok (.iload_n 2, 1) := by decide +kernel
theorem dq_PN_give_6 : decode (fx_cc mq_PN_give) 6 = .ok (.iastore, 1) := by decide +kernel
theorem dq_PN_give_7 : decode (fx_cc mq_PN_give) 7 = .ok (.aload_n 0, 1) := by decide +kernel
theorem dq_PN_give_8 : decode (fx_cc mq_PN_give) 8 = .ok (.getfield 18, 3) := by decide +kernel
theorem dq_PN_give_11 : decode (fx_cc mq_PN_give) 11 = .ok (.iload_n 1, 1) := by decide +kernel
theorem dq_PN_give_12 : decode (fx_cc mq_PN_give) 12 = .ok (.aaload, 1) := by decide +kernel
theorem dq_PN_give_13 : decode (fx_cc mq_PN_give) 13 = .ok (.astore 4, 2) := by decide +kernel
theorem dq_PN_give_15 : decode (fx_cc mq_PN_give) 15 = .ok (.aload 4, 2) := by decide +kernel
theorem dq_PN_give_17 : decode (fx_cc mq_PN_give) 17 = .ok (.aload_n 3, 1) := by decide +kernel
theorem dq_PN_give_18 : decode (fx_cc mq_PN_give) 18 = .ok (.getfield 69, 3) := by decide +kernel
theorem dq_PN_give_21 : decode (fx_cc mq_PN_give) 21 = .ok (.invokevirtual 27, 3) := by decide +kernel
theorem dq_PN_give_24 : decode (fx_cc mq_PN_give) 24 = .ok (.iconst 0, 1) := by decide +kernel
theorem dq_PN_give_25 : decode (fx_cc mq_PN_give) 25 = .ok (.istore 5, 2) := by decide +kernel
theorem dq_PN_give_27 : decode (fx_cc mq_PN_give) 27 = .ok (.aload 4, 2) := by decide +kernel
theorem dq_PN_give_29 : decode (fx_cc mq_PN_give) 29 = .ok (.getfield 84, 3) := by decide +kernel
theorem dq_PN_give_32 : decode (fx_cc mq_PN_give) 32 = .ok (.istore 6, 2) := by decide +kernel
theorem dq_PN_give_34 : decode (fx_cc mq_PN_give) 34 = .ok (.iload 6, 2) := by decide +kernel
theorem dq_PN_give_36 : decode (fx_cc mq_PN_give) 36 = .ok (.aload 4, 2) := by decide +kernel
theorem dq_PN_give_38 : decode (fx_cc mq_PN_give) 38 = .ok (.getfield 84, 3) := by decide +kernel
theorem dq_PN_give_41 : decode (fx_cc mq_PN_give) 41 = .ok (.aload 4, 2) := by decide +kernel
theorem dq_PN_give_43 : decode (fx_cc mq_PN_give) 43 = .ok (.getfield 87, 3) := by decide +kernel
theorem dq_PN_give_46 : decode (fx_cc mq_PN_give) 46 = .ok (.iadd, 1) := by decide +kernel
theorem dq_PN_give_47 : decode (fx_cc mq_PN_give) 47 = .ok (.if_icmp .ge 58, 3) := by decide +kernel
theorem dq_PN_give_50 : decode (fx_cc mq_PN_give) 50 = .ok (.aload 4, 2) := by decide +kernel
theorem dq_PN_give_52 : decode (fx_cc mq_PN_give) 52 = .ok (.getfield 90, 3) := by decide +kernel
theorem dq_PN_give_55 : decode (fx_cc mq_PN_give) 55 = .ok (.istore 7, 2) := by decide +kernel
theorem dq_PN_give_57 : decode (fx_cc mq_PN_give) 57 = .ok (.iload 7, 2) := by decide +kernel
theorem dq_PN_give_59 : decode (fx_cc mq_PN_give) 59 = .ok (.aload 4, 2) := by decide +kernel
theorem dq_PN_give_61 : decode (fx_cc mq_PN_give) 61 = .ok (.getfield 90, 3) := by decide +kernel
theorem dq_PN_give_64 : decode (fx_cc mq_PN_give) 64 = .ok (.aload 4, 2) := by decide +kernel
theorem dq_PN_give_66 : decode (fx_cc mq_PN_give) 66 = .ok (.getfield 93, 3) := by decide +kernel
theorem dq_PN_give_69 : decode (fx_cc mq_PN_give) 69 = .ok (.iadd, 1) := by decide +kernel
theorem dq_PN_give_70 : decode (fx_cc mq_PN_give) 70 = .ok (.if_icmp .ge 29, 3) := by decide +kernel
theorem dq_PN_give_73 : decode (fx_cc mq_PN_give) 73 = .ok (.aload_n 0, 1) := by decide +kernel
theorem dq_PN_give_74 : decode (fx_cc mq_PN_give) 74 = .ok (.getfield 24, 3) := by decide +kernel
theorem dq_PN_give_77 : decode (fx_cc mq_PN_give) 77 = .ok (.iload_n 1, 1) := by decide +kernel
theorem dq_PN_give_78 : decode (fx_cc mq_PN_give) 78 = .ok (.aaload, 1) := by decide +kernel
theorem dq_PN_give_79 : decode (fx_cc mq_PN_give) 79 = .ok (.iload 5, 2) := by decide +kernel
theorem dq_PN_give_81 : decode (fx_cc mq_PN_give) 81 = .ok (.aload_n 3, 1) := by decide +kernel
theorem dq_PN_give_82 : decode (fx_cc mq_PN_give) 82 = .ok (.iload 7, 2) := by decide +kernel
theorem dq_PN_give_84 : decode (fx_cc mq_PN_give) 84 = .ok (.iload 6, 2) := by decide +kernel
theorem dq_PN_give_86 : decode (fx_cc mq_PN_give) 86 = .ok (.invokevirtual 96, 3) := by decide +kernel
theorem dq_PN_give_89 : decode (fx_cc mq_PN_give) 89 = .ok (.iastore, 1) := by decide +kernel
theorem dq_PN_give_90 : decode (fx_cc mq_PN_give) 90 = .ok (.iinc 5 1, 3) := by decide +kernel
theorem dq_PN_give_93 : decode (fx_cc mq_PN_give) 93 = .ok (.iinc 7 1, 3) := by decide +kernel
theorem dq_PN_give_96 : decode (fx_cc mq_PN_give) 96 = .ok (.goto (-39), 3) := by decide +kernel
theorem dq_PN_give_99 : decode (fx_cc mq_PN_give) 99 = .ok (.iinc 6 1, 3) := by decide +kernel
theorem dq_PN_give_102 : decode (fx_cc mq_PN_give) 102 = .ok (.goto (-68), 3) := by decide +kernel
theorem dq_PN_give_105 : decode (fx_cc mq_PN_give) 105 = .ok (.return_, 1) := by decide +kernel
theorem dq_CO_noteChanges_0 : decode (fx_cc mq_CO_noteChanges) 0 = .ok (.iconst 0, 1) := by decide +kernel
theorem dq_CO_noteChanges_1 : decode (fx_cc mq_CO_noteChanges) 1 = .ok (.istore_n 2, 1) := by decide +kernel
theorem dq_CO_noteChanges_2 : decode (fx_cc mq_CO_noteChanges) 2 = .ok (.iload_n 2, 1) := by decide +kernel
theorem dq_CO_noteChanges_3 : decode (fx_cc mq_CO_noteChanges) 3 = .ok (.bipush 10, 2) := by decide +kernel
theorem dq_CO_noteChanges_5 : decode (fx_cc mq_CO_noteChanges) 5 = .ok (.if_icmp .ge 142, 3) := by decide +kernel
theorem dq_CO_noteChanges_8 : decode (fx_cc mq_CO_noteChanges) 8 = .ok (.aload_n 0, 1) := by decide +kernel
theorem dq_CO_noteChanges_9 : decode (fx_cc mq_CO_noteChanges) 9 = .ok (.getfield 21, 3) := by decide +kernel
theorem dq_CO_noteChanges_12 : decode (fx_cc mq_CO_noteChanges) 12 = .ok (.iload_n 2, 1) := by decide +kernel
theorem dq_CO_noteChanges_13 : decode (fx_cc mq_CO_noteChanges) 13 = .ok (.invokevirtual 82, 3) := by decide +kernel
theorem dq_CO_noteChanges_16 : decode (fx_cc mq_CO_noteChanges) 16 = .ok (.istore_n 3, 1) := by decide +kernel
theorem dq_CO_noteChanges_17 : decode (fx_cc mq_CO_noteChanges) 17 = .ok (.aload_n 1, 1) := by decide +kernel
theorem dq_CO_noteChanges_18 : decode (fx_cc mq_CO_noteChanges) 18 = .ok (.iload_n 2, 1) := by decide +kernel
theorem dq_CO_noteChanges_19 : decode (fx_cc mq_CO_noteChanges) 19 = .ok (.invokevirtual 99, 3) := by decide +kernel
theorem dq_CO_noteChanges_22 : decode (fx_cc mq_CO_noteChanges) 22 = .ok (.ifCond .ne 13, 3) := by decide +kernel
theorem dq_CO_noteChanges_25 : decode (fx_cc mq_CO_noteChanges) 25 = .ok (.iload_n 3, 1) := by decide +kernel
theorem dq_CO_noteChanges_26 : decode (fx_cc mq_CO_noteChanges) 26 = .ok (.aload_n 0, 1) := by decide +kernel
theorem dq_CO_noteChanges_27 : decode (fx_cc mq_CO_noteChanges) 27 = .ok (.getfield 25, 3) := by decide +kernel
theorem dq_CO_noteChanges_30 : decode (fx_cc mq_CO_noteChanges) 30 = .ok (.iload_n 2, 1) := by decide +kernel
theorem dq_CO_noteChanges_31 : decode (fx_cc mq_CO_noteChanges) 31 = .ok (.baload, 1) := by decide +kernel
theorem dq_CO_noteChanges_32 : decode (fx_cc mq_CO_noteChanges) 32 = .ok (.if_icmp .eq 7, 3) := by decide +kernel
theorem dq_CO_noteChanges_35 : decode (fx_cc mq_CO_noteChanges) 35 = .ok (.iconst 1, 1) := by decide +kernel
theorem dq_CO_noteChanges_36 : decode (fx_cc mq_CO_noteChanges) 36 = .ok (.goto 4, 3) := by decide +kernel
theorem dq_CO_noteChanges_39 : decode (fx_cc mq_CO_noteChanges) 39 = .ok (.iconst 0, 1) := by decide +kernel
theorem dq_CO_noteChanges_40 : decode (fx_cc mq_CO_noteChanges) 40 = .ok (.istore 4, 2) := by decide +kernel
theorem dq_CO_noteChanges_42 : decode (fx_cc mq_CO_noteChanges) 42 = .ok (.iload 4, 2) := by decide +kernel
theorem dq_CO_noteChanges_44 : decode (fx_cc mq_CO_noteChanges) 44 = .ok (.ifCond .eq 44, 3) := by decide +kernel
theorem dq_CO_noteChanges_47 : decode (fx_cc mq_CO_noteChanges) 47 = .ok (.aload_n 0, 1) := by decide +kernel
theorem dq_CO_noteChanges_48 : decode (fx_cc mq_CO_noteChanges) 48 = .ok (.getfield 25, 3) := by decide +kernel
theorem dq_CO_noteChanges_51 : decode (fx_cc mq_CO_noteChanges) 51 = .ok (.iload_n 2, 1) := by decide +kernel
theorem dq_CO_noteChanges_52 : decode (fx_cc mq_CO_noteChanges) 52 = .ok (.baload, 1) := by decide +kernel
theorem dq_CO_noteChanges_53 : decode (fx_cc mq_CO_noteChanges) 53 = .ok (.ifCond .ne 35, 3) := by decide +kernel
theorem dq_CO_noteChanges_56 : decode (fx_cc mq_CO_noteChanges) 56 = .ok (.aload_n 0, 1) := by decide +kernel
theorem dq_CO_noteChanges_57 : decode (fx_cc mq_CO_noteChanges) 57 = .ok (.getfield 38, 3) := by decide +kernel
theorem dq_CO_noteChanges_60 : decode (fx_cc mq_CO_noteChanges) 60 = .ok (.getfield 102, 3) := by decide +kernel
theorem dq_CO_noteChanges_63 : decode (fx_cc mq_CO_noteChanges) 63 = .ok (.aload_n 0, 1) := by decide +kernel
theorem dq_CO_noteChanges_64 : decode (fx_cc mq_CO_noteChanges) 64 = .ok (.getfield 31, 3) := by decide +kernel
theorem dq_CO_noteChanges_67 : decode (fx_cc mq_CO_noteChanges) 67 = .ok (.iload_n 2, 1) := by decide +kernel
theorem dq_CO_noteChanges_68 : decode (fx_cc mq_CO_noteChanges) 68 = .ok (.aaload, 1) := by decide +kernel
theorem dq_CO_noteChanges_69 : decode (fx_cc mq_CO_noteChanges) 69 = .ok (.invokevirtual 106, 3) := by decide +kernel
theorem dq_CO_noteChanges_72 : decode (fx_cc mq_CO_noteChanges) 72 = .ok (.aload_n 0, 1) := by decide +kernel
theorem dq_CO_noteChanges_73 : decode (fx_cc mq_CO_noteChanges) 73 = .ok (.getfield 42, 3) := by decide +kernel
theorem dq_CO_noteChanges_76 : decode (fx_cc mq_CO_noteChanges) 76 = .ok (.getfield 102, 3) := by decide +kernel
theorem dq_CO_noteChanges_79 : decode (fx_cc mq_CO_noteChanges) 79 = .ok (.aload_n 0, 1) := by decide +kernel
theorem dq_CO_noteChanges_80 : decode (fx_cc mq_CO_noteChanges) 80 = .ok (.getfield 31, 3) := by decide +kernel
theorem dq_CO_noteChanges_83 : decode (fx_cc mq_CO_noteChanges) 83 = .ok (.iload_n 2, 1) := by decide +kernel
theorem dq_CO_noteChanges_84 : decode (fx_cc mq_CO_noteChanges) 84 = .ok (.aaload, 1) := by decide +kernel
theorem dq_CO_noteChanges_85 : decode (fx_cc mq_CO_noteChanges) 85 = .ok (.invokevirtual 106, 3) := by decide +kernel
theorem dq_CO_noteChanges_88 : decode (fx_cc mq_CO_noteChanges) 88 = .ok (.iload 4, 2) := by decide +kernel
theorem dq_CO_noteChanges_90 : decode (fx_cc mq_CO_noteChanges) 90 = .ok (.ifCond .eq 51, 3) := by decide +kernel
theorem dq_CO_noteChanges_93 : decode (fx_cc mq_CO_noteChanges) 93 = .ok (.iload_n 3, 1) := by decide +kernel
theorem dq_CO_noteChanges_94 : decode (fx_cc mq_CO_noteChanges) 94 = .ok (.ifCond .ne 47, 3) := by decide +kernel
theorem dq_CO_noteChanges_97 : decode (fx_cc mq_CO_noteChanges) 97 = .ok (.aload_n 0, 1) := by decide +kernel
theorem dq_CO_noteChanges_98 : decode (fx_cc mq_CO_noteChanges) 98 = .ok (.getfield 38, 3) := by decide +kernel
theorem dq_CO_noteChanges_101 : decode (fx_cc mq_CO_noteChanges) 101 = .ok (.getfield 102, 3) := by decide +kernel
theorem dq_CO_noteChanges_104 : decode (fx_cc mq_CO_noteChanges) 104 = .ok (.aload_n 0, 1) := by decide +kernel
theorem dq_CO_noteChanges_105 : decode (fx_cc mq_CO_noteChanges) 105 = .ok (.getfield 12, 3) := by decide +kernel
theorem dq_CO_noteChanges_108 : decode (fx_cc mq_CO_noteChanges) 108 = .ok (.getfield 86, 3) := by decide +kernel
theorem dq_CO_noteChanges_111 : decode (fx_cc mq_CO_noteChanges) 111 = .ok (.iload_n 2, 1) := by decide +kernel
theorem dq_CO_noteChanges_112 : decode (fx_cc mq_CO_noteChanges) 112 = .ok (.aaload, 1) := by decide +kernel
theorem dq_CO_noteChanges_113 : decode (fx_cc mq_CO_noteChanges) 113 = .ok (.getfield 90, 3) := by decide +kernel
theorem dq_CO_noteChanges_116 : decode (fx_cc mq_CO_noteChanges) 116 = .ok (.invokevirtual 106, 3) := by decide +kernel
theorem dq_CO_noteChanges_119 : decode (fx_cc mq_CO_noteChanges) 119 = .ok (.aload_n 0, 1) := by decide +kernel
theorem dq_CO_noteChanges_120 : decode (fx_cc mq_CO_noteChanges) 120 = .ok (.getfield 42, 3) := by decide +kernel
theorem dq_CO_noteChanges_123 : decode (fx_cc mq_CO_noteChanges) 123 = .ok (.getfield 102, 3) := by decide +kernel
theorem dq_CO_noteChanges_126 : decode (fx_cc mq_CO_noteChanges) 126 = .ok (.aload_n 0, 1) := by decide +kernel
theorem dq_CO_noteChanges_127 : decode (fx_cc mq_CO_noteChanges) 127 = .ok (.getfield 12, 3) := by decide +kernel
theorem dq_CO_noteChanges_130 : decode (fx_cc mq_CO_noteChanges) 130 = .ok (.getfield 86, 3) := by decide +kernel
theorem dq_CO_noteChanges_133 : decode (fx_cc mq_CO_noteChanges) 133 = .ok (.iload_n 2, 1) := by decide +kernel
theorem dq_CO_noteChanges_134 : decode (fx_cc mq_CO_noteChanges) 134 = .ok (.aaload, 1) := by decide +kernel
theorem dq_CO_noteChanges_135 : decode (fx_cc mq_CO_noteChanges) 135 = .ok (.getfield 90, 3) := by decide +kernel
theorem dq_CO_noteChanges_138 : decode (fx_cc mq_CO_noteChanges) 138 = .ok (.invokevirtual 106, 3) := by decide +kernel
theorem dq_CO_noteChanges_141 : decode (fx_cc mq_CO_noteChanges) 141 = .ok (.iinc 2 1, 3) := by decide +kernel
theorem dq_CO_noteChanges_144 : decode (fx_cc mq_CO_noteChanges) 144 = .ok (.goto (-142), 3) := by decide +kernel
theorem dq_CO_noteChanges_147 : decode (fx_cc mq_CO_noteChanges) 147 = .ok (.return_, 1) := by decide +kernel
theorem dq_DE_isWaiting_0 : decode (fx_cc mq_DE_isWaiting) 0 = .ok (.aload_n 0, 1) := by decide +kernel
theorem dq_DE_isWaiting_1 : decode (fx_cc mq_DE_isWaiting) 1 = .ok (.getfield 24, 3) := by decide +kernel
theorem dq_DE_isWaiting_4 : decode (fx_cc mq_DE_isWaiting) 4 = .ok (.iload_n 1, 1) := by decide +kernel
theorem dq_DE_isWaiting_5 : decode (fx_cc mq_DE_isWaiting) 5 = .ok (.iaload, 1) := by decide +kernel
theorem dq_DE_isWaiting_6 : decode (fx_cc mq_DE_isWaiting) 6 = .ok (.iconst (-1), 1) := by decide +kernel
theorem dq_DE_isWaiting_7 : decode (fx_cc mq_DE_isWaiting) 7 = .ok (.if_icmp .eq 21, 3) := by decide +kernel
theorem dq_DE_isWaiting_10 : decode (fx_cc mq_DE_isWaiting) 10 = .ok (.aload_n 0, 1) := by decide +kernel
theorem dq_DE_isWaiting_11 : decode (fx_cc mq_DE_isWaiting) 11 = .ok (.getfield 32, 3) := by decide +kernel
theorem dq_DE_isWaiting_14 : decode (fx_cc mq_DE_isWaiting) 14 = .ok (.aload_n 0, 1) := by decide +kernel
theorem dq_DE_isWaiting_15 : decode (fx_cc mq_DE_isWaiting) 15 = .ok (.getfield 24, 3) := by decide +kernel
theorem dq_DE_isWaiting_18 : decode (fx_cc mq_DE_isWaiting) 18 = .ok (.iload_n 1, 1) := by decide +kernel
theorem dq_DE_isWaiting_19 : decode (fx_cc mq_DE_isWaiting) 19 = .ok (.iaload, 1) := by decide +kernel
theorem dq_DE_isWaiting_20 : decode (fx_cc mq_DE_isWaiting) 20 = .ok (.baload, 1) := by decide +kernel
theorem dq_DE_isWaiting_21 : decode (fx_cc mq_DE_isWaiting) 21 = .ok (.ifCond .eq 7, 3) := by decide +kernel
theorem dq_DE_isWaiting_24 : decode (fx_cc mq_DE_isWaiting) 24 = .ok (.iconst 1, 1) := by decide +kernel
theorem dq_DE_isWaiting_25 : decode (fx_cc mq_DE_isWaiting) 25 = .ok (.goto 4, 3) := by decide +kernel
theorem dq_DE_isWaiting_28 : decode (fx_cc mq_DE_isWaiting) 28 = .ok (.iconst 0, 1) := by decide +kernel
theorem dq_DE_isWaiting_29 : decode (fx_cc mq_DE_isWaiting) 29 = .ok (.ireturn, 1) := by decide +kernel
theorem dq_MI_add_0 : decode (fx_cc mq_MI_add) 0 = .ok (.aload_n 1, 1) := by decide +kernel
theorem dq_MI_add_1 : decode (fx_cc mq_MI_add) 1 = .ok (.invokevirtual 18, 3) := by decide +kernel
theorem dq_MI_add_4 : decode (fx_cc mq_MI_add) 4 = .ok (.ifCond .ne 11, 3) := by decide +kernel
theorem dq_MI_add_7 : decode (fx_cc mq_MI_add) 7 = .ok (.aload_n 0, 1) := by decide +kernel
theorem dq_MI_add_8 : decode (fx_cc mq_MI_add) 8 = .ok (.aload_n 1, 1) := by decide +kernel
theorem dq_MI_add_9 : decode (fx_cc mq_MI_add) 9 = .ok (.invokevirtual 22, 3) := by decide +kernel
theorem dq_MI_add_12 : decode (fx_cc mq_MI_add) 12 = .ok (.ifCond .eq 4, 3) := by decide +kernel
theorem dq_MI_add_15 : decode (fx_cc mq_MI_add) 15 = .ok (.return_, 1) := by decide +kernel
theorem dq_MI_add_16 : decode (fx_cc mq_MI_add) 16 = .ok (.aload_n 0, 1) := by decide +kernel
theorem dq_MI_add_17 : decode (fx_cc mq_MI_add) 17 = .ok (.getfield 11, 3) := by decide +kernel
theorem dq_MI_add_20 : decode (fx_cc mq_MI_add) 20 = .ok (.aload_n 0, 1) := by decide +kernel
theorem dq_MI_add_21 : decode (fx_cc mq_MI_add) 21 = .ok (.getfield 26, 3) := by decide +kernel
theorem dq_MI_add_24 : decode (fx_cc mq_MI_add) 24 = .ok (.aaload, 1) := by decide +kernel
theorem dq_MI_add_25 : decode (fx_cc mq_MI_add) 25 = .ok (.aload_n 1, 1) := by decide +kernel
theorem dq_MI_add_26 : decode (fx_cc mq_MI_add) 26 = .ok (.invokevirtual 30, 3) := by decide +kernel
theorem dq_MI_add_29 : decode (fx_cc mq_MI_add) 29 = .ok (.aload_n 0, 1) := by decide +kernel
theorem dq_MI_add_30 : decode (fx_cc mq_MI_add) 30 = .ok (.dup, 1) := by decide +kernel
theorem dq_MI_add_31 : decode (fx_cc mq_MI_add) 31 = .ok (.getfield 26, 3) := by decide +kernel
theorem dq_MI_add_34 : decode (fx_cc mq_MI_add) 34 = .ok (.iconst 1, 1) := by decide +kernel
theorem dq_MI_add_35 : decode (fx_cc mq_MI_add) 35 = .ok (.iadd, 1) := by decide +kernel
theorem dq_MI_add_36 : decode (fx_cc mq_MI_add) 36 = .ok (.putfield 26, 3) := by decide +kernel
theorem dq_MI_add_39 : decode (fx_cc mq_MI_add) 39 = .ok (.aload_n 0, 1) := by decide +kernel
theorem dq_MI_add_40 : decode (fx_cc mq_MI_add) 40 = .ok (.getfield 26, 3) := by decide +kernel
theorem dq_MI_add_43 : decode (fx_cc mq_MI_add) 43 = .ok (.bipush 6, 2) := by decide +kernel
theorem dq_MI_add_45 : decode (fx_cc mq_MI_add) 45 = .ok (.if_icmp .le 7, 3) := by decide +kernel
theorem dq_MI_add_48 : decode (fx_cc mq_MI_add) 48 = .ok (.aload_n 0, 1) := by decide +kernel
theorem dq_MI_add_49 : decode (fx_cc mq_MI_add) 49 = .ok (.invokevirtual 34, 3) := by decide +kernel
theorem dq_MI_add_52 : decode (fx_cc mq_MI_add) 52 = .ok (.return_, 1) := by decide +kernel
theorem dq_MI_isCovered_0 : decode (fx_cc mq_MI_isCovered) 0 = .ok (.iconst 0, 1) := by decide +kernel
theorem dq_MI_isCovered_1 : decode (fx_cc mq_MI_isCovered) 1 = .ok (.istore_n 2, 1) := by decide +kernel
theorem dq_MI_isCovered_2 : decode (fx_cc mq_MI_isCovered) 2 = .ok (.iload_n 2, 1) := by decide +kernel
theorem dq_MI_isCovered_3 : decode (fx_cc mq_MI_isCovered) 3 = .ok (.aload_n 0, 1) := by decide +kernel
theorem dq_MI_isCovered_4 : decode (fx_cc mq_MI_isCovered) 4 = .ok (.getfield 26, 3) := by decide +kernel
theorem dq_MI_isCovered_7 : decode (fx_cc mq_MI_isCovered) 7 = .ok (.if_icmp .ge 24, 3) := by decide +kernel
theorem dq_MI_isCovered_10 : decode (fx_cc mq_MI_isCovered) 10 = .ok (.aload_n 0, 1) := by decide +kernel
theorem dq_MI_isCovered_11 : decode (fx_cc mq_MI_isCovered) 11 = .ok (.getfield 11, 3) := by decide +kernel
theorem dq_MI_isCovered_14 : decode (fx_cc mq_MI_isCovered) 14 = .ok (.iload_n 2, 1) := by decide +kernel
theorem dq_MI_isCovered_15 : decode (fx_cc mq_MI_isCovered) 15 = .ok (.aaload, 1) := by decide +kernel
theorem dq_MI_isCovered_16 : decode (fx_cc mq_MI_isCovered) 16 = .ok (.aload_n 1, 1) := by decide +kernel
theorem dq_MI_isCovered_17 : decode (fx_cc mq_MI_isCovered) 17 = .ok (.invokevirtual 37, 3) := by decide +kernel
theorem dq_MI_isCovered_20 : decode (fx_cc mq_MI_isCovered) 20 = .ok (.ifCond .eq 5, 3) := by decide +kernel
theorem dq_MI_isCovered_23 : decode (fx_cc mq_MI_isCovered) 23 = .ok (.iconst 1, 1) := by decide +kernel
theorem dq_MI_isCovered_24 : decode (fx_cc mq_MI_isCovered) 24 = .ok (.ireturn, 1) := by decide +kernel
theorem dq_MI_isCovered_25 : decode (fx_cc mq_MI_isCovered) 25 = .ok (.iinc 2 1, 3) := by decide +kernel
theorem dq_MI_isCovered_28 : decode (fx_cc mq_MI_isCovered) 28 = .ok (.goto (-26), 3) := by decide +kernel
theorem dq_MI_isCovered_31 : decode (fx_cc mq_MI_isCovered) 31 = .ok (.iconst 0, 1) := by decide +kernel
theorem dq_MI_isCovered_32 : decode (fx_cc mq_MI_isCovered) 32 = .ok (.ireturn, 1) := by decide +kernel
theorem dq_RE_contains_0 : decode (fx_cc mq_RE_contains) 0 = .ok (.aload_n 1, 1) := by decide +kernel
theorem dq_RE_contains_1 : decode (fx_cc mq_RE_contains) 1 = .ok (.getfield 7, 3) := by decide +kernel
theorem dq_RE_contains_4 : decode (fx_cc mq_RE_contains) 4 = .ok (.aload_n 0, 1) := by decide +kernel
theorem dq_RE_contains_5 : decode (fx_cc mq_RE_contains) 5 = .ok (.getfield 7, 3) := by decide +kernel
theorem dq_RE_contains_8 : decode (fx_cc mq_RE_contains) 8 = .ok (.if_icmp .lt 60, 3) := by decide +kernel
theorem dq_RE_contains_11 : decode (fx_cc mq_RE_contains) 11 = .ok (.aload_n 1, 1) := by decide +kernel
theorem dq_RE_contains_12 : decode (fx_cc mq_RE_contains) 12 = .ok (.getfield 7, 3) := by decide +kernel
theorem dq_RE_contains_15 : decode (fx_cc mq_RE_contains) 15 = .ok (.aload_n 1, 1) := by decide +kernel
theorem dq_RE_contains_16 : decode (fx_cc mq_RE_contains) 16 = .ok (.getfield 16, 3) := by decide +kernel
theorem dq_RE_contains_19 : decode (fx_cc mq_RE_contains) 19 = .ok (.iadd, 1) := by decide +kernel
theorem dq_RE_contains_20 : decode (fx_cc mq_RE_contains) 20 = .ok (.aload_n 0, 1) := by decide +kernel
theorem dq_RE_contains_21 : decode (fx_cc mq_RE_contains) 21 = .ok (.getfield 7, 3) := by decide +kernel
theorem dq_RE_contains_24 : decode (fx_cc mq_RE_contains) 24 = .ok (.aload_n 0, 1) := by decide +kernel
theorem dq_RE_contains_25 : decode (fx_cc mq_RE_contains) 25 = .ok (.getfield 16, 3) := by decide +kernel
theorem dq_RE_contains_28 : decode (fx_cc mq_RE_contains) 28 = .ok (.iadd, 1) := by decide +kernel
theorem dq_RE_contains_29 : decode (fx_cc mq_RE_contains) 29 = .ok (.if_icmp .gt 39, 3) := by decide +kernel
theorem dq_RE_contains_32 : decode (fx_cc mq_RE_contains) 32 = .ok (.aload_n 1, 1) := by decide +kernel
theorem dq_RE_contains_33 : decode (fx_cc mq_RE_contains) 33 = .ok (.getfield 13, 3) := by decide +kernel
theorem dq_RE_contains_36 : decode (fx_cc mq_RE_contains) 36 = .ok (.aload_n 0, 1) := by decide +kernel
theorem dq_RE_contains_37 : decode (fx_cc mq_RE_contains) 37 = .ok (.getfield 13, 3) := by decide +kernel
theorem dq_RE_contains_40 : decode (fx_cc mq_RE_contains) 40 = .ok (.if_icmp .lt 28, 3) := by decide +kernel
theorem dq_RE_contains_43 : decode (fx_cc mq_RE_contains) 43 = .ok (.aload_n 1, 1) := by decide +kernel
theorem dq_RE_contains_44 : decode (fx_cc mq_RE_contains) 44 = .ok (.getfield 13, 3) := by decide +kernel
theorem dq_RE_contains_47 : decode (fx_cc mq_RE_contains) 47 = .ok (.aload_n 1, 1) := by decide +kernel
theorem dq_RE_contains_48 : decode (fx_cc mq_RE_contains) 48 = .ok (.getfield 19, 3) := by decide +kernel
theorem dq_RE_contains_51 : decode (fx_cc mq_RE_contains) 51 = .ok (.iadd, 1) := by decide +kernel
theorem dq_RE_contains_52 : decode (fx_cc mq_RE_contains) 52 = .ok (.aload_n 0, 1) := by decide +kernel
theorem dq_RE_contains_53 : decode (fx_cc mq_RE_contains) 53 = .ok (.getfield 13, 3) := by decide +kernel
theorem dq_RE_contains_56 : decode (fx_cc mq_RE_contains) 56 = .ok (.aload_n 0, 1) := by decide +kernel
theorem dq_RE_contains_57 : decode (fx_cc mq_RE_contains) 57 = .ok (.getfield 19, 3) := by decide +kernel
theorem dq_RE_contains_60 : decode (fx_cc mq_RE_contains) 60 = .ok (.iadd, 1) := by decide +kernel
theorem dq_RE_contains_61 : decode (fx_cc mq_RE_contains) 61 = .ok (.if_icmp .gt 7, 3) := by decide +kernel
theorem dq_RE_contains_64 : decode (fx_cc mq_RE_contains) 64 = .ok (.iconst 1, 1) := by decide +kernel
theorem dq_RE_contains_65 : decode (fx_cc mq_RE_contains) 65 = .ok (.goto 4, 3) := by decide +kernel
theorem dq_RE_contains_68 : decode (fx_cc mq_RE_contains) 68 = .ok (.iconst 0, 1) := by decide +kernel
theorem dq_RE_contains_69 : decode (fx_cc mq_RE_contains) 69 = .ok (.ireturn, 1) := by decide +kernel
theorem dq_MI_joinNearest_0 : decode (fx_cc mq_MI_joinNearest) 0 = .ok (.iconst 0, 1) := by decide +kernel
theorem dq_MI_joinNearest_1 : decode (fx_cc mq_MI_joinNearest) 1 = .ok (.istore_n 1, 1) := by decide +kernel
theorem dq_MI_joinNearest_2 : decode (fx_cc mq_MI_joinNearest) 2 = .ok (.iconst 1, 1) := by decide +kernel
theorem dq_MI_joinNearest_3 : decode (fx_cc mq_MI_joinNearest) 3 = .ok (.istore_n 2, 1) := by decide +kernel
theorem dq_MI_joinNearest_4 : decode (fx_cc mq_MI_joinNearest) 4 = .ok (.aload_n 0, 1) := by decide +kernel
theorem dq_MI_joinNearest_5 : decode (fx_cc mq_MI_joinNearest) 5 = .ok (.getfield 11, 3) := by decide +kernel
theorem dq_MI_joinNearest_8 : decode (fx_cc mq_MI_joinNearest) 8 = .ok (.iconst 0, 1) := by decide +kernel
theorem dq_MI_joinNearest_9 : decode (fx_cc mq_MI_joinNearest) 9 = .ok (.aaload, 1) := by decide +kernel
theorem dq_MI_joinNearest_10 : decode (fx_cc mq_MI_joinNearest) 10 = .ok (.aload_n 0, 1) := by decide +kernel
theorem dq_MI_joinNearest_11 : decode (fx_cc mq_MI_joinNearest) 11 = .ok (.getfield 11, 3) := by decide +kernel
theorem dq_MI_joinNearest_14 : decode (fx_cc mq_MI_joinNearest) 14 = .ok (.iconst 1, 1) := by decide +kernel
theorem dq_MI_joinNearest_15 : decode (fx_cc mq_MI_joinNearest) 15 = .ok (.aaload, 1) := by decide +kernel
theorem dq_MI_joinNearest_16 : decode (fx_cc mq_MI_joinNearest) 16 = .ok (.invokevirtual 40, 3) := by decide +kernel
theorem dq_MI_joinNearest_19 : decode (fx_cc mq_MI_joinNearest) 19 = .ok (.istore_n 3, 1) := by decide +kernel
theorem dq_MI_joinNearest_20 : decode (fx_cc mq_MI_joinNearest) 20 = .ok (.iconst 0, 1) := by decide +kernel
theorem dq_MI_joinNearest_21 : decode (fx_cc mq_MI_joinNearest) 21 = .ok (.istore 4, 2) := by decide +kernel
theorem dq_MI_joinNearest_23 : decode (fx_cc mq_MI_joinNearest) 23 = .ok (.iload 4, 2) := by decide +kernel
theorem dq_MI_joinNearest_25 : decode (fx_cc mq_MI_joinNearest) 25 = .ok (.aload_n 0, 1) := by decide +kernel
theorem dq_MI_joinNearest_26 : decode (fx_cc mq_MI_joinNearest) 26 = .ok (.getfield 26, 3) := by decide +kernel
theorem dq_MI_joinNearest_29 : decode (fx_cc mq_MI_joinNearest) 29 = .ok (.if_icmp .ge 64, 3) := by decide +kernel
theorem dq_MI_joinNearest_32 : decode (fx_cc mq_MI_joinNearest) 32 = .ok (.iload 4, 2) := by decide +kernel
theorem dq_MI_joinNearest_34 : decode (fx_cc mq_MI_joinNearest) 34 = .ok (.iconst 1, 1) := by decide +kernel
theorem dq_MI_joinNearest_35 : decode (fx_cc mq_MI_joinNearest) 35 = .ok (.iadd, 1) := by decide +kernel
theorem dq_MI_joinNearest_36 : decode (fx_cc mq_MI_joinNearest) 36 = .ok (.istore 5, 2) := by decide +kernel
theorem dq_MI_joinNearest_38 : decode (fx_cc mq_MI_joinNearest) 38 = .ok (.iload 5, 2) := by decide +kernel
theorem dq_MI_joinNearest_40 : decode (fx_cc mq_MI_joinNearest) 40 = .ok (.aload_n 0, 1) := by decide +kernel
theorem dq_MI_joinNearest_41 : decode (fx_cc mq_MI_joinNearest) 41 = .ok (.getfield 26, 3) := by decide +kernel
theorem dq_MI_joinNearest_44 : decode (fx_cc mq_MI_joinNearest) 44 = .ok (.if_icmp .ge 43, 3) := by decide +kernel
theorem dq_MI_joinNearest_47 : decode (fx_cc mq_MI_joinNearest) 47 = .ok (.aload_n 0, 1) := by decide +kernel
theorem dq_MI_joinNearest_48 : decode (fx_cc mq_MI_joinNearest) 48 = .ok (.getfield 11, 3) := by decide +kernel
theorem dq_MI_joinNearest_51 : decode (fx_cc mq_MI_joinNearest) 51 = .ok (.iload 4, 2) := by decide +kernel
theorem dq_MI_joinNearest_53 : decode (fx_cc mq_MI_joinNearest) 53 = .ok (.aaload, 1) := by decide +kernel
theorem dq_MI_joinNearest_54 : decode (fx_cc mq_MI_joinNearest) 54 = .ok (.aload_n 0, 1) := by decide +kernel
theorem dq_MI_joinNearest_55 : decode (fx_cc mq_MI_joinNearest) 55 = .ok (.getfield 11, 3) := by decide +kernel
theorem dq_MI_joinNearest_58 : decode (fx_cc mq_MI_joinNearest) 58 = .ok (.iload 5, 2) := by decide +kernel
theorem dq_MI_joinNearest_60 : decode (fx_cc mq_MI_joinNearest) 60 = .ok (.aaload, 1) := by decide +kernel
theorem dq_MI_joinNearest_61 : decode (fx_cc mq_MI_joinNearest) 61 = .ok (.invokevirtual 40, 3) := by decide +kernel
theorem dq_MI_joinNearest_64 : decode (fx_cc mq_MI_joinNearest) 64 = .ok (.istore 6, 2) := by decide +kernel
theorem dq_MI_joinNearest_66 : decode (fx_cc mq_MI_joinNearest) 66 = .ok (.iload 6, 2) := by decide +kernel
theorem dq_MI_joinNearest_68 : decode (fx_cc mq_MI_joinNearest) 68 = .ok (.iload_n 3, 1) := by decide +kernel
theorem dq_MI_joinNearest_69 : decode (fx_cc mq_MI_joinNearest) 69 = .ok (.if_icmp .ge 12, 3) := by decide +kernel
theorem dq_MI_joinNearest_72 : decode (fx_cc mq_MI_joinNearest) 72 = .ok (.iload 6, 2) := by decide +kernel
theorem dq_MI_joinNearest_74 : decode (fx_cc mq_MI_joinNearest) 74 = .ok (.istore_n 3, 1) := by decide +kernel
theorem dq_MI_joinNearest_75 : decode (fx_cc mq_MI_joinNearest) 75 = .ok (.iload 4, 2) := by decide +kernel
theorem dq_MI_joinNearest_77 : decode (fx_cc mq_MI_joinNearest) 77 = .ok (.istore_n 1, 1) := by decide +kernel
theorem dq_MI_joinNearest_78 : decode (fx_cc mq_MI_joinNearest) 78 = .ok (.iload 5, 2) := by decide +kernel
theorem dq_MI_joinNearest_80 : decode (fx_cc mq_MI_joinNearest) 80 = .ok (.istore_n 2, 1) := by decide +kernel
theorem dq_MI_joinNearest_81 : decode (fx_cc mq_MI_joinNearest) 81 = .ok (.iinc 5 1, 3) := by decide +kernel
theorem dq_MI_joinNearest_84 : decode (fx_cc mq_MI_joinNearest) 84 = .ok (.goto (-46), 3) := by decide +kernel
theorem dq_MI_joinNearest_87 : decode (fx_cc mq_MI_joinNearest) 87 = .ok (.iinc 4 1, 3) := by decide +kernel
theorem dq_MI_joinNearest_90 : decode (fx_cc mq_MI_joinNearest) 90 = .ok (.goto (-67), 3) := by decide +kernel
theorem dq_MI_joinNearest_93 : decode (fx_cc mq_MI_joinNearest) 93 = .ok (.aload_n 0, 1) := by decide +kernel
theorem dq_MI_joinNearest_94 : decode (fx_cc mq_MI_joinNearest) 94 = .ok (.getfield 11, 3) := by decide +kernel
theorem dq_MI_joinNearest_97 : decode (fx_cc mq_MI_joinNearest) 97 = .ok (.iload_n 1, 1) := by decide +kernel
theorem dq_MI_joinNearest_98 : decode (fx_cc mq_MI_joinNearest) 98 = .ok (.aaload, 1) := by decide +kernel
theorem dq_MI_joinNearest_99 : decode (fx_cc mq_MI_joinNearest) 99 = .ok (.aload_n 0, 1) := by decide +kernel
theorem dq_MI_joinNearest_100 : decode (fx_cc mq_MI_joinNearest) 100 = .ok (.getfield 11, 3) := by decide +kernel
theorem dq_MI_joinNearest_103 : decode (fx_cc mq_MI_joinNearest) 103 = .ok (.iload_n 2, 1) := by decide +kernel
theorem dq_MI_joinNearest_104 : decode (fx_cc mq_MI_joinNearest) 104 = .ok (.aaload, 1) := by decide +kernel
theorem dq_MI_joinNearest_105 : decode (fx_cc mq_MI_joinNearest) 105 = .ok (.invokevirtual 44, 3) := by decide +kernel
theorem dq_MI_joinNearest_108 : decode (fx_cc mq_MI_joinNearest) 108 = .ok (.aload_n 0, 1) := by decide +kernel
theorem dq_MI_joinNearest_109 : decode (fx_cc mq_MI_joinNearest) 109 = .ok (.iload_n 2, 1) := by decide +kernel
theorem dq_MI_joinNearest_110 : decode (fx_cc mq_MI_joinNearest) 110 = .ok (.invokevirtual 47, 3) := by decide +kernel
theorem dq_MI_joinNearest_113 : decode (fx_cc mq_MI_joinNearest) 113 = .ok (.return_, 1) := by decide +kernel
theorem dq_RE_wasteWith_0 : decode (fx_cc mq_RE_wasteWith) 0 = .ok (.aload_n 0, 1) := by decide +kernel
theorem dq_RE_wasteWith_1 : decode (fx_cc mq_RE_wasteWith) 1 = .ok (.getfield 7, 3) := by decide +kernel
theorem dq_RE_wasteWith_4 : decode (fx_cc mq_RE_wasteWith) 4 = .ok (.aload_n 0, 1) := by decide +kernel
theorem dq_RE_wasteWith_5 : decode (fx_cc mq_RE_wasteWith) 5 = .ok (.getfield 16, 3) := by decide +kernel
theorem dq_RE_wasteWith_8 : decode (fx_cc mq_RE_wasteWith) 8 = .ok (.iadd, 1) := by decide +kernel
theorem dq_RE_wasteWith_9 : decode (fx_cc mq_RE_wasteWith) 9 = .ok (.aload_n 1, 1) := by decide +kernel
theorem dq_RE_wasteWith_10 : decode (fx_cc mq_RE_wasteWith) 10 = .ok (.getfield 7, 3) := by decide +kernel
theorem dq_RE_wasteWith_13 : decode (fx_cc mq_RE_wasteWith) 13 = .ok (.aload_n 1, 1) := by decide +kernel
theorem dq_RE_wasteWith_14 : decode (fx_cc mq_RE_wasteWith) 14 = .ok (.getfield 16, 3) := by decide +kernel
theorem dq_RE_wasteWith_17 : decode (fx_cc mq_RE_wasteWith) 17 = .ok (.iadd, 1) := by decide +kernel
theorem dq_RE_wasteWith_18 : decode (fx_cc mq_RE_wasteWith) 18 = .ok (.invokestatic 32, 3) := by decide +kernel
theorem dq_RE_wasteWith_21 : decode (fx_cc mq_RE_wasteWith) 21 = .ok (.aload_n 0, 1) := by decide +kernel
theorem dq_RE_wasteWith_22 : decode (fx_cc mq_RE_wasteWith) 22 = .ok (.getfield 7, 3) := by decide +kernel
theorem dq_RE_wasteWith_25 : decode (fx_cc mq_RE_wasteWith) 25 = .ok (.aload_n 1, 1) := by decide +kernel
theorem dq_RE_wasteWith_26 : decode (fx_cc mq_RE_wasteWith) 26 = .ok (.getfield 7, 3) := by decide +kernel
theorem dq_RE_wasteWith_29 : decode (fx_cc mq_RE_wasteWith) 29 = .ok (.invokestatic 26, 3) := by decide +kernel
theorem dq_RE_wasteWith_32 : decode (fx_cc mq_RE_wasteWith) 32 = .ok (.isub, 1) := by decide +kernel
theorem dq_RE_wasteWith_33 : decode (fx_cc mq_RE_wasteWith) 33 = .ok (.istore_n 2, 1) := by decide +kernel
theorem dq_RE_wasteWith_34 : decode (fx_cc mq_RE_wasteWith) 34 = .ok (.aload_n 0, 1) := by decide +kernel
theorem dq_RE_wasteWith_35 : decode (fx_cc mq_RE_wasteWith) 35 = .ok (.getfield 13, 3) := by decide +kernel
theorem dq_RE_wasteWith_38 : decode (fx_cc mq_RE_wasteWith) 38 = .ok (.aload_n 0, 1) := by decide +kernel
theorem dq_RE_wasteWith_39 : decode (fx_cc mq_RE_wasteWith) 39 = .ok (.getfield 19, 3) := by decide +kernel
theorem dq_RE_wasteWith_42 : decode (fx_cc mq_RE_wasteWith) 42 = .ok (.iadd, 1) := by decide +kernel
theorem dq_RE_wasteWith_43 : decode (fx_cc mq_RE_wasteWith) 43 = .ok (.aload_n 1, 1) := by decide +kernel
theorem dq_RE_wasteWith_44 : decode (fx_cc mq_RE_wasteWith) 44 = .ok (.getfield 13, 3) := by decide +kernel
theorem dq_RE_wasteWith_47 : decode (fx_cc mq_RE_wasteWith) 47 = .ok (.aload_n 1, 1) := by decide +kernel
theorem dq_RE_wasteWith_48 : decode (fx_cc mq_RE_wasteWith) 48 = .ok (.getfield 19, 3) := by decide +kernel
theorem dq_RE_wasteWith_51 : decode (fx_cc mq_RE_wasteWith) 51 = .ok (.iadd, 1) := by decide +kernel
theorem dq_RE_wasteWith_52 : decode (fx_cc mq_RE_wasteWith) 52 = .ok (.invokestatic 32, 3) := by decide +kernel
theorem dq_RE_wasteWith_55 : decode (fx_cc mq_RE_wasteWith) 55 = .ok (.aload_n 0, 1) := by decide +kernel
theorem dq_RE_wasteWith_56 : decode (fx_cc mq_RE_wasteWith) 56 = .ok (.getfield 13, 3) := by decide +kernel
theorem dq_RE_wasteWith_59 : decode (fx_cc mq_RE_wasteWith) 59 = .ok (.aload_n 1, 1) := by decide +kernel
theorem dq_RE_wasteWith_60 : decode (fx_cc mq_RE_wasteWith) 60 = .ok (.getfield 13, 3) := by decide +kernel
theorem dq_RE_wasteWith_63 : decode (fx_cc mq_RE_wasteWith) 63 = .ok (.invokestatic 26, 3) := by decide +kernel
theorem dq_RE_wasteWith_66 : decode (fx_cc mq_RE_wasteWith) 66 = .ok (.isub, 1) := by decide +kernel
theorem dq_RE_wasteWith_67 : decode (fx_cc mq_RE_wasteWith) 67 = .ok (.istore_n 3, 1) := by decide +kernel
theorem dq_RE_wasteWith_68 : decode (fx_cc mq_RE_wasteWith) 68 = .ok (.iload_n 2, 1) := by decide +kernel
theorem dq_RE_wasteWith_69 : decode (fx_cc mq_RE_wasteWith) 69 = .ok (.iload_n 3, 1) := by decide +kernel
theorem dq_RE_wasteWith_70 : decode (fx_cc mq_RE_wasteWith) 70 = .ok (.imul, 1) := by decide +kernel
theorem dq_RE_wasteWith_71 : decode (fx_cc mq_RE_wasteWith) 71 = .ok (.aload_n 0, 1) := by decide +kernel
theorem dq_RE_wasteWith_72 : decode (fx_cc mq_RE_wasteWith) 72 = .ok (.getfield 16, 3) := by decide +kernel
theorem dq_RE_wasteWith_75 : decode (fx_cc mq_RE_wasteWith) 75 = .ok (.aload_n 0, 1) := by decide +kernel
theorem dq_RE_wasteWith_76 : decode (fx_cc mq_RE_wasteWith) 76 = .ok (.getfield 19, 3) := by decide +kernel
theorem dq_RE_wasteWith_79 : decode (fx_cc mq_RE_wasteWith) 79 = .ok (.imul, 1) := by decide +kernel
theorem dq_RE_wasteWith_80 : decode (fx_cc mq_RE_wasteWith) 80 = .ok (.isub, 1) := by decide +kernel
theorem dq_RE_wasteWith_81 : decode (fx_cc mq_RE_wasteWith) 81 = .ok (.aload_n 1, 1) := by decide +kernel
theorem dq_RE_wasteWith_82 : decode (fx_cc mq_RE_wasteWith) 82 = .ok (.getfield 16, 3) := by decide +kernel
theorem dq_RE_wasteWith_85 : decode (fx_cc mq_RE_wasteWith) 85 = .ok (.aload_n 1, 1) := by decide +kernel
theorem dq_RE_wasteWith_86 : decode (fx_cc mq_RE_wasteWith) 86 = .ok (.getfield 19, 3) := by decide +kernel
theorem dq_RE_wasteWith_89 : decode (fx_cc mq_RE_wasteWith) 89 = .ok (.imul, 1) := by decide +kernel
theorem dq_RE_wasteWith_90 : decode (fx_cc mq_RE_wasteWith) 90 = .ok (.isub, 1) := by decide +kernel
theorem dq_RE_wasteWith_91 : decode (fx_cc mq_RE_wasteWith) 91 = .ok (.ireturn, 1) := by decide +kernel
theorem dq_RE_growOver_0 : decode (fx_cc mq_RE_growOver) 0 = .ok (.aload_n 0, 1) := by decide +kernel
theorem dq_RE_growOver_1 : decode (fx_cc mq_RE_growOver) 1 = .ok (.getfield 7, 3) := by decide +kernel
theorem dq_RE_growOver_4 : decode (fx_cc mq_RE_growOver) 4 = .ok (.aload_n 0, 1) := by decide +kernel
theorem dq_RE_growOver_5 : decode (fx_cc mq_RE_growOver) 5 = .ok (.getfield 16, 3) := by decide +kernel
theorem dq_RE_growOver_8 : decode (fx_cc mq_RE_growOver) 8 = .ok (.iadd, 1) := by decide +kernel
theorem dq_RE_growOver_9 : decode (fx_cc mq_RE_growOver) 9 = .ok (.aload_n 1, 1) := by decide +kernel
theorem dq_RE_growOver_10 : decode (fx_cc mq_RE_growOver) 10 = .ok (.getfield 7, 3) := by decide +kernel
theorem dq_RE_growOver_13 : decode (fx_cc mq_RE_growOver) 13 = .ok (.aload_n 1, 1) := by decide +kernel
theorem dq_RE_growOver_14 : decode (fx_cc mq_RE_growOver) 14 = .ok (.getfield 16, 3) := by decide +kernel
theorem dq_RE_growOver_17 : decode (fx_cc mq_RE_growOver) 17 = .ok (.iadd, 1) := by decide +kernel
theorem dq_RE_growOver_18 : decode (fx_cc mq_RE_growOver) 18 = .ok (.invokestatic 32, 3) := by decide +kernel
theorem dq_RE_growOver_21 : decode (fx_cc mq_RE_growOver) 21 = .ok (.istore_n 2, 1) := by decide +kernel
theorem dq_RE_growOver_22 : decode (fx_cc mq_RE_growOver) 22 = .ok (.aload_n 0, 1) := by decide +kernel
theorem dq_RE_growOver_23 : decode (fx_cc mq_RE_growOver) 23 = .ok (.getfield 13, 3) := by decide +kernel
theorem dq_RE_growOver_26 : decode (fx_cc mq_RE_growOver) 26 = .ok (.aload_n 0, 1) := by decide +kernel
theorem dq_RE_growOver_27 : decode (fx_cc mq_RE_growOver) 27 = .ok (.getfield 19, 3) := by decide +kernel
theorem dq_RE_growOver_30 : decode (fx_cc mq_RE_growOver) 30 = .ok (.iadd, 1) := by decide +kernel
theorem dq_RE_growOver_31 : decode (fx_cc mq_RE_growOver) 31 = .ok (.aload_n 1, 1) := by decide +kernel
theorem dq_RE_growOver_32 : decode (fx_cc mq_RE_growOver) 32 = .ok (.getfield 13, 3) := by decide +kernel
theorem dq_RE_growOver_35 : decode (fx_cc mq_RE_growOver) 35 = .ok (.aload_n 1, 1) := by decide +kernel
theorem dq_RE_growOver_36 : decode (fx_cc mq_RE_growOver) 36 = .ok (.getfield 19, 3) := by decide +kernel
theorem dq_RE_growOver_39 : decode (fx_cc mq_RE_growOver) 39 = .ok (.iadd, 1) := by decide +kernel
theorem dq_RE_growOver_40 : decode (fx_cc mq_RE_growOver) 40 = .ok (.invokestatic 32, 3) := by decide +kernel
theorem dq_RE_growOver_43 : decode (fx_cc mq_RE_growOver) 43 = .ok (.istore_n 3, 1) := by decide +kernel
theorem dq_RE_growOver_44 : decode (fx_cc mq_RE_growOver) 44 = .ok (.aload_n 0, 1) := by decide +kernel
theorem dq_RE_growOver_45 : decode (fx_cc mq_RE_growOver) 45 = .ok (.aload_n 0, 1) := by decide +kernel
theorem dq_RE_growOver_46 : decode (fx_cc mq_RE_growOver) 46 = .ok (.getfield 7, 3) := by decide +kernel
theorem dq_RE_growOver_49 : decode (fx_cc mq_RE_growOver) 49 = .ok (.aload_n 1, 1) := by decide +kernel
theorem dq_RE_growOver_50 : decode (fx_cc mq_RE_growOver) 50 = .ok (.getfield 7, 3) := by decide +kernel
theorem dq_RE_growOver_53 : decode (fx_cc mq_RE_growOver) 53 = .ok (.invokestatic 26, 3) := by decide +kernel
theorem dq_RE_growOver_56 : decode (fx_cc mq_RE_growOver) 56 = .ok (.putfield 7, 3) := by decide +kernel
theorem dq_RE_growOver_59 : decode (fx_cc mq_RE_growOver) 59 = .ok (.aload_n 0, 1) := by decide +kernel
theorem dq_RE_growOver_60 : decode (fx_cc mq_RE_growOver) 60 = .ok (.aload_n 0, 1) := by decide +kernel
theorem dq_RE_growOver_61 : decode (fx_cc mq_RE_growOver) 61 = .ok (.getfield 13, 3) := by decide +kernel
theorem dq_RE_growOver_64 : decode (fx_cc mq_RE_growOver) 64 = .ok (.aload_n 1, 1) := by decide +kernel
theorem dq_RE_growOver_65 : decode (fx_cc mq_RE_growOver) 65 = .ok (.getfield 13, 3) := by decide +kernel
theorem dq_RE_growOver_68 : decode (fx_cc mq_RE_growOver) 68 = .ok (.invokestatic 26, 3) := by decide +kernel
theorem dq_RE_growOver_71 : decode (fx_cc mq_RE_growOver) 71 = .ok (.putfield 13, 3) := by decide +kernel
theorem dq_RE_growOver_74 : decode (fx_cc mq_RE_growOver) 74 = .ok (.aload_n 0, 1) := by decide +kernel
theorem dq_RE_growOver_75 : decode (fx_cc mq_RE_growOver) 75 = .ok (.iload_n 2, 1) := by decide +kernel
theorem dq_RE_growOver_76 : decode (fx_cc mq_RE_growOver) 76 = .ok (.aload_n 0, 1) := by decide +kernel
theorem dq_RE_growOver_77 : decode (fx_cc mq_RE_growOver) 77 = .ok (.getfield 7, 3) := by decide +kernel
theorem dq_RE_growOver_80 : decode (fx_cc mq_RE_growOver) 80 = .ok (.isub, 1) := by decide +kernel
theorem dq_RE_growOver_81 : decode (fx_cc mq_RE_growOver) 81 = .ok (.putfield 16, 3) := by decide +kernel
theorem dq_RE_growOver_84 : decode (fx_cc mq_RE_growOver) 84 = .ok (.aload_n 0, 1) := by decide +kernel
theorem dq_RE_growOver_85 : decode (fx_cc mq_RE_growOver) 85 = .ok (.iload_n 3, 1) := by decide +kernel
theorem dq_RE_growOver_86 : decode (fx_cc mq_RE_growOver) 86 = .ok (.aload_n 0, 1) := by decide +kernel
theorem dq_RE_growOver_87 : decode (fx_cc mq_RE_growOver) 87 = .ok (.getfield 13, 3) := by decide +kernel
theorem dq_RE_growOver_90 : decode (fx_cc mq_RE_growOver) 90 = .ok (.isub, 1) := by decide +kernel
theorem dq_RE_growOver_91 : decode (fx_cc mq_RE_growOver) 91 = .ok (.putfield 19, 3) := by decide +kernel
theorem dq_RE_growOver_94 : decode (fx_cc mq_RE_growOver) 94 = .ok (.return_, 1) := by decide +kernel
theorem dq_MI_dropAt_0 : decode (fx_cc mq_MI_dropAt) 0 = .ok (.aload_n 0, 1) := by decide +kernel
theorem dq_MI_dropAt_1 : decode (fx_cc mq_MI_dropAt) 1 = .ok (.dup, 1) := by decide +kernel
theorem dq_MI_dropAt_2 : decode (fx_cc mq_MI_dropAt) 2 = .ok (.getfield 26, 3) := by decide +kernel
theorem dq_MI_dropAt_5 : decode (fx_cc mq_MI_dropAt) 5 = .ok (.iconst 1, 1) := by decide +kernel
theorem dq_MI_dropAt_6 : decode (fx_cc mq_MI_dropAt) 6 = .ok (.isub, 1) := by decide +kernel
theorem dq_MI_dropAt_7 : decode (fx_cc mq_MI_dropAt) 7 = .ok (.putfield 26, 3) := by decide +kernel
theorem dq_MI_dropAt_10 : decode (fx_cc mq_MI_dropAt) 10 = .ok (.iload_n 1, 1) := by decide +kernel
theorem dq_MI_dropAt_11 : decode (fx_cc mq_MI_dropAt) 11 = .ok (.istore_n 2, 1) := by decide +kernel
theorem dq_MI_dropAt_12 : decode (fx_cc mq_MI_dropAt) 12 = .ok (.iload_n 2, 1) := by decide +kernel
theorem dq_MI_dropAt_13 : decode (fx_cc mq_MI_dropAt) 13 = .ok (.aload_n 0, 1) := by decide +kernel
theorem dq_MI_dropAt_14 : decode (fx_cc mq_MI_dropAt) 14 = .ok (.getfield 26, 3) := by decide +kernel
theorem dq_MI_dropAt_17 : decode (fx_cc mq_MI_dropAt) 17 = .ok (.if_icmp .ge 26, 3) := by decide +kernel
theorem dq_MI_dropAt_20 : decode (fx_cc mq_MI_dropAt) 20 = .ok (.aload_n 0, 1) := by decide +kernel
theorem dq_MI_dropAt_21 : decode (fx_cc mq_MI_dropAt) 21 = .ok (.getfield 11, 3) := by decide +kernel
theorem dq_MI_dropAt_24 : decode (fx_cc mq_MI_dropAt) 24 = .ok (.iload_n 2, 1) := by decide +kernel
theorem dq_MI_dropAt_25 : decode (fx_cc mq_MI_dropAt) 25 = .ok (.aaload, 1) := by decide +kernel
theorem dq_MI_dropAt_26 : decode (fx_cc mq_MI_dropAt) 26 = .ok (.aload_n 0, 1) := by decide +kernel
theorem dq_MI_dropAt_27 : decode (fx_cc mq_MI_dropAt) 27 = .ok (.getfield 11, 3) := by decide +kernel
theorem dq_MI_dropAt_30 : decode (fx_cc mq_MI_dropAt) 30 = .ok (.iload_n 2, 1) := by decide +kernel
theorem dq_MI_dropAt_31 : decode (fx_cc mq_MI_dropAt) 31 = .ok (.iconst 1, 1) := by decide +kernel
theorem dq_MI_dropAt_32 : decode (fx_cc mq_MI_dropAt) 32 = .ok (.iadd, 1) := by decide +kernel
theorem dq_MI_dropAt_33 : decode (fx_cc mq_MI_dropAt) 33 = .ok (.aaload, 1) := by decide +kernel
theorem dq_MI_dropAt_34 : decode (fx_cc mq_MI_dropAt) 34 = .ok (.invokevirtual 30, 3) := by decide +kernel
theorem dq_MI_dropAt_37 : decode (fx_cc mq_MI_dropAt) 37 = .ok (.iinc 2 1, 3) := by decide +kernel
theorem dq_MI_dropAt_40 : decode (fx_cc mq_MI_dropAt) 40 = .ok (.goto (-28), 3) := by decide +kernel
theorem dq_MI_dropAt_43 : decode (fx_cc mq_MI_dropAt) 43 = .ok (.return_, 1) := by decide +kernel
theorem dq_DE_allTaken_0 : decode (fx_cc mq_DE_allTaken) 0 = .ok (.iconst 0, 1) := by decide +kernel
theorem dq_DE_allTaken_1 : decode (fx_cc mq_DE_allTaken) 1 = .ok (.istore_n 1, 1) := by decide +kernel
theorem dq_DE_allTaken_2 : decode (fx_cc mq_DE_allTaken) 2 = .ok (.iload_n 1, 1) := by decide +kernel
theorem dq_DE_allTaken_3 : decode (fx_cc mq_DE_allTaken) 3 = .ok (.bipush 10, 2) := by decide +kernel
theorem dq_DE_allTaken_5 : decode (fx_cc mq_DE_allTaken) 5 = .ok (.if_icmp .ge 60, 3) := by decide +kernel
theorem dq_DE_allTaken_8 : decode (fx_cc mq_DE_allTaken) 8 = .ok (.aload_n 0, 1) := by decide +kernel
theorem dq_DE_allTaken_9 : decode (fx_cc mq_DE_allTaken) 9 = .ok (.getfield 28, 3) := by decide +kernel
theorem dq_DE_allTaken_12 : decode (fx_cc mq_DE_allTaken) 12 = .ok (.iload_n 1, 1) := by decide +kernel
theorem dq_DE_allTaken_13 : decode (fx_cc mq_DE_allTaken) 13 = .ok (.baload, 1) := by decide +kernel
theorem dq_DE_allTaken_14 : decode (fx_cc mq_DE_allTaken) 14 = .ok (.ifCond .eq 45, 3) := by decide +kernel
theorem dq_DE_allTaken_17 : decode (fx_cc mq_DE_allTaken) 17 = .ok (.aload_n 0, 1) := by decide +kernel
theorem dq_DE_allTaken_18 : decode (fx_cc mq_DE_allTaken) 18 = .ok (.getfield 28, 3) := by decide +kernel
theorem dq_DE_allTaken_21 : decode (fx_cc mq_DE_allTaken) 21 = .ok (.iload_n 1, 1) := by decide +kernel
theorem dq_DE_allTaken_22 : decode (fx_cc mq_DE_allTaken) 22 = .ok (.iconst 0, 1) := by decide +kernel
theorem dq_DE_allTaken_23 : decode (fx_cc mq_DE_allTaken) 23 = .ok (.bastore, 1) := by decide +kernel
theorem dq_DE_allTaken_24 : decode (fx_cc mq_DE_allTaken) 24 = .ok (.aload_n 0, 1) := by decide +kernel
theorem dq_DE_allTaken_25 : decode (fx_cc mq_DE_allTaken) 25 = .ok (.getfield 24, 3) := by decide +kernel
theorem dq_DE_allTaken_28 : decode (fx_cc mq_DE_allTaken) 28 = .ok (.iload_n 1, 1) := by decide +kernel
theorem dq_DE_allTaken_29 : decode (fx_cc mq_DE_allTaken) 29 = .ok (.iconst (-1), 1) := by decide +kernel
theorem dq_DE_allTaken_30 : decode (fx_cc mq_DE_allTaken) 30 = .ok (.iastore, 1) := by decide +kernel
theorem dq_DE_allTaken_31 : decode (fx_cc mq_DE_allTaken) 31 = .ok (.aload_n 0, 1) := by decide +kernel
theorem dq_DE_allTaken_32 : decode (fx_cc mq_DE_allTaken) 32 = .ok (.dup, 1) := by decide +kernel
theorem dq_DE_allTaken_33 : decode (fx_cc mq_DE_allTaken) 33 = .ok (.getfield 35, 3) := by decide +kernel
theorem dq_DE_allTaken_36 : decode (fx_cc mq_DE_allTaken) 36 = .ok (.aload_n 0, 1) := by decide +kernel
theorem dq_DE_allTaken_37 : decode (fx_cc mq_DE_allTaken) 37 = .ok (.getfield 11, 3) := by decide +kernel
theorem dq_DE_allTaken_40 : decode (fx_cc mq_DE_allTaken) 40 = .ok (.iload_n 1, 1) := by decide +kernel
theorem dq_DE_allTaken_41 : decode (fx_cc mq_DE_allTaken) 41 = .ok (.aaload, 1) := by decide +kernel
theorem dq_DE_allTaken_42 : decode (fx_cc mq_DE_allTaken) 42 = .ok (.getfield 61, 3) := by decide +kernel
theorem dq_DE_allTaken_45 : decode (fx_cc mq_DE_allTaken) 45 = .ok (.aload_n 0, 1) := by decide +kernel
theorem dq_DE_allTaken_46 : decode (fx_cc mq_DE_allTaken) 46 = .ok (.getfield 11, 3) := by decide +kernel
theorem dq_DE_allTaken_49 : decode (fx_cc mq_DE_allTaken) 49 = .ok (.iload_n 1, 1) := by decide +kernel
theorem dq_DE_allTaken_50 : decode (fx_cc mq_DE_allTaken) 50 = .ok (.aaload, 1) := by decide +kernel
theorem dq_DE_allTaken_51 : decode (fx_cc mq_DE_allTaken) 51 = .ok (.getfield 64, 3) := by decide +kernel
theorem dq_DE_allTaken_54 : decode (fx_cc mq_DE_allTaken) 54 = .ok (.imul, 1) := by decide +kernel
theorem dq_DE_allTaken_55 : decode (fx_cc mq_DE_allTaken) 55 = .ok (.iadd, 1) := by decide +kernel
theorem dq_DE_allTaken_56 : decode (fx_cc mq_DE_allTaken) 56 = .ok (.putfield 35, 3) := by decide +kernel
theorem dq_DE_allTaken_59 : decode (fx_cc mq_DE_allTaken) 59 = .ok (.iinc 1 1, 3) := by decide +kernel
theorem dq_DE_allTaken_62 : decode (fx_cc mq_DE_allTaken) 62 = .ok (.goto (-60), 3) := by decide +kernel
theorem dq_DE_allTaken_65 : decode (fx_cc mq_DE_allTaken) 65 = .ok (.iconst 0, 1) := by decide +kernel
theorem dq_DE_allTaken_66 : decode (fx_cc mq_DE_allTaken) 66 = .ok (.istore_n 1, 1) := by decide +kernel
theorem dq_DE_allTaken_67 : decode (fx_cc mq_DE_allTaken) 67 = .ok (.iload_n 1, 1) := by decide +kernel
theorem dq_DE_allTaken_68 : decode (fx_cc mq_DE_allTaken) 68 = .ok (.iconst 4, 1) := by decide +kernel
theorem dq_DE_allTaken_69 : decode (fx_cc mq_DE_allTaken) 69 = .ok (.if_icmp .ge 16, 3) := by decide +kernel
theorem dq_DE_allTaken_72 : decode (fx_cc mq_DE_allTaken) 72 = .ok (.aload_n 0, 1) := by decide +kernel
theorem dq_DE_allTaken_73 : decode (fx_cc mq_DE_allTaken) 73 = .ok (.getfield 32, 3) := by decide +kernel
theorem dq_DE_allTaken_76 : decode (fx_cc mq_DE_allTaken) 76 = .ok (.iload_n 1, 1) := by decide +kernel
theorem dq_DE_allTaken_77 : decode (fx_cc mq_DE_allTaken) 77 = .ok (.iconst 0, 1) := by decide +kernel
theorem dq_DE_allTaken_78 : decode (fx_cc mq_DE_allTaken) 78 = .ok (.bastore, 1) := by decide +kernel
theorem dq_DE_allTaken_79 : decode (fx_cc mq_DE_allTaken) 79 = .ok (.iinc 1 1, 3) := by decide +kernel
theorem dq_DE_allTaken_82 : decode (fx_cc mq_DE_allTaken) 82 = .ok (.goto (-15), 3) := by decide +kernel
theorem dq_DE_allTaken_85 : decode (fx_cc mq_DE_allTaken) 85 = .ok (.return_, 1) := by decide +kernel
theorem dq_CO_startHole_0 : decode (fx_cc mq_CO_startHole) 0 = .ok (.aload_n 0, 1) := by decide +kernel
theorem dq_CO_startHole_1 : decode (fx_cc mq_CO_startHole) 1 = .ok (.iload_n 1, 1) := by decide +kernel
theorem dq_CO_startHole_2 : decode (fx_cc mq_CO_startHole) 2 = .ok (.putfield 111, 3) := by decide +kernel
theorem dq_CO_startHole_5 : decode (fx_cc mq_CO_startHole) 5 = .ok (.aload_n 0, 1) := by decide +kernel
theorem dq_CO_startHole_6 : decode (fx_cc mq_CO_startHole) 6 = .ok (.iconst (-1), 1) := by decide +kernel
theorem dq_CO_startHole_7 : decode (fx_cc mq_CO_startHole) 7 = .ok (.putfield 114, 3) := by decide +kernel
theorem dq_CO_startHole_10 : decode (fx_cc mq_CO_startHole) 10 = .ok (.aload_n 0, 1) := by decide +kernel
theorem dq_CO_startHole_11 : decode (fx_cc mq_CO_startHole) 11 = .ok (.getfield 111, 3) := by decide +kernel
theorem dq_CO_startHole_14 : decode (fx_cc mq_CO_startHole) 14 = .ok (.aload_n 0, 1) := by decide +kernel
theorem dq_CO_startHole_15 : decode (fx_cc mq_CO_startHole) 15 = .ok (.getfield 42, 3) := by decide +kernel
theorem dq_CO_startHole_18 : decode (fx_cc mq_CO_startHole) 18 = .ok (.getfield 102, 3) := by decide +kernel
theorem dq_CO_startHole_21 : decode (fx_cc mq_CO_startHole) 21 = .ok (.getfield 117, 3) := by decide +kernel
theorem dq_CO_startHole_24 : decode (fx_cc mq_CO_startHole) 24 = .ok (.if_icmp .lt 19, 3) := by decide +kernel
theorem dq_CO_startHole_27 : decode (fx_cc mq_CO_startHole) 27 = .ok (.aload_n 0, 1) := by decide +kernel
theorem dq_CO_startHole_28 : decode (fx_cc mq_CO_startHole) 28 = .ok (.getfield 42, 3) := by decide +kernel
theorem dq_CO_startHole_31 : decode (fx_cc mq_CO_startHole) 31 = .ok (.getfield 102, 3) := by decide +kernel
theorem dq_CO_startHole_34 : decode (fx_cc mq_CO_startHole) 34 = .ok (.iconst 0, 1) := by decide +kernel
theorem dq_CO_startHole_35 : decode (fx_cc mq_CO_startHole) 35 = .ok (.putfield 117, 3) := by decide +kernel
theorem dq_CO_startHole_38 : decode (fx_cc mq_CO_startHole) 38 = .ok (.aload_n 0, 1) := by decide +kernel
theorem dq_CO_startHole_39 : decode (fx_cc mq_CO_startHole) 39 = .ok (.iconst 2, 1) := by decide +kernel
theorem dq_CO_startHole_40 : decode (fx_cc mq_CO_startHole) 40 = .ok (.putfield 45, 3) := by decide +kernel
theorem dq_CO_startHole_43 : decode (fx_cc mq_CO_startHole) 43 = .ok (.return_, 1) := by decide +kernel
theorem dq_CO_makeSteps_0 : decode (fx_cc mq_CO_makeSteps) 0 = .ok (.iconst 0, 1) := by decide +kernel
theorem dq_CO_makeSteps_1 : decode (fx_cc mq_CO_makeSteps) 1 = .ok (.istore_n 2, 1) := by decide +kernel
theorem dq_CO_makeSteps_2 : decode (fx_cc mq_CO_makeSteps) 2 = .ok (.iload_n 2, 1) := by decide +kernel
theorem dq_CO_makeSteps_3 : decode (fx_cc mq_CO_makeSteps) 3 = .ok (.iload_n 1, 1) := by decide +kernel
theorem dq_CO_makeSteps_4 : decode (fx_cc mq_CO_makeSteps) 4 = .ok (.if_icmp .ge 21, 3) := by decide +kernel
theorem dq_CO_makeSteps_7 : decode (fx_cc mq_CO_makeSteps) 7 = .ok (.aload_n 0, 1) := by decide +kernel
theorem dq_CO_makeSteps_8 : decode (fx_cc mq_CO_makeSteps) 8 = .ok (.getfield 45, 3) := by decide +kernel
theorem dq_CO_makeSteps_11 : decode (fx_cc mq_CO_makeSteps) 11 = .ok (.iconst 1, 1) := by decide +kernel
theorem dq_CO_makeSteps_12 : decode (fx_cc mq_CO_makeSteps) 12 = .ok (.if_icmp .ne 13, 3) := by decide +kernel
theorem dq_CO_makeSteps_15 : decode (fx_cc mq_CO_makeSteps) 15 = .ok (.aload_n 0, 1) := by decide +kernel
theorem dq_CO_makeSteps_16 : decode (fx_cc mq_CO_makeSteps) 16 = .ok (.invokevirtual 120, 3) := by decide +kernel
theorem dq_CO_makeSteps_19 : decode (fx_cc mq_CO_makeSteps) 19 = .ok (.iinc 2 1, 3) := by decide +kernel
theorem dq_CO_makeSteps_22 : decode (fx_cc mq_CO_makeSteps) 22 = .ok (.goto (-20), 3) := by decide +kernel
theorem dq_CO_makeSteps_25 : decode (fx_cc mq_CO_makeSteps) 25 = .ok (.iload_n 2, 1) := by decide +kernel
theorem dq_CO_makeSteps_26 : decode (fx_cc mq_CO_makeSteps) 26 = .ok (.ireturn, 1) := by decide +kernel
theorem dq_CO_makeStep_0 : decode (fx_cc mq_CO_makeStep) 0 = .ok (.aload_n 0, 1) := by decide +kernel
theorem dq_CO_makeStep_1 : decode (fx_cc mq_CO_makeStep) 1 = .ok (.getfield 42, 3) := by decide +kernel
theorem dq_CO_makeStep_4 : decode (fx_cc mq_CO_makeStep) 4 = .ok (.getfield 102, 3) := by decide +kernel
theorem dq_CO_makeStep_7 : decode (fx_cc mq_CO_makeStep) 7 = .ok (.getfield 123, 3) := by decide +kernel
theorem dq_CO_makeStep_10 : decode (fx_cc mq_CO_makeStep) 10 = .ok (.aload_n 0, 1) := by decide +kernel
theorem dq_CO_makeStep_11 : decode (fx_cc mq_CO_makeStep) 11 = .ok (.getfield 111, 3) := by decide +kernel
theorem dq_CO_makeStep_14 : decode (fx_cc mq_CO_makeStep) 14 = .ok (.aaload, 1) := by decide +kernel
theorem dq_CO_makeStep_15 : decode (fx_cc mq_CO_makeStep) 15 = .ok (.astore_n 1, 1) := by decide +kernel
theorem dq_CO_makeStep_16 : decode (fx_cc mq_CO_makeStep) 16 = .ok (.aload_n 0, 1) := by decide +kernel
theorem dq_CO_makeStep_17 : decode (fx_cc mq_CO_makeStep) 17 = .ok (.getfield 114, 3) := by decide +kernel
theorem dq_CO_makeStep_20 : decode (fx_cc mq_CO_makeStep) 20 = .ok (.iconst (-1), 1) := by decide +kernel
theorem dq_CO_makeStep_21 : decode (fx_cc mq_CO_makeStep) 21 = .ok (.if_icmp .ne 14, 3) := by decide +kernel
theorem dq_CO_makeStep_24 : decode (fx_cc mq_CO_makeStep) 24 = .ok (.aload_n 0, 1) := by decide +kernel
theorem dq_CO_makeStep_25 : decode (fx_cc mq_CO_makeStep) 25 = .ok (.getfield 42, 3) := by decide +kernel
theorem dq_CO_makeStep_28 : decode (fx_cc mq_CO_makeStep) 28 = .ok (.aload_n 1, 1) := by decide +kernel
theorem dq_CO_makeStep_29 : decode (fx_cc mq_CO_makeStep) 29 = .ok (.invokevirtual 126, 3) := by decide +kernel
theorem dq_CO_makeStep_32 : decode (fx_cc mq_CO_makeStep) 32 = .ok (.goto 31, 3) := by decide +kernel
theorem dq_CO_makeStep_35 : decode (fx_cc mq_CO_makeStep) 35 = .ok (.aload_n 0, 1) := by decide +kernel
theorem dq_CO_makeStep_36 : decode (fx_cc mq_CO_makeStep) 36 = .ok (.getfield 42, 3) := by decide +kernel
theorem dq_CO_makeStep_39 : decode (fx_cc mq_CO_makeStep) 39 = .ok (.aload_n 0, 1) := by decide +kernel
theorem dq_CO_makeStep_40 : decode (fx_cc mq_CO_makeStep) 40 = .ok (.getfield 12, 3) := by decide +kernel
theorem dq_CO_makeStep_43 : decode (fx_cc mq_CO_makeStep) 43 = .ok (.getfield 86, 3) := by decide +kernel
theorem dq_CO_makeStep_46 : decode (fx_cc mq_CO_makeStep) 46 = .ok (.aload_n 0, 1) := by decide +kernel
theorem dq_CO_makeStep_47 : decode (fx_cc mq_CO_makeStep) 47 = .ok (.getfield 12, 3) := by decide +kernel
theorem dq_CO_makeStep_50 : decode (fx_cc mq_CO_makeStep) 50 = .ok (.getfield 129, 3) := by decide +kernel
theorem dq_CO_makeStep_53 : decode (fx_cc mq_CO_makeStep) 53 = .ok (.aload_n 0, 1) := by decide +kernel
theorem dq_CO_makeStep_54 : decode (fx_cc mq_CO_makeStep) 54 = .ok (.getfield 114, 3) := by decide +kernel
theorem dq_CO_makeStep_57 : decode (fx_cc mq_CO_makeStep) 57 = .ok (.iaload, 1) := by decide +kernel
theorem dq_CO_makeStep_58 : decode (fx_cc mq_CO_makeStep) 58 = .ok (.aaload, 1) := by decide +kernel
theorem dq_CO_makeStep_59 : decode (fx_cc mq_CO_makeStep) 59 = .ok (.aload_n 1, 1) := by decide +kernel
theorem dq_CO_makeStep_60 : decode (fx_cc mq_CO_makeStep) 60 = .ok (.invokevirtual 133, 3) := by decide +kernel
theorem dq_CO_makeStep_63 : decode (fx_cc mq_CO_makeStep) 63 = .ok (.aload_n 0, 1) := by decide +kernel
theorem dq_CO_makeStep_64 : decode (fx_cc mq_CO_makeStep) 64 = .ok (.aload_n 0, 1) := by decide +kernel
theorem dq_CO_makeStep_65 : decode (fx_cc mq_CO_makeStep) 65 = .ok (.aload_n 1, 1) := by decide +kernel
theorem dq_CO_makeStep_66 : decode (fx_cc mq_CO_makeStep) 66 = .ok (.invokevirtual 137, 3) := by decide +kernel
theorem dq_CO_makeStep_69 : decode (fx_cc mq_CO_makeStep) 69 = .ok (.putfield 114, 3) := by decide +kernel
theorem dq_CO_makeStep_72 : decode (fx_cc mq_CO_makeStep) 72 = .ok (.aload_n 0, 1) := by decide +kernel
theorem dq_CO_makeStep_73 : decode (fx_cc mq_CO_makeStep) 73 = .ok (.getfield 114, 3) := by decide +kernel
theorem dq_CO_makeStep_76 : decode (fx_cc mq_CO_makeStep) 76 = .ok (.aload_n 0, 1) := by decide +kernel
theorem dq_CO_makeStep_77 : decode (fx_cc mq_CO_makeStep) 77 = .ok (.getfield 12, 3) := by decide +kernel
theorem dq_CO_makeStep_80 : decode (fx_cc mq_CO_makeStep) 80 = .ok (.getfield 141, 3) := by decide +kernel
theorem dq_CO_makeStep_83 : decode (fx_cc mq_CO_makeStep) 83 = .ok (.if_icmp .ne 13, 3) := by decide +kernel
theorem dq_CO_makeStep_86 : decode (fx_cc mq_CO_makeStep) 86 = .ok (.aload_n 0, 1) := by decide +kernel
theorem dq_CO_makeStep_87 : decode (fx_cc mq_CO_makeStep) 87 = .ok (.aload_n 0, 1) := by decide +kernel
theorem dq_CO_makeStep_88 : decode (fx_cc mq_CO_makeStep) 88 = .ok (.getfield 111, 3) := by decide +kernel
theorem dq_CO_makeStep_91 : decode (fx_cc mq_CO_makeStep) 91 = .ok (.iconst 1, 1) := by decide +kernel
theorem dq_CO_makeStep_92 : decode (fx_cc mq_CO_makeStep) 92 = .ok (.iadd, 1) := by decide +kernel
theorem dq_CO_makeStep_93 : decode (fx_cc mq_CO_makeStep) 93 = .ok (.invokevirtual 78, 3) := by decide +kernel
theorem dq_CO_makeStep_96 : decode (fx_cc mq_CO_makeStep) 96 = .ok (.return_, 1) := by decide +kernel
theorem dq_ME_blacken_0 : decode (fx_cc mq_ME_blacken) 0 = .ok (.aload_n 1, 1) := by decide +kernel
theorem dq_ME_blacken_1 : decode (fx_cc mq_ME_blacken) 1 = .ok (.getfield 22, 3) := by decide +kernel
theorem dq_ME_blacken_4 : decode (fx_cc mq_ME_blacken) 4 = .ok (.istore_n 2, 1) := by decide +kernel
theorem dq_ME_blacken_5 : decode (fx_cc mq_ME_blacken) 5 = .ok (.iload_n 2, 1) := by decide +kernel
theorem dq_ME_blacken_6 : decode (fx_cc mq_ME_blacken) 6 = .ok (.aload_n 1, 1) := by decide +kernel
theorem dq_ME_blacken_7 : decode (fx_cc mq_ME_blacken) 7 = .ok (.getfield 22, 3) := by decide +kernel
theorem dq_ME_blacken_10 : decode (fx_cc mq_ME_blacken) 10 = .ok (.aload_n 1, 1) := by decide +kernel
theorem dq_ME_blacken_11 : decode (fx_cc mq_ME_blacken) 11 = .ok (.getfield 28, 3) := by decide +kernel
theorem dq_ME_blacken_14 : decode (fx_cc mq_ME_blacken) 14 = .ok (.iadd, 1) := by decide +kernel
theorem dq_ME_blacken_15 : decode (fx_cc mq_ME_blacken) 15 = .ok (.if_icmp .ge 45, 3) := by decide +kernel
theorem dq_ME_blacken_18 : decode (fx_cc mq_ME_blacken) 18 = .ok (.aload_n 1, 1) := by decide +kernel
theorem dq_ME_blacken_19 : decode (fx_cc mq_ME_blacken) 19 = .ok (.getfield 31, 3) := by decide +kernel
theorem dq_ME_blacken_22 : decode (fx_cc mq_ME_blacken) 22 = .ok (.istore_n 3, 1) := by decide +kernel
theorem dq_ME_blacken_23 : decode (fx_cc mq_ME_blacken) 23 = .ok (.iload_n 3, 1) := by decide +kernel
theorem dq_ME_blacken_24 : decode (fx_cc mq_ME_blacken) 24 = .ok (.aload_n 1, 1) := by decide +kernel
theorem dq_ME_blacken_25 : decode (fx_cc mq_ME_blacken) 25 = .ok (.getfield 31, 3) := by decide +kernel
theorem dq_ME_blacken_28 : decode (fx_cc mq_ME_blacken) 28 = .ok (.aload_n 1, 1) := by decide +kernel
theorem dq_ME_blacken_29 : decode (fx_cc mq_ME_blacken) 29 = .ok (.getfield 34, 3) := by decide +kernel
theorem dq_ME_blacken_32 : decode (fx_cc mq_ME_blacken) 32 = .ok (.iadd, 1) := by decide +kernel
theorem dq_ME_blacken_33 : decode (fx_cc mq_ME_blacken) 33 = .ok (.if_icmp .ge 21, 3) := by decide +kernel
theorem dq_ME_blacken_36 : decode (fx_cc mq_ME_blacken) 36 = .ok (.aload_n 0, 1) := by decide +kernel
theorem dq_ME_blacken_37 : decode (fx_cc mq_ME_blacken) 37 = .ok (.getfield 9, 3) := by decide +kernel
theorem dq_ME_blacken_40 : decode (fx_cc mq_ME_blacken) 40 = .ok (.iload_n 2, 1) := by decide +kernel
theorem dq_ME_blacken_41 : decode (fx_cc mq_ME_blacken) 41 = .ok (.bipush 20, 2) := by decide +kernel
theorem dq_ME_blacken_43 : decode (fx_cc mq_ME_blacken) 43 = .ok (.imul, 1) := by decide +kernel
theorem dq_ME_blacken_44 : decode (fx_cc mq_ME_blacken) 44 = .ok (.iload_n 3, 1) := by decide +kernel
theorem dq_ME_blacken_45 : decode (fx_cc mq_ME_blacken) 45 = .ok (.iadd, 1) := by decide +kernel
theorem dq_ME_blacken_46 : decode (fx_cc mq_ME_blacken) 46 = .ok (.iconst 0, 1) := by decide +kernel
theorem dq_ME_blacken_47 : decode (fx_cc mq_ME_blacken) 47 = .ok (.iastore, 1) := by decide +kernel
theorem dq_ME_blacken_48 : decode (fx_cc mq_ME_blacken) 48 = .ok (.iinc 3 1, 3) := by decide +kernel
theorem dq_ME_blacken_51 : decode (fx_cc mq_ME_blacken) 51 = .ok (.goto (-28), 3) := by decide +kernel
theorem dq_ME_blacken_54 : decode (fx_cc mq_ME_blacken) 54 = .ok (.iinc 2 1, 3) := by decide +kernel
theorem dq_ME_blacken_57 : decode (fx_cc mq_ME_blacken) 57 = .ok (.goto (-52), 3) := by decide +kernel
theorem dq_ME_blacken_60 : decode (fx_cc mq_ME_blacken) 60 = .ok (.return_, 1) := by decide +kernel
theorem dq_ME_paint_0 : decode (fx_cc mq_ME_paint) 0 = .ok (.aload_n 2, 1) := by decide +kernel
theorem dq_ME_paint_1 : decode (fx_cc mq_ME_paint) 1 = .ok (.getfield 22, 3) := by decide +kernel
theorem dq_ME_paint_4 : decode (fx_cc mq_ME_paint) 4 = .ok (.istore_n 3, 1) := by decide +kernel
theorem dq_ME_paint_5 : decode (fx_cc mq_ME_paint) 5 = .ok (.iload_n 3, 1) := by decide +kernel
theorem dq_ME_paint_6 : decode (fx_cc mq_ME_paint) 6 = .ok (.aload_n 2, 1) := by decide +kernel
theorem dq_ME_paint_7 : decode (fx_cc mq_ME_paint) 7 = .ok (.getfield 22, 3) := by decide +kernel
theorem dq_ME_paint_10 : decode (fx_cc mq_ME_paint) 10 = .ok (.aload_n 2, 1) := by decide +kernel
theorem dq_ME_paint_11 : decode (fx_cc mq_ME_paint) 11 = .ok (.getfield 28, 3) := by decide +kernel
theorem dq_ME_paint_14 : decode (fx_cc mq_ME_paint) 14 = .ok (.iadd, 1) := by decide +kernel
theorem dq_ME_paint_15 : decode (fx_cc mq_ME_paint) 15 = .ok (.if_icmp .ge 85, 3) := by decide +kernel
theorem dq_ME_paint_18 : decode (fx_cc mq_ME_paint) 18 = .ok (.aload_n 2, 1) := by decide +kernel
theorem dq_ME_paint_19 : decode (fx_cc mq_ME_paint) 19 = .ok (.getfield 31, 3) := by decide +kernel
theorem dq_ME_paint_22 : decode (fx_cc mq_ME_paint) 22 = .ok (.istore 4, 2) := by decide +kernel
theorem dq_ME_paint_24 : decode (fx_cc mq_ME_paint) 24 = .ok (.iload 4, 2) := by decide +kernel
theorem dq_ME_paint_26 : decode (fx_cc mq_ME_paint) 26 = .ok (.aload_n 2, 1) := by decide +kernel
theorem dq_ME_paint_27 : decode (fx_cc mq_ME_paint) 27 = .ok (.getfield 31, 3) := by decide +kernel
theorem dq_ME_paint_30 : decode (fx_cc mq_ME_paint) 30 = .ok (.aload_n 2, 1) := by decide +kernel
theorem dq_ME_paint_31 : decode (fx_cc mq_ME_paint) 31 = .ok (.getfield 34, 3) := by decide +kernel
theorem dq_ME_paint_34 : decode (fx_cc mq_ME_paint) 34 = .ok (.iadd, 1) := by decide +kernel
theorem dq_ME_paint_35 : decode (fx_cc mq_ME_paint) 35 = .ok (.if_icmp .ge 59, 3) := by decide +kernel
theorem dq_ME_paint_38 : decode (fx_cc mq_ME_paint) 38 = .ok (.aload_n 1, 1) := by decide +kernel
theorem dq_ME_paint_39 : decode (fx_cc mq_ME_paint) 39 = .ok (.getfield 37, 3) := by decide +kernel
theorem dq_ME_paint_42 : decode (fx_cc mq_ME_paint) 42 = .ok (.iload 4, 2) := by decide +kernel
theorem dq_ME_paint_44 : decode (fx_cc mq_ME_paint) 44 = .ok (.iload_n 3, 1) := by decide +kernel
theorem dq_ME_paint_45 : decode (fx_cc mq_ME_paint) 45 = .ok (.invokevirtual 43, 3) := by decide +kernel
theorem dq_ME_paint_48 : decode (fx_cc mq_ME_paint) 48 = .ok (.ifCond .eq 40, 3) := by decide +kernel
theorem dq_ME_paint_51 : decode (fx_cc mq_ME_paint) 51 = .ok (.iload_n 3, 1) := by decide +kernel
theorem dq_ME_paint_52 : decode (fx_cc mq_ME_paint) 52 = .ok (.bipush 20, 2) := by decide +kernel
theorem dq_ME_paint_54 : decode (fx_cc mq_ME_paint) 54 = .ok (.imul, 1) := by decide +kernel
theorem dq_ME_paint_55 : decode (fx_cc mq_ME_paint) 55 = .ok (.iload 4, 2) := by decide +kernel
theorem dq_ME_paint_57 : decode (fx_cc mq_ME_paint) 57 = .ok (.iadd, 1) := by decide +kernel
theorem dq_ME_paint_58 : decode (fx_cc mq_ME_paint) 58 = .ok (.istore 5, 2) := by decide +kernel
theorem dq_ME_paint_60 : decode (fx_cc mq_ME_paint) 60 = .ok (.aload_n 0, 1) := by decide +kernel
theorem dq_ME_paint_61 : decode (fx_cc mq_ME_paint) 61 = .ok (.getfield 9, 3) := by decide +kernel
theorem dq_ME_paint_64 : decode (fx_cc mq_ME_paint) 64 = .ok (.iload 5, 2) := by decide +kernel
theorem dq_ME_paint_66 : decode (fx_cc mq_ME_paint) 66 = .ok (.aload_n 1, 1) := by decide +kernel
theorem dq_ME_paint_67 : decode (fx_cc mq_ME_paint) 67 = .ok (.iload 4, 2) := by decide +kernel
theorem dq_ME_paint_69 : decode (fx_cc mq_ME_paint) 69 = .ok (.iload_n 3, 1) := by decide +kernel
theorem dq_ME_paint_70 : decode (fx_cc mq_ME_paint) 70 = .ok (.invokevirtual 47, 3) := by decide +kernel
theorem dq_ME_paint_73 : decode (fx_cc mq_ME_paint) 73 = .ok (.aload_n 0, 1) := by decide +kernel
theorem dq_ME_paint_74 : decode (fx_cc mq_ME_paint) 74 = .ok (.getfield 9, 3) := by decide +kernel
theorem dq_ME_paint_77 : decode (fx_cc mq_ME_paint) 77 = .ok (.iload 5, 2) := by decide +kernel
theorem dq_ME_paint_79 : decode (fx_cc mq_ME_paint) 79 = .ok (.iaload, 1) := by decide +kernel
theorem dq_ME_paint_80 : decode (fx_cc mq_ME_paint) 80 = .ok (.aload_n 1, 1) := by decide +kernel
theorem dq_ME_paint_81 : decode (fx_cc mq_ME_paint) 81 = .ok (.getfield 51, 3) := by decide +kernel
theorem dq_ME_paint_84 : decode (fx_cc mq_ME_paint) 84 = .ok (.invokestatic 54, 3) := by decide +kernel
theorem dq_ME_paint_87 : decode (fx_cc mq_ME_paint) 87 = .ok (.iastore, 1) := by decide +kernel
theorem dq_ME_paint_88 : decode (fx_cc mq_ME_paint) 88 = .ok (.iinc 4 1, 3) := by decide +kernel
theorem dq_ME_paint_91 : decode (fx_cc mq_ME_paint) 91 = .ok (.goto (-67), 3) := by decide +kernel
theorem dq_ME_paint_94 : decode (fx_cc mq_ME_paint) 94 = .ok (.iinc 3 1, 3) := by decide +kernel
theorem dq_ME_paint_97 : decode (fx_cc mq_ME_paint) 97 = .ok (.goto (-92), 3) := by decide +kernel
theorem dq_ME_paint_100 : decode (fx_cc mq_ME_paint) 100 = .ok (.return_, 1) := by decide +kernel
theorem dq_CO_nextLevel_0 : decode (fx_cc mq_CO_nextLevel) 0 = .ok (.aload_n 0, 1) := by decide +kernel
theorem dq_CO_nextLevel_1 : decode (fx_cc mq_CO_nextLevel) 1 = .ok (.getfield 114, 3) := by decide +kernel
theorem dq_CO_nextLevel_4 : decode (fx_cc mq_CO_nextLevel) 4 = .ok (.iconst 1, 1) := by decide +kernel
theorem dq_CO_nextLevel_5 : decode (fx_cc mq_CO_nextLevel) 5 = .ok (.iadd, 1) := by decide +kernel
theorem dq_CO_nextLevel_6 : decode (fx_cc mq_CO_nextLevel) 6 = .ok (.istore_n 2, 1) := by decide +kernel
theorem dq_CO_nextLevel_7 : decode (fx_cc mq_CO_nextLevel) 7 = .ok (.iload_n 2, 1) := by decide +kernel
theorem dq_CO_nextLevel_8 : decode (fx_cc mq_CO_nextLevel) 8 = .ok (.aload_n 0, 1) := by decide +kernel
theorem dq_CO_nextLevel_9 : decode (fx_cc mq_CO_nextLevel) 9 = .ok (.getfield 12, 3) := by decide +kernel
theorem dq_CO_nextLevel_12 : decode (fx_cc mq_CO_nextLevel) 12 = .ok (.getfield 141, 3) := by decide +kernel
theorem dq_CO_nextLevel_15 : decode (fx_cc mq_CO_nextLevel) 15 = .ok (.if_icmp .ge 51, 3) := by decide +kernel
theorem dq_CO_nextLevel_18 : decode (fx_cc mq_CO_nextLevel) 18 = .ok (.aload_n 0, 1) := by decide +kernel
theorem dq_CO_nextLevel_19 : decode (fx_cc mq_CO_nextLevel) 19 = .ok (.getfield 12, 3) := by decide +kernel
theorem dq_CO_nextLevel_22 : decode (fx_cc mq_CO_nextLevel) 22 = .ok (.getfield 129, 3) := by decide +kernel
theorem dq_CO_nextLevel_25 : decode (fx_cc mq_CO_nextLevel) 25 = .ok (.iload_n 2, 1) := by decide +kernel
theorem dq_CO_nextLevel_26 : decode (fx_cc mq_CO_nextLevel) 26 = .ok (.iaload, 1) := by decide +kernel
theorem dq_CO_nextLevel_27 : decode (fx_cc mq_CO_nextLevel) 27 = .ok (.istore_n 3, 1) := by decide +kernel
theorem dq_CO_nextLevel_28 : decode (fx_cc mq_CO_nextLevel) 28 = .ok (.aload_n 0, 1) := by decide +kernel
theorem dq_CO_nextLevel_29 : decode (fx_cc mq_CO_nextLevel) 29 = .ok (.getfield 21, 3) := by decide +kernel
theorem dq_CO_nextLevel_32 : decode (fx_cc mq_CO_nextLevel) 32 = .ok (.iload_n 3, 1) := by decide +kernel
theorem dq_CO_nextLevel_33 : decode (fx_cc mq_CO_nextLevel) 33 = .ok (.invokevirtual 82, 3) := by decide +kernel
theorem dq_CO_nextLevel_36 : decode (fx_cc mq_CO_nextLevel) 36 = .ok (.ifCond .ne 24, 3) := by decide +kernel
theorem dq_CO_nextLevel_39 : decode (fx_cc mq_CO_nextLevel) 39 = .ok (.aload_n 0, 1) := by decide +kernel
theorem dq_CO_nextLevel_40 : decode (fx_cc mq_CO_nextLevel) 40 = .ok (.getfield 12, 3) := by decide +kernel
theorem dq_CO_nextLevel_43 : decode (fx_cc mq_CO_nextLevel) 43 = .ok (.getfield 86, 3) := by decide +kernel
theorem dq_CO_nextLevel_46 : decode (fx_cc mq_CO_nextLevel) 46 = .ok (.iload_n 3, 1) := by decide +kernel
theorem dq_CO_nextLevel_47 : decode (fx_cc mq_CO_nextLevel) 47 = .ok (.aaload, 1) := by decide +kernel
theorem dq_CO_nextLevel_48 : decode (fx_cc mq_CO_nextLevel) 48 = .ok (.getfield 90, 3) := by decide +kernel
theorem dq_CO_nextLevel_51 : decode (fx_cc mq_CO_nextLevel) 51 = .ok (.aload_n 1, 1) := by decide +kernel
theorem dq_CO_nextLevel_52 : decode (fx_cc mq_CO_nextLevel) 52 = .ok (.invokevirtual 144, 3) := by decide +kernel
theorem dq_CO_nextLevel_55 : decode (fx_cc mq_CO_nextLevel) 55 = .ok (.ifCond .eq 5, 3) := by decide +kernel
theorem dq_CO_nextLevel_58 : decode (fx_cc mq_CO_nextLevel) 58 = .ok (.iload_n 2, 1) := by decide +kernel
theorem dq_CO_nextLevel_59 : decode (fx_cc mq_CO_nextLevel) 59 = .ok (.ireturn, 1) := by decide +kernel
theorem dq_CO_nextLevel_60 : decode (fx_cc mq_CO_nextLevel) 60 = .ok (.iinc 2 1, 3) := by decide +kernel
theorem dq_CO_nextLevel_63 : decode (fx_cc mq_CO_nextLevel) 63 = .ok (.goto (-56), 3) := by decide +kernel
theorem dq_CO_nextLevel_66 : decode (fx_cc mq_CO_nextLevel) 66 = .ok (.aload_n 0, 1) := by decide +kernel
theorem dq_CO_nextLevel_67 : decode (fx_cc mq_CO_nextLevel) 67 = .ok (.getfield 12, 3) := by decide +kernel
theorem dq_CO_nextLevel_70 : decode (fx_cc mq_CO_nextLevel) 70 = .ok (.getfield 141, 3) := by decide +kernel
theorem dq_CO_nextLevel_73 : decode (fx_cc mq_CO_nextLevel) 73 = .ok (.ireturn, 1) := by decide +kernel
theorem dq_MO_init_0 : decode (fx_cc mq_MO_init) 0 = .ok (.aload_n 0, 1) := by decide +kernel
theorem dq_MO_init_1 : decode (fx_cc mq_MO_init) 1 = .ok (.invokespecial 1, 3) := by decide +kernel
theorem dq_MO_init_4 : decode (fx_cc mq_MO_init) 4 = .ok (.aload_n 0, 1) := by decide +kernel
theorem dq_MO_init_5 : decode (fx_cc mq_MO_init) 5 = .ok (.bipush 10, 2) := by decide +kernel
theorem dq_MO_init_7 : decode (fx_cc mq_MO_init) 7 = .ok (.newarray .boolean, 2) := by decide +kernel
theorem dq_MO_init_9 : decode (fx_cc mq_MO_init) 9 = .ok (.putfield 7, 3) := by decide +kernel
theorem dq_MO_init_12 : decode (fx_cc mq_MO_init) 12 = .ok (.aload_n 0, 1) := by decide +kernel
theorem dq_MO_init_13 : decode (fx_cc mq_MO_init) 13 = .ok (.bipush 10, 2) := by decide +kernel
theorem dq_MO_init_15 : decode (fx_cc mq_MO_init) 15 = .ok (.newarray .int, 2) := by decide +kernel
theorem dq_MO_init_17 : decode (fx_cc mq_MO_init) 17 = .ok (.putfield 13, 3) := by decide +kernel
theorem dq_MO_init_20 : decode (fx_cc mq_MO_init) 20 = .ok (.aload_n 0, 1) := by decide +kernel
theorem dq_MO_init_21 : decode (fx_cc mq_MO_init) 21 = .ok (.bipush 10, 2) := by decide +kernel
theorem dq_MO_init_23 : decode (fx_cc mq_MO_init) 23 = .ok (.newarray .int, 2) := by decide +kernel
theorem dq_MO_init_25 : decode (fx_cc mq_MO_init) 25 = .ok (.putfield 17, 3) := by decide +kernel
theorem dq_MO_init_28 : decode (fx_cc mq_MO_init) 28 = .ok (.aload_n 0, 1) := by decide +kernel
theorem dq_MO_init_29 : decode (fx_cc mq_MO_init) 29 = .ok (.bipush 10, 2) := by decide +kernel
theorem dq_MO_init_31 : decode (fx_cc mq_MO_init) 31 = .ok (.newarray .int, 2) := by decide +kernel
theorem dq_MO_init_33 : decode (fx_cc mq_MO_init) 33 = .ok (.putfield 20, 3) := by decide +kernel
theorem dq_MO_init_36 : decode (fx_cc mq_MO_init) 36 = .ok (.aload_n 0, 1) := by decide +kernel
theorem dq_MO_init_37 : decode (fx_cc mq_MO_init) 37 = .ok (.bipush 10, 2) := by decide +kernel
theorem dq_MO_init_39 : decode (fx_cc mq_MO_init) 39 = .ok (.newarray .boolean, 2) := by decide +kernel
theorem dq_MO_init_41 : decode (fx_cc mq_MO_init) 41 = .ok (.putfield 23, 3) := by decide +kernel
theorem dq_MO_init_44 : decode (fx_cc mq_MO_init) 44 = .ok (.aload_n 0, 1) := by decide +kernel
theorem dq_MO_init_45 : decode (fx_cc mq_MO_init) 45 = .ok (.bipush 10, 2) := by decide +kernel
theorem dq_MO_init_47 : decode (fx_cc mq_MO_init) 47 = .ok (.newarray .boolean, 2) := by decide +kernel
theorem dq_MO_init_49 : decode (fx_cc mq_MO_init) 49 = .ok (.putfield 26, 3) := by decide +kernel
theorem dq_MO_init_52 : decode (fx_cc mq_MO_init) 52 = .ok (.aload_n 0, 1) := by decide +kernel
theorem dq_MO_init_53 : decode (fx_cc mq_MO_init) 53 = .ok (.bipush 30, 2) := by decide +kernel
theorem dq_MO_init_55 : decode (fx_cc mq_MO_init) 55 = .ok (.newarray .boolean, 2) := by decide +kernel
theorem dq_MO_init_57 : decode (fx_cc mq_MO_init) 57 = .ok (.putfield 29, 3) := by decide +kernel
theorem dq_MO_init_60 : decode (fx_cc mq_MO_init) 60 = .ok (.aload_n 0, 1) := by decide +kernel
theorem dq_MO_init_61 : decode (fx_cc mq_MO_init) 61 = .ok (.bipush 30, 2) := by decide +kernel
theorem dq_MO_init_63 : decode (fx_cc mq_MO_init) 63 = .ok (.newarray .int, 2) := by decide +kernel
theorem dq_MO_init_65 : decode (fx_cc mq_MO_init) 65 = .ok (.putfield 32, 3) := by decide +kernel
theorem dq_MO_init_68 : decode (fx_cc mq_MO_init) 68 = .ok (.aload_n 0, 1) := by decide +kernel
theorem dq_MO_init_69 : decode (fx_cc mq_MO_init) 69 = .ok (.bipush 30, 2) := by decide +kernel
theorem dq_MO_init_71 : decode (fx_cc mq_MO_init) 71 = .ok (.newarray .int, 2) := by decide +kernel
theorem dq_MO_init_73 : decode (fx_cc mq_MO_init) 73 = .ok (.putfield 35, 3) := by decide +kernel
theorem dq_MO_init_76 : decode (fx_cc mq_MO_init) 76 = .ok (.aload_n 0, 1) := by decide +kernel
theorem dq_MO_init_77 : decode (fx_cc mq_MO_init) 77 = .ok (.bipush 30, 2) := by decide +kernel
theorem dq_MO_init_79 : decode (fx_cc mq_MO_init) 79 = .ok (.newarray .int, 2) := by decide +kernel
theorem dq_MO_init_81 : decode (fx_cc mq_MO_init) 81 = .ok (.putfield 38, 3) := by decide +kernel
theorem dq_MO_init_84 : decode (fx_cc mq_MO_init) 84 = .ok (.aload_n 0, 1) := by decide +kernel
theorem dq_MO_init_85 : decode (fx_cc mq_MO_init) 85 = .ok (.bipush 30, 2) := by decide +kernel
theorem dq_MO_init_87 : decode (fx_cc mq_MO_init) 87 = .ok (.newarray .int, 2) := by decide +kernel
theorem dq_MO_init_89 : decode (fx_cc mq_MO_init) 89 = .ok (.putfield 41, 3) := by decide +kernel
theorem dq_MO_init_92 : decode (fx_cc mq_MO_init) 92 = .ok (.aload_n 0, 1) := by decide +kernel
theorem dq_MO_init_93 : decode (fx_cc mq_MO_init) 93 = .ok (.bipush 30, 2) := by decide +kernel
theorem dq_MO_init_95 : decode (fx_cc mq_MO_init) 95 = .ok (.newarray .boolean, 2) := by decide +kernel
theorem dq_MO_init_97 : decode (fx_cc mq_MO_init) 97 = .ok (.putfield 44, 3) := by decide +kernel
theorem dq_MO_init_100 : decode (fx_cc mq_MO_init) 100 = .ok (.aload_n 0, 1) := by decide +kernel
theorem dq_MO_init_101 : decode (fx_cc mq_MO_init) 101 = .ok (.bipush 30, 2) := by decide +kernel
theorem dq_MO_init_103 : decode (fx_cc mq_MO_init) 103 = .ok (.newarray .int, 2) := by decide +kernel
theorem dq_MO_init_105 : decode (fx_cc mq_MO_init) 105 = .ok (.putfield 47, 3) := by decide +kernel
theorem dq_MO_init_108 : decode (fx_cc mq_MO_init) 108 = .ok (.aload_n 0, 1) := by decide +kernel
theorem dq_MO_init_109 : decode (fx_cc mq_MO_init) 109 = .ok (.bipush 30, 2) := by decide +kernel
theorem dq_MO_init_111 : decode (fx_cc mq_MO_init) 111 = .ok (.newarray .int, 2) := by decide +kernel
theorem dq_MO_init_113 : decode (fx_cc mq_MO_init) 113 = .ok (.putfield 50, 3) := by decide +kernel
theorem dq_MO_init_116 : decode (fx_cc mq_MO_init) 116 = .ok (.aload_n 0, 1) := by decide +kernel
theorem dq_MO_init_117 : decode (fx_cc mq_MO_init) 117 = .ok (.bipush 30, 2) := by decide +kernel
theorem dq_MO_init_119 : decode (fx_cc mq_MO_init) 119 = .ok (.newarray .int, 2) := by decide +kernel
theorem dq_MO_init_121 : decode (fx_cc mq_MO_init) 121 = .ok (.putfield 53, 3) := by decide +kernel
theorem dq_MO_init_124 : decode (fx_cc mq_MO_init) 124 = .ok (.aload_n 0, 1) := by decide +kernel
theorem dq_MO_init_125 : decode (fx_cc mq_MO_init) 125 = .ok (.bipush 30, 2) := by decide +kernel
end
section
/-! ===== a row for each instruction ===== -/
theorem dq_MO_init_127 : decode (fx_cc mq_MO_init) 127 = .ok (.newarray .int, 2) := by decide +kernel
theorem dq_MO_init_129 : decode (fx_cc mq_MO_init) 129 = .ok (.putfield 56, 3) := by decide +kernel
theorem dq_MO_init_132 : decode (fx_cc mq_MO_init) 132 = .ok (.aload_n 0, 1) := by decide +kernel
theorem dq_MO_init_133 : decode (fx_cc mq_MO_init) 133 = .ok (.sipush 2880, 3) := by decide +kernel
theorem dq_MO_init_136 : decode (fx_cc mq_MO_init) 136 = .ok (.newarray .int, 2) := by decide +kernel
theorem dq_MO_init_138 : decode (fx_cc mq_MO_init) 138 = .ok (.putfield 59, 3) := by decide +kernel
theorem dq_MO_init_141 : decode (fx_cc mq_MO_init) 141 = .ok (.aload_n 0, 1) := by decide +kernel
theorem dq_MO_init_142 : decode (fx_cc mq_MO_init) 142 = .ok (.bipush 96, 2) := by decide +kernel
theorem dq_MO_init_144 : decode (fx_cc mq_MO_init) 144 = .ok (.newarray .int, 2) := by decide +kernel
theorem dq_MO_init_146 : decode (fx_cc mq_MO_init) 146 = .ok (.putfield 62, 3) := by decide +kernel
theorem dq_MO_init_149 : decode (fx_cc mq_MO_init) 149 = .ok (.aload_n 0, 1) := by decide +kernel
theorem dq_MO_init_150 : decode (fx_cc mq_MO_init) 150 = .ok (.iconst 4, 1) := by decide +kernel
theorem dq_MO_init_151 : decode (fx_cc mq_MO_init) 151 = .ok (.newarray .boolean, 2) := by decide +kernel
theorem dq_MO_init_153 : decode (fx_cc mq_MO_init) 153 = .ok (.putfield 65, 3) := by decide +kernel
theorem dq_MO_init_156 : decode (fx_cc mq_MO_init) 156 = .ok (.aload_n 0, 1) := by decide +kernel
theorem dq_MO_init_157 : decode (fx_cc mq_MO_init) 157 = .ok (.iconst 1, 1) := by decide +kernel
theorem dq_MO_init_158 : decode (fx_cc mq_MO_init) 158 = .ok (.putfield 68, 3) := by decide +kernel
theorem dq_MO_init_161 : decode (fx_cc mq_MO_init) 161 = .ok (.aload_n 0, 1) := by decide +kernel
theorem dq_MO_init_162 : decode (fx_cc mq_MO_init) 162 = .ok (.sipush 400, 3) := by decide +kernel
theorem dq_MO_init_165 : decode (fx_cc mq_MO_init) 165 = .ok (.newarray .int, 2) := by decide +kernel
theorem dq_MO_init_167 : decode (fx_cc mq_MO_init) 167 = .ok (.putfield 72, 3) := by decide +kernel
theorem dq_MO_init_170 : decode (fx_cc mq_MO_init) 170 = .ok (.aload_n 0, 1) := by decide +kernel
theorem dq_MO_init_171 : decode (fx_cc mq_MO_init) 171 = .ok (.iconst 2, 1) := by decide +kernel
theorem dq_MO_init_172 : decode (fx_cc mq_MO_init) 172 = .ok (.newarray .int, 2) := by decide +kernel
theorem dq_MO_init_174 : decode (fx_cc mq_MO_init) 174 = .ok (.putfield 75, 3) := by decide +kernel
theorem dq_MO_init_177 : decode (fx_cc mq_MO_init) 177 = .ok (.aload_n 0, 1) := by decide +kernel
theorem dq_MO_init_178 : decode (fx_cc mq_MO_init) 178 = .ok (.bipush 14, 2) := by decide +kernel
theorem dq_MO_init_180 : decode (fx_cc mq_MO_init) 180 = .ok (.newarray .int, 2) := by decide +kernel
theorem dq_MO_init_182 : decode (fx_cc mq_MO_init) 182 = .ok (.putfield 78, 3) := by decide +kernel
theorem dq_MO_init_185 : decode (fx_cc mq_MO_init) 185 = .ok (.aload_n 0, 1) := by decide +kernel
theorem dq_MO_init_186 : decode (fx_cc mq_MO_init) 186 = .ok (.bipush 14, 2) := by decide +kernel
theorem dq_MO_init_188 : decode (fx_cc mq_MO_init) 188 = .ok (.newarray .int, 2) := by decide +kernel
theorem dq_MO_init_190 : decode (fx_cc mq_MO_init) 190 = .ok (.putfield 81, 3) := by decide +kernel
theorem dq_MO_init_193 : decode (fx_cc mq_MO_init) 193 = .ok (.aload_n 0, 1) := by decide +kernel
theorem dq_MO_init_194 : decode (fx_cc mq_MO_init) 194 = .ok (.bipush 14, 2) := by decide +kernel
theorem dq_MO_init_196 : decode (fx_cc mq_MO_init) 196 = .ok (.newarray .int, 2) := by decide +kernel
theorem dq_MO_init_198 : decode (fx_cc mq_MO_init) 198 = .ok (.putfield 84, 3) := by decide +kernel
theorem dq_MO_init_201 : decode (fx_cc mq_MO_init) 201 = .ok (.aload_n 0, 1) := by decide +kernel
theorem dq_MO_init_202 : decode (fx_cc mq_MO_init) 202 = .ok (.bipush 14, 2) := by decide +kernel
theorem dq_MO_init_204 : decode (fx_cc mq_MO_init) 204 = .ok (.newarray .int, 2) := by decide +kernel
theorem dq_MO_init_206 : decode (fx_cc mq_MO_init) 206 = .ok (.putfield 87, 3) := by decide +kernel
theorem dq_MO_init_209 : decode (fx_cc mq_MO_init) 209 = .ok (.aload_n 0, 1) := by decide +kernel
theorem dq_MO_init_210 : decode (fx_cc mq_MO_init) 210 = .ok (.iconst 2, 1) := by decide +kernel
theorem dq_MO_init_211 : decode (fx_cc mq_MO_init) 211 = .ok (.newarray .int, 2) := by decide +kernel
theorem dq_MO_init_213 : decode (fx_cc mq_MO_init) 213 = .ok (.putfield 90, 3) := by decide +kernel
theorem dq_MO_init_216 : decode (fx_cc mq_MO_init) 216 = .ok (.aload_n 0, 1) := by decide +kernel
theorem dq_MO_init_217 : decode (fx_cc mq_MO_init) 217 = .ok (.bipush 10, 2) := by decide +kernel
theorem dq_MO_init_219 : decode (fx_cc mq_MO_init) 219 = .ok (.newarray .int, 2) := by decide +kernel
theorem dq_MO_init_221 : decode (fx_cc mq_MO_init) 221 = .ok (.putfield 93, 3) := by decide +kernel
theorem dq_MO_init_224 : decode (fx_cc mq_MO_init) 224 = .ok (.aload_n 0, 1) := by decide +kernel
theorem dq_MO_init_225 : decode (fx_cc mq_MO_init) 225 = .ok (.bipush 10, 2) := by decide +kernel
theorem dq_MO_init_227 : decode (fx_cc mq_MO_init) 227 = .ok (.newarray .int, 2) := by decide +kernel
theorem dq_MO_init_229 : decode (fx_cc mq_MO_init) 229 = .ok (.putfield 96, 3) := by decide +kernel
theorem dq_MO_init_232 : decode (fx_cc mq_MO_init) 232 = .ok (.aload_n 0, 1) := by decide +kernel
theorem dq_MO_init_233 : decode (fx_cc mq_MO_init) 233 = .ok (.bipush 10, 2) := by decide +kernel
theorem dq_MO_init_235 : decode (fx_cc mq_MO_init) 235 = .ok (.newarray .int, 2) := by decide +kernel
theorem dq_MO_init_237 : decode (fx_cc mq_MO_init) 237 = .ok (.putfield 99, 3) := by decide +kernel
theorem dq_MO_init_240 : decode (fx_cc mq_MO_init) 240 = .ok (.aload_n 0, 1) := by decide +kernel
theorem dq_MO_init_241 : decode (fx_cc mq_MO_init) 241 = .ok (.bipush 10, 2) := by decide +kernel
theorem dq_MO_init_243 : decode (fx_cc mq_MO_init) 243 = .ok (.newarray .int, 2) := by decide +kernel
theorem dq_MO_init_245 : decode (fx_cc mq_MO_init) 245 = .ok (.putfield 102, 3) := by decide +kernel
theorem dq_MO_init_248 : decode (fx_cc mq_MO_init) 248 = .ok (.aload_n 0, 1) := by decide +kernel
theorem dq_MO_init_249 : decode (fx_cc mq_MO_init) 249 = .ok (.bipush 10, 2) := by decide +kernel
theorem dq_MO_init_251 : decode (fx_cc mq_MO_init) 251 = .ok (.newarray .boolean, 2) := by decide +kernel
theorem dq_MO_init_253 : decode (fx_cc mq_MO_init) 253 = .ok (.putfield 105, 3) := by decide +kernel
theorem dq_MO_init_256 : decode (fx_cc mq_MO_init) 256 = .ok (.aload_n 0, 1) := by decide +kernel
theorem dq_MO_init_257 : decode (fx_cc mq_MO_init) 257 = .ok (.iconst 2, 1) := by decide +kernel
theorem dq_MO_init_258 : decode (fx_cc mq_MO_init) 258 = .ok (.newarray .int, 2) := by decide +kernel
theorem dq_MO_init_260 : decode (fx_cc mq_MO_init) 260 = .ok (.putfield 108, 3) := by decide +kernel
theorem dq_MO_init_263 : decode (fx_cc mq_MO_init) 263 = .ok (.aload_n 0, 1) := by decide +kernel
theorem dq_MO_init_264 : decode (fx_cc mq_MO_init) 264 = .ok (.iconst 2, 1) := by decide +kernel
theorem dq_MO_init_265 : decode (fx_cc mq_MO_init) 265 = .ok (.newarray .int, 2) := by decide +kernel
theorem dq_MO_init_267 : decode (fx_cc mq_MO_init) 267 = .ok (.putfield 111, 3) := by decide +kernel
theorem dq_MO_init_270 : decode (fx_cc mq_MO_init) 270 = .ok (.aload_n 0, 1) := by decide +kernel
theorem dq_MO_init_271 : decode (fx_cc mq_MO_init) 271 = .ok (.iconst 2, 1) := by decide +kernel
theorem dq_MO_init_272 : decode (fx_cc mq_MO_init) 272 = .ok (.newarray .int, 2) := by decide +kernel
theorem dq_MO_init_274 : decode (fx_cc mq_MO_init) 274 = .ok (.putfield 114, 3) := by decide +kernel
theorem dq_MO_init_277 : decode (fx_cc mq_MO_init) 277 = .ok (.aload_n 0, 1) := by decide +kernel
theorem dq_MO_init_278 : decode (fx_cc mq_MO_init) 278 = .ok (.iconst 2, 1) := by decide +kernel
theorem dq_MO_init_279 : decode (fx_cc mq_MO_init) 279 = .ok (.newarray .int, 2) := by decide +kernel
theorem dq_MO_init_281 : decode (fx_cc mq_MO_init) 281 = .ok (.putfield 117, 3) := by decide +kernel
theorem dq_MO_init_284 : decode (fx_cc mq_MO_init) 284 = .ok (.aload_n 0, 1) := by decide +kernel
theorem dq_MO_init_285 : decode (fx_cc mq_MO_init) 285 = .ok (.bipush 48, 2) := by decide +kernel
theorem dq_MO_init_287 : decode (fx_cc mq_MO_init) 287 = .ok (.newarray .int, 2) := by decide +kernel
theorem dq_MO_init_289 : decode (fx_cc mq_MO_init) 289 = .ok (.putfield 120, 3) := by decide +kernel
theorem dq_MO_init_292 : decode (fx_cc mq_MO_init) 292 = .ok (.aload_n 0, 1) := by decide +kernel
theorem dq_MO_init_293 : decode (fx_cc mq_MO_init) 293 = .ok (.sipush 200, 3) := by decide +kernel
theorem dq_MO_init_296 : decode (fx_cc mq_MO_init) 296 = .ok (.newarray .int, 2) := by decide +kernel
theorem dq_MO_init_298 : decode (fx_cc mq_MO_init) 298 = .ok (.putfield 123, 3) := by decide +kernel
theorem dq_MO_init_301 : decode (fx_cc mq_MO_init) 301 = .ok (.aload_n 0, 1) := by decide +kernel
theorem dq_MO_init_302 : decode (fx_cc mq_MO_init) 302 = .ok (.getfield 90, 3) := by decide +kernel
theorem dq_MO_init_305 : decode (fx_cc mq_MO_init) 305 = .ok (.iconst 0, 1) := by decide +kernel
theorem dq_MO_init_306 : decode (fx_cc mq_MO_init) 306 = .ok (.iconst (-1), 1) := by decide +kernel
theorem dq_MO_init_307 : decode (fx_cc mq_MO_init) 307 = .ok (.iastore, 1) := by decide +kernel
theorem dq_MO_init_308 : decode (fx_cc mq_MO_init) 308 = .ok (.aload_n 0, 1) := by decide +kernel
theorem dq_MO_init_309 : decode (fx_cc mq_MO_init) 309 = .ok (.getfield 90, 3) := by decide +kernel
theorem dq_MO_init_312 : decode (fx_cc mq_MO_init) 312 = .ok (.iconst 1, 1) := by decide +kernel
theorem dq_MO_init_313 : decode (fx_cc mq_MO_init) 313 = .ok (.iconst (-1), 1) := by decide +kernel
theorem dq_MO_init_314 : decode (fx_cc mq_MO_init) 314 = .ok (.iastore, 1) := by decide +kernel
theorem dq_MO_init_315 : decode (fx_cc mq_MO_init) 315 = .ok (.return_, 1) := by decide +kernel
theorem dq_MO_thrown_0 : decode (fx_cc mq_MO_thrown) 0 = .ok (.aload_n 0, 1) := by decide +kernel
theorem dq_MO_thrown_1 : decode (fx_cc mq_MO_thrown) 1 = .ok (.getfield 126, 3) := by decide +kernel
theorem dq_MO_thrown_4 : decode (fx_cc mq_MO_thrown) 4 = .ok (.ireturn, 1) := by decide +kernel
theorem dq_MO_surface_0 : decode (fx_cc mq_MO_surface) 0 = .ok (.aload_n 0, 1) := by decide +kernel
theorem dq_MO_surface_1 : decode (fx_cc mq_MO_surface) 1 = .ok (.iload_n 1, 1) := by decide +kernel
theorem dq_MO_surface_2 : decode (fx_cc mq_MO_surface) 2 = .ok (.iconst 0, 1) := by decide +kernel
theorem dq_MO_surface_3 : decode (fx_cc mq_MO_surface) 3 = .ok (.iconst 3, 1) := by decide +kernel
theorem dq_MO_surface_4 : decode (fx_cc mq_MO_surface) 4 = .ok (.invokestatic 129, 3) := by decide +kernel
theorem dq_MO_surface_7 : decode (fx_cc mq_MO_surface) 7 = .ok (.ifCond .eq 27, 3) := by decide +kernel
theorem dq_MO_surface_10 : decode (fx_cc mq_MO_surface) 10 = .ok (.iload_n 2, 1) := by decide +kernel
theorem dq_MO_surface_11 : decode (fx_cc mq_MO_surface) 11 = .ok (.iconst 1, 1) := by decide +kernel
theorem dq_MO_surface_12 : decode (fx_cc mq_MO_surface) 12 = .ok (.bipush 12, 2) := by decide +kernel
theorem dq_MO_surface_14 : decode (fx_cc mq_MO_surface) 14 = .ok (.invokestatic 129, 3) := by decide +kernel
theorem dq_MO_surface_17 : decode (fx_cc mq_MO_surface) 17 = .ok (.ifCond .eq 17, 3) := by decide +kernel
theorem dq_MO_surface_20 : decode (fx_cc mq_MO_surface) 20 = .ok (.iload_n 3, 1) := by decide +kernel
theorem dq_MO_surface_21 : decode (fx_cc mq_MO_surface) 21 = .ok (.iconst 1, 1) := by decide +kernel
theorem dq_MO_surface_22 : decode (fx_cc mq_MO_surface) 22 = .ok (.bipush 8, 2) := by decide +kernel
theorem dq_MO_surface_24 : decode (fx_cc mq_MO_surface) 24 = .ok (.invokestatic 129, 3) := by decide +kernel
theorem dq_MO_surface_27 : decode (fx_cc mq_MO_surface) 27 = .ok (.ifCond .eq 7, 3) := by decide +kernel
theorem dq_MO_surface_30 : decode (fx_cc mq_MO_surface) 30 = .ok (.iconst 0, 1) := by decide +kernel
theorem dq_MO_surface_31 : decode (fx_cc mq_MO_surface) 31 = .ok (.goto 4, 3) := by decide +kernel
theorem dq_MO_surface_34 : decode (fx_cc mq_MO_surface) 34 = .ok (.iconst 1, 1) := by decide +kernel
theorem dq_MO_surface_35 : decode (fx_cc mq_MO_surface) 35 = .ok (.putfield 126, 3) := by decide +kernel
theorem dq_MO_surface_38 : decode (fx_cc mq_MO_surface) 38 = .ok (.aload_n 0, 1) := by decide +kernel
theorem dq_MO_surface_39 : decode (fx_cc mq_MO_surface) 39 = .ok (.getfield 126, 3) := by decide +kernel
theorem dq_MO_surface_42 : decode (fx_cc mq_MO_surface) 42 = .ok (.ifCond .eq 5, 3) := by decide +kernel
theorem dq_MO_surface_45 : decode (fx_cc mq_MO_surface) 45 = .ok (.iconst 0, 1) := by decide +kernel
theorem dq_MO_surface_46 : decode (fx_cc mq_MO_surface) 46 = .ok (.ireturn, 1) := by decide +kernel
theorem dq_MO_surface_47 : decode (fx_cc mq_MO_surface) 47 = .ok (.iconst 0, 1) := by decide +kernel
theorem dq_MO_surface_48 : decode (fx_cc mq_MO_surface) 48 = .ok (.istore 4, 2) := by decide +kernel
theorem dq_MO_surface_50 : decode (fx_cc mq_MO_surface) 50 = .ok (.iload 4, 2) := by decide +kernel
theorem dq_MO_surface_52 : decode (fx_cc mq_MO_surface) 52 = .ok (.bipush 10, 2) := by decide +kernel
theorem dq_MO_surface_54 : decode (fx_cc mq_MO_surface) 54 = .ok (.if_icmp .ge 19, 3) := by decide +kernel
theorem dq_MO_surface_57 : decode (fx_cc mq_MO_surface) 57 = .ok (.aload_n 0, 1) := by decide +kernel
theorem dq_MO_surface_58 : decode (fx_cc mq_MO_surface) 58 = .ok (.getfield 7, 3) := by decide +kernel
theorem dq_MO_surface_61 : decode (fx_cc mq_MO_surface) 61 = .ok (.iload 4, 2) := by decide +kernel
theorem dq_MO_surface_63 : decode (fx_cc mq_MO_surface) 63 = .ok (.baload, 1) := by decide +kernel
theorem dq_MO_surface_64 : decode (fx_cc mq_MO_surface) 64 = .ok (.ifCond .eq 9, 3) := by decide +kernel
theorem dq_MO_surface_67 : decode (fx_cc mq_MO_surface) 67 = .ok (.iinc 4 1, 3) := by decide +kernel
theorem dq_MO_surface_70 : decode (fx_cc mq_MO_surface) 70 = .ok (.goto (-20), 3) := by decide +kernel
theorem dq_MO_surface_73 : decode (fx_cc mq_MO_surface) 73 = .ok (.iload 4, 2) := by decide +kernel
theorem dq_MO_surface_75 : decode (fx_cc mq_MO_surface) 75 = .ok (.bipush 10, 2) := by decide +kernel
theorem dq_MO_surface_77 : decode (fx_cc mq_MO_surface) 77 = .ok (.if_icmp .eq 13, 3) := by decide +kernel
theorem dq_MO_surface_80 : decode (fx_cc mq_MO_surface) 80 = .ok (.iload_n 2, 1) := by decide +kernel
theorem dq_MO_surface_81 : decode (fx_cc mq_MO_surface) 81 = .ok (.iload_n 3, 1) := by decide +kernel
theorem dq_MO_surface_82 : decode (fx_cc mq_MO_surface) 82 = .ok (.imul, 1) := by decide +kernel
theorem dq_MO_surface_83 : decode (fx_cc mq_MO_surface) 83 = .ok (.aload_n 0, 1) := by decide +kernel
theorem dq_MO_surface_84 : decode (fx_cc mq_MO_surface) 84 = .ok (.invokevirtual 133, 3) := by decide +kernel
theorem dq_MO_surface_87 : decode (fx_cc mq_MO_surface) 87 = .ok (.if_icmp .le 10, 3) := by decide +kernel
theorem dq_MO_surface_90 : decode (fx_cc mq_MO_surface) 90 = .ok (.aload_n 0, 1) := by decide +kernel
theorem dq_MO_surface_91 : decode (fx_cc mq_MO_surface) 91 = .ok (.iconst 2, 1) := by decide +kernel
theorem dq_MO_surface_92 : decode (fx_cc mq_MO_surface) 92 = .ok (.putfield 126, 3) := by decide +kernel
theorem dq_MO_surface_95 : decode (fx_cc mq_MO_surface) 95 = .ok (.iconst 0, 1) := by decide +kernel
theorem dq_MO_surface_96 : decode (fx_cc mq_MO_surface) 96 = .ok (.ireturn, 1) := by decide +kernel
theorem dq_MO_surface_97 : decode (fx_cc mq_MO_surface) 97 = .ok (.aload_n 0, 1) := by decide +kernel
theorem dq_MO_surface_98 : decode (fx_cc mq_MO_surface) 98 = .ok (.getfield 7, 3) := by decide +kernel
theorem dq_MO_surface_101 : decode (fx_cc mq_MO_surface) 101 = .ok (.iload 4, 2) := by decide +kernel
theorem dq_MO_surface_103 : decode (fx_cc mq_MO_surface) 103 = .ok (.iconst 1, 1) := by decide +kernel
theorem dq_MO_surface_104 : decode (fx_cc mq_MO_surface) 104 = .ok (.bastore, 1) := by decide +kernel
theorem dq_MO_surface_105 : decode (fx_cc mq_MO_surface) 105 = .ok (.aload_n 0, 1) := by decide +kernel
theorem dq_MO_surface_106 : decode (fx_cc mq_MO_surface) 106 = .ok (.getfield 13, 3) := by decide +kernel
theorem dq_MO_surface_109 : decode (fx_cc mq_MO_surface) 109 = .ok (.iload 4, 2) := by decide +kernel
theorem dq_MO_surface_111 : decode (fx_cc mq_MO_surface) 111 = .ok (.iload_n 1, 1) := by decide +kernel
theorem dq_MO_surface_112 : decode (fx_cc mq_MO_surface) 112 = .ok (.iastore, 1) := by decide +kernel
theorem dq_MO_surface_113 : decode (fx_cc mq_MO_surface) 113 = .ok (.aload_n 0, 1) := by decide +kernel
theorem dq_MO_surface_114 : decode (fx_cc mq_MO_surface) 114 = .ok (.getfield 17, 3) := by decide +kernel
theorem dq_MO_surface_117 : decode (fx_cc mq_MO_surface) 117 = .ok (.iload 4, 2) := by decide +kernel
theorem dq_MO_surface_119 : decode (fx_cc mq_MO_surface) 119 = .ok (.iload_n 2, 1) := by decide +kernel
theorem dq_MO_surface_120 : decode (fx_cc mq_MO_surface) 120 = .ok (.iastore, 1) := by decide +kernel
theorem dq_MO_surface_121 : decode (fx_cc mq_MO_surface) 121 = .ok (.aload_n 0, 1) := by decide +kernel
theorem dq_MO_surface_122 : decode (fx_cc mq_MO_surface) 122 = .ok (.getfield 20, 3) := by decide +kernel
theorem dq_MO_surface_125 : decode (fx_cc mq_MO_surface) 125 = .ok (.iload 4, 2) := by decide +kernel
theorem dq_MO_surface_127 : decode (fx_cc mq_MO_surface) 127 = .ok (.iload_n 3, 1) := by decide +kernel
theorem dq_MO_surface_128 : decode (fx_cc mq_MO_surface) 128 = .ok (.iastore, 1) := by decide +kernel
theorem dq_MO_surface_129 : decode (fx_cc mq_MO_surface) 129 = .ok (.aload_n 0, 1) := by decide +kernel
theorem dq_MO_surface_130 : decode (fx_cc mq_MO_surface) 130 = .ok (.getfield 23, 3) := by decide +kernel
theorem dq_MO_surface_133 : decode (fx_cc mq_MO_surface) 133 = .ok (.iload 4, 2) := by decide +kernel
theorem dq_MO_surface_135 : decode (fx_cc mq_MO_surface) 135 = .ok (.iconst 0, 1) := by decide +kernel
theorem dq_MO_surface_136 : decode (fx_cc mq_MO_surface) 136 = .ok (.bastore, 1) := by decide +kernel
theorem dq_MO_surface_137 : decode (fx_cc mq_MO_surface) 137 = .ok (.aload_n 0, 1) := by decide +kernel
theorem dq_MO_surface_138 : decode (fx_cc mq_MO_surface) 138 = .ok (.getfield 26, 3) := by decide +kernel
theorem dq_MO_surface_141 : decode (fx_cc mq_MO_surface) 141 = .ok (.iload 4, 2) := by decide +kernel
theorem dq_MO_surface_143 : decode (fx_cc mq_MO_surface) 143 = .ok (.iconst 0, 1) := by decide +kernel
theorem dq_MO_surface_144 : decode (fx_cc mq_MO_surface) 144 = .ok (.bastore, 1) := by decide +kernel
theorem dq_MO_surface_145 : decode (fx_cc mq_MO_surface) 145 = .ok (.aload_n 0, 1) := by decide +kernel
theorem dq_MO_surface_146 : decode (fx_cc mq_MO_surface) 146 = .ok (.getfield 29, 3) := by decide +kernel
theorem dq_MO_surface_149 : decode (fx_cc mq_MO_surface) 149 = .ok (.iload 4, 2) := by decide +kernel
theorem dq_MO_surface_151 : decode (fx_cc mq_MO_surface) 151 = .ok (.iconst 1, 1) := by decide +kernel
theorem dq_MO_surface_152 : decode (fx_cc mq_MO_surface) 152 = .ok (.bastore, 1) := by decide +kernel
theorem dq_MO_surface_153 : decode (fx_cc mq_MO_surface) 153 = .ok (.aload_n 0, 1) := by decide +kernel
theorem dq_MO_surface_154 : decode (fx_cc mq_MO_surface) 154 = .ok (.getfield 29, 3) := by decide +kernel
theorem dq_MO_surface_157 : decode (fx_cc mq_MO_surface) 157 = .ok (.bipush 10, 2) := by decide +kernel
theorem dq_MO_surface_159 : decode (fx_cc mq_MO_surface) 159 = .ok (.iload 4, 2) := by decide +kernel
theorem dq_MO_surface_161 : decode (fx_cc mq_MO_surface) 161 = .ok (.iadd, 1) := by decide +kernel
theorem dq_MO_surface_162 : decode (fx_cc mq_MO_surface) 162 = .ok (.iconst 0, 1) := by decide +kernel
theorem dq_MO_surface_163 : decode (fx_cc mq_MO_surface) 163 = .ok (.bastore, 1) := by decide +kernel
theorem dq_MO_surface_164 : decode (fx_cc mq_MO_surface) 164 = .ok (.aload_n 0, 1) := by decide +kernel
theorem dq_MO_surface_165 : decode (fx_cc mq_MO_surface) 165 = .ok (.getfield 29, 3) := by decide +kernel
theorem dq_MO_surface_168 : decode (fx_cc mq_MO_surface) 168 = .ok (.bipush 20, 2) := by decide +kernel
theorem dq_MO_surface_170 : decode (fx_cc mq_MO_surface) 170 = .ok (.iload 4, 2) := by decide +kernel
theorem dq_MO_surface_172 : decode (fx_cc mq_MO_surface) 172 = .ok (.iadd, 1) := by decide +kernel
theorem dq_MO_surface_173 : decode (fx_cc mq_MO_surface) 173 = .ok (.iconst 0, 1) := by decide +kernel
theorem dq_MO_surface_174 : decode (fx_cc mq_MO_surface) 174 = .ok (.bastore, 1) := by decide +kernel
theorem dq_MO_surface_175 : decode (fx_cc mq_MO_surface) 175 = .ok (.aload_n 0, 1) := by decide +kernel
theorem dq_MO_surface_176 : decode (fx_cc mq_MO_surface) 176 = .ok (.getfield 32, 3) := by decide +kernel
theorem dq_MO_surface_179 : decode (fx_cc mq_MO_surface) 179 = .ok (.iload 4, 2) := by decide +kernel
theorem dq_MO_surface_181 : decode (fx_cc mq_MO_surface) 181 = .ok (.iconst 0, 1) := by decide +kernel
theorem dq_MO_surface_182 : decode (fx_cc mq_MO_surface) 182 = .ok (.iastore, 1) := by decide +kernel
theorem dq_MO_surface_183 : decode (fx_cc mq_MO_surface) 183 = .ok (.aload_n 0, 1) := by decide +kernel
theorem dq_MO_surface_184 : decode (fx_cc mq_MO_surface) 184 = .ok (.getfield 35, 3) := by decide +kernel
theorem dq_MO_surface_187 : decode (fx_cc mq_MO_surface) 187 = .ok (.iload 4, 2) := by decide +kernel
theorem dq_MO_surface_189 : decode (fx_cc mq_MO_surface) 189 = .ok (.iconst 0, 1) := by decide +kernel
theorem dq_MO_surface_190 : decode (fx_cc mq_MO_surface) 190 = .ok (.iastore, 1) := by decide +kernel
theorem dq_MO_surface_191 : decode (fx_cc mq_MO_surface) 191 = .ok (.aload_n 0, 1) := by decide +kernel
theorem dq_MO_surface_192 : decode (fx_cc mq_MO_surface) 192 = .ok (.getfield 38, 3) := by decide +kernel
theorem dq_MO_surface_195 : decode (fx_cc mq_MO_surface) 195 = .ok (.iload 4, 2) := by decide +kernel
theorem dq_MO_surface_197 : decode (fx_cc mq_MO_surface) 197 = .ok (.iconst 0, 1) := by decide +kernel
theorem dq_MO_surface_198 : decode (fx_cc mq_MO_surface) 198 = .ok (.iastore, 1) := by decide +kernel
theorem dq_MO_surface_199 : decode (fx_cc mq_MO_surface) 199 = .ok (.aload_n 0, 1) := by decide +kernel
theorem dq_MO_surface_200 : decode (fx_cc mq_MO_surface) 200 = .ok (.getfield 41, 3) := by decide +kernel
theorem dq_MO_surface_203 : decode (fx_cc mq_MO_surface) 203 = .ok (.iload 4, 2) := by decide +kernel
theorem dq_MO_surface_205 : decode (fx_cc mq_MO_surface) 205 = .ok (.bipush 16, 2) := by decide +kernel
theorem dq_MO_surface_207 : decode (fx_cc mq_MO_surface) 207 = .ok (.iastore, 1) := by decide +kernel
theorem dq_MO_surface_208 : decode (fx_cc mq_MO_surface) 208 = .ok (.aload_n 0, 1) := by decide +kernel
theorem dq_MO_surface_209 : decode (fx_cc mq_MO_surface) 209 = .ok (.getfield 44, 3) := by decide +kernel
theorem dq_MO_surface_212 : decode (fx_cc mq_MO_surface) 212 = .ok (.iload 4, 2) := by decide +kernel
theorem dq_MO_surface_214 : decode (fx_cc mq_MO_surface) 214 = .ok (.iconst 0, 1) := by decide +kernel
theorem dq_MO_surface_215 : decode (fx_cc mq_MO_surface) 215 = .ok (.bastore, 1) := by decide +kernel
theorem dq_MO_surface_216 : decode (fx_cc mq_MO_surface) 216 = .ok (.aload_n 0, 1) := by decide +kernel
theorem dq_MO_surface_217 : decode (fx_cc mq_MO_surface) 217 = .ok (.getfield 47, 3) := by decide +kernel
theorem dq_MO_surface_220 : decode (fx_cc mq_MO_surface) 220 = .ok (.iload 4, 2) := by decide +kernel
theorem dq_MO_surface_222 : decode (fx_cc mq_MO_surface) 222 = .ok (.iconst 0, 1) := by decide +kernel
theorem dq_MO_surface_223 : decode (fx_cc mq_MO_surface) 223 = .ok (.iastore, 1) := by decide +kernel
theorem dq_MO_surface_224 : decode (fx_cc mq_MO_surface) 224 = .ok (.aload_n 0, 1) := by decide +kernel
theorem dq_MO_surface_225 : decode (fx_cc mq_MO_surface) 225 = .ok (.getfield 50, 3) := by decide +kernel
theorem dq_MO_surface_228 : decode (fx_cc mq_MO_surface) 228 = .ok (.iload 4, 2) := by decide +kernel
theorem dq_MO_surface_230 : decode (fx_cc mq_MO_surface) 230 = .ok (.iconst 0, 1) := by decide +kernel
theorem dq_MO_surface_231 : decode (fx_cc mq_MO_surface) 231 = .ok (.iastore, 1) := by decide +kernel
theorem dq_MO_surface_232 : decode (fx_cc mq_MO_surface) 232 = .ok (.aload_n 0, 1) := by decide +kernel
theorem dq_MO_surface_233 : decode (fx_cc mq_MO_surface) 233 = .ok (.getfield 53, 3) := by decide +kernel
theorem dq_MO_surface_236 : decode (fx_cc mq_MO_surface) 236 = .ok (.iload 4, 2) := by decide +kernel
theorem dq_MO_surface_238 : decode (fx_cc mq_MO_surface) 238 = .ok (.iload_n 2, 1) := by decide +kernel
theorem dq_MO_surface_239 : decode (fx_cc mq_MO_surface) 239 = .ok (.iastore, 1) := by decide +kernel
theorem dq_MO_surface_240 : decode (fx_cc mq_MO_surface) 240 = .ok (.aload_n 0, 1) := by decide +kernel
theorem dq_MO_surface_241 : decode (fx_cc mq_MO_surface) 241 = .ok (.getfield 56, 3) := by decide +kernel
theorem dq_MO_surface_244 : decode (fx_cc mq_MO_surface) 244 = .ok (.iload 4, 2) := by decide +kernel
theorem dq_MO_surface_246 : decode (fx_cc mq_MO_surface) 246 = .ok (.iload_n 3, 1) := by decide +kernel
theorem dq_MO_surface_247 : decode (fx_cc mq_MO_surface) 247 = .ok (.iastore, 1) := by decide +kernel
theorem dq_MO_surface_248 : decode (fx_cc mq_MO_surface) 248 = .ok (.iconst 0, 1) := by decide +kernel
theorem dq_MO_surface_249 : decode (fx_cc mq_MO_surface) 249 = .ok (.istore 5, 2) := by decide +kernel
theorem dq_MO_surface_251 : decode (fx_cc mq_MO_surface) 251 = .ok (.iload 5, 2) := by decide +kernel
theorem dq_MO_surface_253 : decode (fx_cc mq_MO_surface) 253 = .ok (.bipush 96, 2) := by decide +kernel
theorem dq_MO_surface_255 : decode (fx_cc mq_MO_surface) 255 = .ok (.if_icmp .ge 23, 3) := by decide +kernel
theorem dq_MO_surface_258 : decode (fx_cc mq_MO_surface) 258 = .ok (.aload_n 0, 1) := by decide +kernel
theorem dq_MO_surface_259 : decode (fx_cc mq_MO_surface) 259 = .ok (.getfield 59, 3) := by decide +kernel
theorem dq_MO_surface_262 : decode (fx_cc mq_MO_surface) 262 = .ok (.bipush 96, 2) := by decide +kernel
theorem dq_MO_surface_264 : decode (fx_cc mq_MO_surface) 264 = .ok (.iload 4, 2) := by decide +kernel
theorem dq_MO_surface_266 : decode (fx_cc mq_MO_surface) 266 = .ok (.imul, 1) := by decide +kernel
theorem dq_MO_surface_267 : decode (fx_cc mq_MO_surface) 267 = .ok (.iload 5, 2) := by decide +kernel
theorem dq_MO_surface_269 : decode (fx_cc mq_MO_surface) 269 = .ok (.iadd, 1) := by decide +kernel
theorem dq_MO_surface_270 : decode (fx_cc mq_MO_surface) 270 = .ok (.iconst 0, 1) := by decide +kernel
theorem dq_MO_surface_271 : decode (fx_cc mq_MO_surface) 271 = .ok (.iastore, 1) := by decide +kernel
theorem dq_MO_surface_272 : decode (fx_cc mq_MO_surface) 272 = .ok (.iinc 5 1, 3) := by decide +kernel
theorem dq_MO_surface_275 : decode (fx_cc mq_MO_surface) 275 = .ok (.goto (-24), 3) := by decide +kernel
theorem dq_MO_surface_278 : decode (fx_cc mq_MO_surface) 278 = .ok (.iload 4, 2) := by decide +kernel
theorem dq_MO_surface_280 : decode (fx_cc mq_MO_surface) 280 = .ok (.ireturn, 1) := by decide +kernel
theorem dq_MO_within_0 : decode (fx_cc mq_MO_within) 0 = .ok (.iload_n 0, 1) := by decide +kernel
theorem dq_MO_within_1 : decode (fx_cc mq_MO_within) 1 = .ok (.iload_n 1, 1) := by decide +kernel
theorem dq_MO_within_2 : decode (fx_cc mq_MO_within) 2 = .ok (.if_icmp .lt 12, 3) := by decide +kernel
theorem dq_MO_within_5 : decode (fx_cc mq_MO_within) 5 = .ok (.iload_n 0, 1) := by decide +kernel
theorem dq_MO_within_6 : decode (fx_cc mq_MO_within) 6 = .ok (.iload_n 2, 1) := by decide +kernel
theorem dq_MO_within_7 : decode (fx_cc mq_MO_within) 7 = .ok (.if_icmp .gt 7, 3) := by decide +kernel
theorem dq_MO_within_10 : decode (fx_cc mq_MO_within) 10 = .ok (.iconst 1, 1) := by decide +kernel
theorem dq_MO_within_11 : decode (fx_cc mq_MO_within) 11 = .ok (.goto 4, 3) := by decide +kernel
theorem dq_MO_within_14 : decode (fx_cc mq_MO_within) 14 = .ok (.iconst 0, 1) := by decide +kernel
theorem dq_MO_within_15 : decode (fx_cc mq_MO_within) 15 = .ok (.ireturn, 1) := by decide +kernel
theorem dq_MO_freePixels_0 : decode (fx_cc mq_MO_freePixels) 0 = .ok (.sipush 300, 3) := by decide +kernel
theorem dq_MO_freePixels_3 : decode (fx_cc mq_MO_freePixels) 3 = .ok (.istore_n 1, 1) := by decide +kernel
theorem dq_MO_freePixels_4 : decode (fx_cc mq_MO_freePixels) 4 = .ok (.iconst 0, 1) := by decide +kernel
theorem dq_MO_freePixels_5 : decode (fx_cc mq_MO_freePixels) 5 = .ok (.istore_n 2, 1) := by decide +kernel
theorem dq_MO_freePixels_6 : decode (fx_cc mq_MO_freePixels) 6 = .ok (.iload_n 2, 1) := by decide +kernel
theorem dq_MO_freePixels_7 : decode (fx_cc mq_MO_freePixels) 7 = .ok (.bipush 10, 2) := by decide +kernel
theorem dq_MO_freePixels_9 : decode (fx_cc mq_MO_freePixels) 9 = .ok (.if_icmp .ge 38, 3) := by decide +kernel
theorem dq_MO_freePixels_12 : decode (fx_cc mq_MO_freePixels) 12 = .ok (.iload_n 1, 1) := by decide +kernel
theorem dq_MO_freePixels_13 : decode (fx_cc mq_MO_freePixels) 13 = .ok (.aload_n 0, 1) := by decide +kernel
theorem dq_MO_freePixels_14 : decode (fx_cc mq_MO_freePixels) 14 = .ok (.getfield 7, 3) := by decide +kernel
theorem dq_MO_freePixels_17 : decode (fx_cc mq_MO_freePixels) 17 = .ok (.iload_n 2, 1) := by decide +kernel
theorem dq_MO_freePixels_18 : decode (fx_cc mq_MO_freePixels) 18 = .ok (.baload, 1) := by decide +kernel
theorem dq_MO_freePixels_19 : decode (fx_cc mq_MO_freePixels) 19 = .ok (.ifCond .eq 19, 3) := by decide +kernel
theorem dq_MO_freePixels_22 : decode (fx_cc mq_MO_freePixels) 22 = .ok (.aload_n 0, 1) := by decide +kernel
theorem dq_MO_freePixels_23 : decode (fx_cc mq_MO_freePixels) 23 = .ok (.getfield 17, 3) := by decide +kernel
theorem dq_MO_freePixels_26 : decode (fx_cc mq_MO_freePixels) 26 = .ok (.iload_n 2, 1) := by decide +kernel
theorem dq_MO_freePixels_27 : decode (fx_cc mq_MO_freePixels) 27 = .ok (.iaload, 1) := by decide +kernel
theorem dq_MO_freePixels_28 : decode (fx_cc mq_MO_freePixels) 28 = .ok (.aload_n 0, 1) := by decide +kernel
theorem dq_MO_freePixels_29 : decode (fx_cc mq_MO_freePixels) 29 = .ok (.getfield 20, 3) := by decide +kernel
theorem dq_MO_freePixels_32 : decode (fx_cc mq_MO_freePixels) 32 = .ok (.iload_n 2, 1) := by decide +kernel
theorem dq_MO_freePixels_33 : decode (fx_cc mq_MO_freePixels) 33 = .ok (.iaload, 1) := by decide +kernel
theorem dq_MO_freePixels_34 : decode (fx_cc mq_MO_freePixels) 34 = .ok (.imul, 1) := by decide +kernel
theorem dq_MO_freePixels_35 : decode (fx_cc mq_MO_freePixels) 35 = .ok (.goto 4, 3) := by decide +kernel
theorem dq_MO_freePixels_38 : decode (fx_cc mq_MO_freePixels) 38 = .ok (.iconst 0, 1) := by decide +kernel
theorem dq_MO_freePixels_39 : decode (fx_cc mq_MO_freePixels) 39 = .ok (.isub, 1) := by decide +kernel
theorem dq_MO_freePixels_40 : decode (fx_cc mq_MO_freePixels) 40 = .ok (.istore_n 1, 1) := by decide +kernel
theorem dq_MO_freePixels_41 : decode (fx_cc mq_MO_freePixels) 41 = .ok (.iinc 2 1, 3) := by decide +kernel
theorem dq_MO_freePixels_44 : decode (fx_cc mq_MO_freePixels) 44 = .ok (.goto (-38), 3) := by decide +kernel
theorem dq_MO_freePixels_47 : decode (fx_cc mq_MO_freePixels) 47 = .ok (.iload_n 1, 1) := by decide +kernel
theorem dq_MO_freePixels_48 : decode (fx_cc mq_MO_freePixels) 48 = .ok (.ireturn, 1) := by decide +kernel
theorem dq_MO_destroy_0 : decode (fx_cc mq_MO_destroy) 0 = .ok (.aload_n 0, 1) := by decide +kernel
theorem dq_MO_destroy_1 : decode (fx_cc mq_MO_destroy) 1 = .ok (.aload_n 0, 1) := by decide +kernel
theorem dq_MO_destroy_2 : decode (fx_cc mq_MO_destroy) 2 = .ok (.iload_n 1, 1) := by decide +kernel
theorem dq_MO_destroy_3 : decode (fx_cc mq_MO_destroy) 3 = .ok (.invokevirtual 137, 3) := by decide +kernel
theorem dq_MO_destroy_6 : decode (fx_cc mq_MO_destroy) 6 = .ok (.ifCond .eq 7, 3) := by decide +kernel
theorem dq_MO_destroy_9 : decode (fx_cc mq_MO_destroy) 9 = .ok (.iconst 0, 1) := by decide +kernel
theorem dq_MO_destroy_10 : decode (fx_cc mq_MO_destroy) 10 = .ok (.goto 4, 3) := by decide +kernel
theorem dq_MO_destroy_13 : decode (fx_cc mq_MO_destroy) 13 = .ok (.iconst 1, 1) := by decide +kernel
theorem dq_MO_destroy_14 : decode (fx_cc mq_MO_destroy) 14 = .ok (.putfield 126, 3) := by decide +kernel
theorem dq_MO_destroy_17 : decode (fx_cc mq_MO_destroy) 17 = .ok (.aload_n 0, 1) := by decide +kernel
theorem dq_MO_destroy_18 : decode (fx_cc mq_MO_destroy) 18 = .ok (.getfield 126, 3) := by decide +kernel
theorem dq_MO_destroy_21 : decode (fx_cc mq_MO_destroy) 21 = .ok (.ifCond .eq 4, 3) := by decide +kernel
theorem dq_MO_destroy_24 : decode (fx_cc mq_MO_destroy) 24 = .ok (.return_, 1) := by decide +kernel
theorem dq_MO_destroy_25 : decode (fx_cc mq_MO_destroy) 25 = .ok (.aload_n 0, 1) := by decide +kernel
theorem dq_MO_destroy_26 : decode (fx_cc mq_MO_destroy) 26 = .ok (.getfield 29, 3) := by decide +kernel
theorem dq_MO_destroy_29 : decode (fx_cc mq_MO_destroy) 29 = .ok (.iload_n 1, 1) := by decide +kernel
theorem dq_MO_destroy_30 : decode (fx_cc mq_MO_destroy) 30 = .ok (.iconst 0, 1) := by decide +kernel
theorem dq_MO_destroy_31 : decode (fx_cc mq_MO_destroy) 31 = .ok (.bastore, 1) := by decide +kernel
theorem dq_MO_destroy_32 : decode (fx_cc mq_MO_destroy) 32 = .ok (.aload_n 0, 1) := by decide +kernel
theorem dq_MO_destroy_33 : decode (fx_cc mq_MO_destroy) 33 = .ok (.getfield 23, 3) := by decide +kernel
theorem dq_MO_destroy_36 : decode (fx_cc mq_MO_destroy) 36 = .ok (.iload_n 1, 1) := by decide +kernel
theorem dq_MO_destroy_37 : decode (fx_cc mq_MO_destroy) 37 = .ok (.iconst 1, 1) := by decide +kernel
theorem dq_MO_destroy_38 : decode (fx_cc mq_MO_destroy) 38 = .ok (.bastore, 1) := by decide +kernel
theorem dq_MO_destroy_39 : decode (fx_cc mq_MO_destroy) 39 = .ok (.return_, 1) := by decide +kernel
theorem dq_MO_hasDraft_0 : decode (fx_cc mq_MO_hasDraft) 0 = .ok (.iload_n 1, 1) := by decide +kernel
theorem dq_MO_hasDraft_1 : decode (fx_cc mq_MO_hasDraft) 1 = .ok (.ifCond .lt 31, 3) := by decide +kernel
theorem dq_MO_hasDraft_4 : decode (fx_cc mq_MO_hasDraft) 4 = .ok (.iload_n 1, 1) := by decide +kernel
theorem dq_MO_hasDraft_5 : decode (fx_cc mq_MO_hasDraft) 5 = .ok (.bipush 10, 2) := by decide +kernel
theorem dq_MO_hasDraft_7 : decode (fx_cc mq_MO_hasDraft) 7 = .ok (.if_icmp .ge 25, 3) := by decide +kernel
theorem dq_MO_hasDraft_10 : decode (fx_cc mq_MO_hasDraft) 10 = .ok (.aload_n 0, 1) := by decide +kernel
theorem dq_MO_hasDraft_11 : decode (fx_cc mq_MO_hasDraft) 11 = .ok (.getfield 7, 3) := by decide +kernel
theorem dq_MO_hasDraft_14 : decode (fx_cc mq_MO_hasDraft) 14 = .ok (.iload_n 1, 1) := by decide +kernel
theorem dq_MO_hasDraft_15 : decode (fx_cc mq_MO_hasDraft) 15 = .ok (.baload, 1) := by decide +kernel
theorem dq_MO_hasDraft_16 : decode (fx_cc mq_MO_hasDraft) 16 = .ok (.ifCond .eq 16, 3) := by decide +kernel
theorem dq_MO_hasDraft_19 : decode (fx_cc mq_MO_hasDraft) 19 = .ok (.aload_n 0, 1) := by decide +kernel
theorem dq_MO_hasDraft_20 : decode (fx_cc mq_MO_hasDraft) 20 = .ok (.getfield 29, 3) := by decide +kernel
theorem dq_MO_hasDraft_23 : decode (fx_cc mq_MO_hasDraft) 23 = .ok (.iload_n 1, 1) := by decide +kernel
theorem dq_MO_hasDraft_24 : decode (fx_cc mq_MO_hasDraft) 24 = .ok (.baload, 1) := by decide +kernel
theorem dq_MO_hasDraft_25 : decode (fx_cc mq_MO_hasDraft) 25 = .ok (.ifCond .eq 7, 3) := by decide +kernel
theorem dq_MO_hasDraft_28 : decode (fx_cc mq_MO_hasDraft) 28 = .ok (.iconst 1, 1) := by decide +kernel
theorem dq_MO_hasDraft_29 : decode (fx_cc mq_MO_hasDraft) 29 = .ok (.goto 4, 3) := by decide +kernel
theorem dq_MO_hasDraft_32 : decode (fx_cc mq_MO_hasDraft) 32 = .ok (.iconst 0, 1) := by decide +kernel
theorem dq_MO_hasDraft_33 : decode (fx_cc mq_MO_hasDraft) 33 = .ok (.ireturn, 1) := by decide +kernel
theorem dq_MO_place_0 : decode (fx_cc mq_MO_place) 0 = .ok (.aload_n 0, 1) := by decide +kernel
theorem dq_MO_place_1 : decode (fx_cc mq_MO_place) 1 = .ok (.aload_n 0, 1) := by decide +kernel
theorem dq_MO_place_2 : decode (fx_cc mq_MO_place) 2 = .ok (.iload_n 1, 1) := by decide +kernel
theorem dq_MO_place_3 : decode (fx_cc mq_MO_place) 3 = .ok (.invokevirtual 137, 3) := by decide +kernel
theorem dq_MO_place_6 : decode (fx_cc mq_MO_place) 6 = .ok (.ifCond .eq 51, 3) := by decide +kernel
theorem dq_MO_place_9 : decode (fx_cc mq_MO_place) 9 = .ok (.iload_n 2, 1) := by decide +kernel
theorem dq_MO_place_10 : decode (fx_cc mq_MO_place) 10 = .ok (.bipush (-20), 2) := by decide +kernel
theorem dq_MO_place_12 : decode (fx_cc mq_MO_place) 12 = .ok (.bipush 30, 2) := by decide +kernel
theorem dq_MO_place_14 : decode (fx_cc mq_MO_place) 14 = .ok (.invokestatic 129, 3) := by decide +kernel
theorem dq_MO_place_17 : decode (fx_cc mq_MO_place) 17 = .ok (.ifCond .eq 40, 3) := by decide +kernel
theorem dq_MO_place_20 : decode (fx_cc mq_MO_place) 20 = .ok (.iload_n 3, 1) := by decide +kernel
theorem dq_MO_place_21 : decode (fx_cc mq_MO_place) 21 = .ok (.bipush (-20), 2) := by decide +kernel
theorem dq_MO_place_23 : decode (fx_cc mq_MO_place) 23 = .ok (.bipush 30, 2) := by decide +kernel
theorem dq_MO_place_25 : decode (fx_cc mq_MO_place) 25 = .ok (.invokestatic 129, 3) := by decide +kernel
theorem dq_MO_place_28 : decode (fx_cc mq_MO_place) 28 = .ok (.ifCond .eq 29, 3) := by decide +kernel
theorem dq_MO_place_31 : decode (fx_cc mq_MO_place) 31 = .ok (.iload 4, 2) := by decide +kernel
theorem dq_MO_place_33 : decode (fx_cc mq_MO_place) 33 = .ok (.iconst 0, 1) := by decide +kernel
theorem dq_MO_place_34 : decode (fx_cc mq_MO_place) 34 = .ok (.bipush 9, 2) := by decide +kernel
theorem dq_MO_place_36 : decode (fx_cc mq_MO_place) 36 = .ok (.invokestatic 129, 3) := by decide +kernel
theorem dq_MO_place_39 : decode (fx_cc mq_MO_place) 39 = .ok (.ifCond .eq 18, 3) := by decide +kernel
theorem dq_MO_place_42 : decode (fx_cc mq_MO_place) 42 = .ok (.iload 5, 2) := by decide +kernel
theorem dq_MO_place_44 : decode (fx_cc mq_MO_place) 44 = .ok (.iconst 0, 1) := by decide +kernel
theorem dq_MO_place_45 : decode (fx_cc mq_MO_place) 45 = .ok (.bipush 16, 2) := by decide +kernel
theorem dq_MO_place_47 : decode (fx_cc mq_MO_place) 47 = .ok (.invokestatic 129, 3) := by decide +kernel
theorem dq_MO_place_50 : decode (fx_cc mq_MO_place) 50 = .ok (.ifCond .eq 7, 3) := by decide +kernel
theorem dq_MO_place_53 : decode (fx_cc mq_MO_place) 53 = .ok (.iconst 0, 1) := by decide +kernel
theorem dq_MO_place_54 : decode (fx_cc mq_MO_place) 54 = .ok (.goto 4, 3) := by decide +kernel
theorem dq_MO_place_57 : decode (fx_cc mq_MO_place) 57 = .ok (.iconst 1, 1) := by decide +kernel
theorem dq_MO_place_58 : decode (fx_cc mq_MO_place) 58 = .ok (.putfield 126, 3) := by decide +kernel
theorem dq_MO_place_61 : decode (fx_cc mq_MO_place) 61 = .ok (.aload_n 0, 1) := by decide +kernel
theorem dq_MO_place_62 : decode (fx_cc mq_MO_place) 62 = .ok (.getfield 126, 3) := by decide +kernel
theorem dq_MO_place_65 : decode (fx_cc mq_MO_place) 65 = .ok (.ifCond .eq 4, 3) := by decide +kernel
theorem dq_MO_place_68 : decode (fx_cc mq_MO_place) 68 = .ok (.return_, 1) := by decide +kernel
theorem dq_MO_place_69 : decode (fx_cc mq_MO_place) 69 = .ok (.aload_n 0, 1) := by decide +kernel
theorem dq_MO_place_70 : decode (fx_cc mq_MO_place) 70 = .ok (.getfield 32, 3) := by decide +kernel
theorem dq_MO_place_73 : decode (fx_cc mq_MO_place) 73 = .ok (.iload_n 1, 1) := by decide +kernel
theorem dq_MO_place_74 : decode (fx_cc mq_MO_place) 74 = .ok (.iload_n 2, 1) := by decide +kernel
theorem dq_MO_place_75 : decode (fx_cc mq_MO_place) 75 = .ok (.iastore, 1) := by decide +kernel
theorem dq_MO_place_76 : decode (fx_cc mq_MO_place) 76 = .ok (.aload_n 0, 1) := by decide +kernel
theorem dq_MO_place_77 : decode (fx_cc mq_MO_place) 77 = .ok (.getfield 35, 3) := by decide +kernel
theorem dq_MO_place_80 : decode (fx_cc mq_MO_place) 80 = .ok (.iload_n 1, 1) := by decide +kernel
theorem dq_MO_place_81 : decode (fx_cc mq_MO_place) 81 = .ok (.iload_n 3, 1) := by decide +kernel
theorem dq_MO_place_82 : decode (fx_cc mq_MO_place) 82 = .ok (.iastore, 1) := by decide +kernel
theorem dq_MO_place_83 : decode (fx_cc mq_MO_place) 83 = .ok (.aload_n 0, 1) := by decide +kernel
theorem dq_MO_place_84 : decode (fx_cc mq_MO_place) 84 = .ok (.getfield 38, 3) := by decide +kernel
theorem dq_MO_place_87 : decode (fx_cc mq_MO_place) 87 = .ok (.iload_n 1, 1) := by decide +kernel
theorem dq_MO_place_88 : decode (fx_cc mq_MO_place) 88 = .ok (.iload 4, 2) := by decide +kernel
theorem dq_MO_place_90 : decode (fx_cc mq_MO_place) 90 = .ok (.iastore, 1) := by decide +kernel
theorem dq_MO_place_91 : decode (fx_cc mq_MO_place) 91 = .ok (.aload_n 0, 1) := by decide +kernel
theorem dq_MO_place_92 : decode (fx_cc mq_MO_place) 92 = .ok (.getfield 41, 3) := by decide +kernel
theorem dq_MO_place_95 : decode (fx_cc mq_MO_place) 95 = .ok (.iload_n 1, 1) := by decide +kernel
theorem dq_MO_place_96 : decode (fx_cc mq_MO_place) 96 = .ok (.iload 5, 2) := by decide +kernel
theorem dq_MO_place_98 : decode (fx_cc mq_MO_place) 98 = .ok (.iastore, 1) := by decide +kernel
theorem dq_MO_place_99 : decode (fx_cc mq_MO_place) 99 = .ok (.aload_n 0, 1) := by decide +kernel
theorem dq_MO_place_100 : decode (fx_cc mq_MO_place) 100 = .ok (.getfield 44, 3) := by decide +kernel
theorem dq_MO_place_103 : decode (fx_cc mq_MO_place) 103 = .ok (.iload_n 1, 1) := by decide +kernel
theorem dq_MO_place_104 : decode (fx_cc mq_MO_place) 104 = .ok (.iload 6, 2) := by decide +kernel
theorem dq_MO_place_106 : decode (fx_cc mq_MO_place) 106 = .ok (.bastore, 1) := by decide +kernel
theorem dq_MO_place_107 : decode (fx_cc mq_MO_place) 107 = .ok (.return_, 1) := by decide +kernel
theorem dq_MO_clip_0 : decode (fx_cc mq_MO_clip) 0 = .ok (.aload_n 0, 1) := by decide +kernel
theorem dq_MO_clip_1 : decode (fx_cc mq_MO_clip) 1 = .ok (.aload_n 0, 1) := by decide +kernel
theorem dq_MO_clip_2 : decode (fx_cc mq_MO_clip) 2 = .ok (.iload_n 1, 1) := by decide +kernel
theorem dq_MO_clip_3 : decode (fx_cc mq_MO_clip) 3 = .ok (.invokevirtual 137, 3) := by decide +kernel
theorem dq_MO_clip_6 : decode (fx_cc mq_MO_clip) 6 = .ok (.ifCond .eq 19, 3) := by decide +kernel
theorem dq_MO_clip_9 : decode (fx_cc mq_MO_clip) 9 = .ok (.iload_n 2, 1) := by decide +kernel
theorem dq_MO_clip_10 : decode (fx_cc mq_MO_clip) 10 = .ok (.iload_n 3, 1) := by decide +kernel
theorem dq_MO_clip_11 : decode (fx_cc mq_MO_clip) 11 = .ok (.iload 4, 2) := by decide +kernel
theorem dq_MO_clip_13 : decode (fx_cc mq_MO_clip) 13 = .ok (.iload 5, 2) := by decide +kernel
theorem dq_MO_clip_15 : decode (fx_cc mq_MO_clip) 15 = .ok (.invokestatic 153, 3) := by decide +kernel
theorem dq_MO_clip_18 : decode (fx_cc mq_MO_clip) 18 = .ok (.ifCond .eq 7, 3) := by decide +kernel
theorem dq_MO_clip_21 : decode (fx_cc mq_MO_clip) 21 = .ok (.iconst 0, 1) := by decide +kernel
theorem dq_MO_clip_22 : decode (fx_cc mq_MO_clip) 22 = .ok (.goto 4, 3) := by decide +kernel
theorem dq_MO_clip_25 : decode (fx_cc mq_MO_clip) 25 = .ok (.iconst 1, 1) := by decide +kernel
theorem dq_MO_clip_26 : decode (fx_cc mq_MO_clip) 26 = .ok (.putfield 126, 3) := by decide +kernel
theorem dq_MO_clip_29 : decode (fx_cc mq_MO_clip) 29 = .ok (.aload_n 0, 1) := by decide +kernel
theorem dq_MO_clip_30 : decode (fx_cc mq_MO_clip) 30 = .ok (.getfield 126, 3) := by decide +kernel
theorem dq_MO_clip_33 : decode (fx_cc mq_MO_clip) 33 = .ok (.ifCond .eq 4, 3) := by decide +kernel
theorem dq_MO_clip_36 : decode (fx_cc mq_MO_clip) 36 = .ok (.return_, 1) := by decide +kernel
theorem dq_MO_clip_37 : decode (fx_cc mq_MO_clip) 37 = .ok (.iload_n 2, 1) := by decide +kernel
theorem dq_MO_clip_38 : decode (fx_cc mq_MO_clip) 38 = .ok (.iload 4, 2) := by decide +kernel
theorem dq_MO_clip_40 : decode (fx_cc mq_MO_clip) 40 = .ok (.iadd, 1) := by decide +kernel
theorem dq_MO_clip_41 : decode (fx_cc mq_MO_clip) 41 = .ok (.aload_n 0, 1) := by decide +kernel
theorem dq_MO_clip_42 : decode (fx_cc mq_MO_clip) 42 = .ok (.getfield 17, 3) := by decide +kernel
theorem dq_MO_clip_45 : decode (fx_cc mq_MO_clip) 45 = .ok (.iload_n 1, 1) := by decide +kernel
theorem dq_MO_clip_46 : decode (fx_cc mq_MO_clip) 46 = .ok (.iaload, 1) := by decide +kernel
theorem dq_MO_clip_47 : decode (fx_cc mq_MO_clip) 47 = .ok (.if_icmp .ge 10, 3) := by decide +kernel
theorem dq_MO_clip_50 : decode (fx_cc mq_MO_clip) 50 = .ok (.iload_n 2, 1) := by decide +kernel
theorem dq_MO_clip_51 : decode (fx_cc mq_MO_clip) 51 = .ok (.iload 4, 2) := by decide +kernel
theorem dq_MO_clip_53 : decode (fx_cc mq_MO_clip) 53 = .ok (.iadd, 1) := by decide +kernel
theorem dq_MO_clip_54 : decode (fx_cc mq_MO_clip) 54 = .ok (.goto 9, 3) := by decide +kernel
theorem dq_MO_clip_57 : decode (fx_cc mq_MO_clip) 57 = .ok (.aload_n 0, 1) := by decide +kernel
theorem dq_MO_clip_58 : decode (fx_cc mq_MO_clip) 58 = .ok (.getfield 17, 3) := by decide +kernel
theorem dq_MO_clip_61 : decode (fx_cc mq_MO_clip) 61 = .ok (.iload_n 1, 1) := by decide +kernel
theorem dq_MO_clip_62 : decode (fx_cc mq_MO_clip) 62 = .ok (.iaload, 1) := by decide +kernel
theorem dq_MO_clip_63 : decode (fx_cc mq_MO_clip) 63 = .ok (.istore 6, 2) := by decide +kernel
theorem dq_MO_clip_65 : decode (fx_cc mq_MO_clip) 65 = .ok (.iload_n 3, 1) := by decide +kernel
theorem dq_MO_clip_66 : decode (fx_cc mq_MO_clip) 66 = .ok (.iload 5, 2) := by decide +kernel
theorem dq_MO_clip_68 : decode (fx_cc mq_MO_clip) 68 = .ok (.iadd, 1) := by decide +kernel
theorem dq_MO_clip_69 : decode (fx_cc mq_MO_clip) 69 = .ok (.aload_n 0, 1) := by decide +kernel
theorem dq_MO_clip_70 : decode (fx_cc mq_MO_clip) 70 = .ok (.getfield 20, 3) := by decide +kernel
theorem dq_MO_clip_73 : decode (fx_cc mq_MO_clip) 73 = .ok (.iload_n 1, 1) := by decide +kernel
theorem dq_MO_clip_74 : decode (fx_cc mq_MO_clip) 74 = .ok (.iaload, 1) := by decide +kernel
theorem dq_MO_clip_75 : decode (fx_cc mq_MO_clip) 75 = .ok (.if_icmp .ge 10, 3) := by decide +kernel
theorem dq_MO_clip_78 : decode (fx_cc mq_MO_clip) 78 = .ok (.iload_n 3, 1) := by decide +kernel
theorem dq_MO_clip_79 : decode (fx_cc mq_MO_clip) 79 = .ok (.iload 5, 2) := by decide +kernel
theorem dq_MO_clip_81 : decode (fx_cc mq_MO_clip) 81 = .ok (.iadd, 1) := by decide +kernel
theorem dq_MO_clip_82 : decode (fx_cc mq_MO_clip) 82 = .ok (.goto 9, 3) := by decide +kernel
theorem dq_MO_clip_85 : decode (fx_cc mq_MO_clip) 85 = .ok (.aload_n 0, 1) := by decide +kernel
theorem dq_MO_clip_86 : decode (fx_cc mq_MO_clip) 86 = .ok (.getfield 20, 3) := by decide +kernel
theorem dq_MO_clip_89 : decode (fx_cc mq_MO_clip) 89 = .ok (.iload_n 1, 1) := by decide +kernel
theorem dq_MO_clip_90 : decode (fx_cc mq_MO_clip) 90 = .ok (.iaload, 1) := by decide +kernel
theorem dq_MO_clip_91 : decode (fx_cc mq_MO_clip) 91 = .ok (.istore 7, 2) := by decide +kernel
theorem dq_MO_clip_93 : decode (fx_cc mq_MO_clip) 93 = .ok (.aload_n 0, 1) := by decide +kernel
theorem dq_MO_clip_94 : decode (fx_cc mq_MO_clip) 94 = .ok (.getfield 47, 3) := by decide +kernel
theorem dq_MO_clip_97 : decode (fx_cc mq_MO_clip) 97 = .ok (.iload_n 1, 1) := by decide +kernel
theorem dq_MO_clip_98 : decode (fx_cc mq_MO_clip) 98 = .ok (.iload_n 2, 1) := by decide +kernel
theorem dq_MO_clip_99 : decode (fx_cc mq_MO_clip) 99 = .ok (.ifCond .le 7, 3) := by decide +kernel
theorem dq_MO_clip_102 : decode (fx_cc mq_MO_clip) 102 = .ok (.iload_n 2, 1) := by decide +kernel
theorem dq_MO_clip_103 : decode (fx_cc mq_MO_clip) 103 = .ok (.goto 4, 3) := by decide +kernel
theorem dq_MO_clip_106 : decode (fx_cc mq_MO_clip) 106 = .ok (.iconst 0, 1) := by decide +kernel
theorem dq_MO_clip_107 : decode (fx_cc mq_MO_clip) 107 = .ok (.iastore, 1) := by decide +kernel
theorem dq_MO_clip_108 : decode (fx_cc mq_MO_clip) 108 = .ok (.aload_n 0, 1) := by decide +kernel
theorem dq_MO_clip_109 : decode (fx_cc mq_MO_clip) 109 = .ok (.getfield 50, 3) := by decide +kernel
theorem dq_MO_clip_112 : decode (fx_cc mq_MO_clip) 112 = .ok (.iload_n 1, 1) := by decide +kernel
theorem dq_MO_clip_113 : decode (fx_cc mq_MO_clip) 113 = .ok (.iload_n 3, 1) := by decide +kernel
theorem dq_MO_clip_114 : decode (fx_cc mq_MO_clip) 114 = .ok (.ifCond .le 7, 3) := by decide +kernel
theorem dq_MO_clip_117 : decode (fx_cc mq_MO_clip) 117 = .ok (.iload_n 3, 1) := by decide +kernel
theorem dq_MO_clip_118 : decode (fx_cc mq_MO_clip) 118 = .ok (.goto 4, 3) := by decide +kernel
theorem dq_MO_clip_121 : decode (fx_cc mq_MO_clip) 121 = .ok (.iconst 0, 1) := by decide +kernel
theorem dq_MO_clip_122 : decode (fx_cc mq_MO_clip) 122 = .ok (.iastore, 1) := by decide +kernel
theorem dq_MO_clip_123 : decode (fx_cc mq_MO_clip) 123 = .ok (.aload_n 0, 1) := by decide +kernel
theorem dq_MO_clip_124 : decode (fx_cc mq_MO_clip) 124 = .ok (.getfield 53, 3) := by decide +kernel
theorem dq_MO_clip_127 : decode (fx_cc mq_MO_clip) 127 = .ok (.iload_n 1, 1) := by decide +kernel
theorem dq_MO_clip_128 : decode (fx_cc mq_MO_clip) 128 = .ok (.iload 6, 2) := by decide +kernel
theorem dq_MO_clip_130 : decode (fx_cc mq_MO_clip) 130 = .ok (.aload_n 0, 1) := by decide +kernel
theorem dq_MO_clip_131 : decode (fx_cc mq_MO_clip) 131 = .ok (.getfield 47, 3) := by decide +kernel
theorem dq_MO_clip_134 : decode (fx_cc mq_MO_clip) 134 = .ok (.iload_n 1, 1) := by decide +kernel
theorem dq_MO_clip_135 : decode (fx_cc mq_MO_clip) 135 = .ok (.iaload, 1) := by decide +kernel
theorem dq_MO_clip_136 : decode (fx_cc mq_MO_clip) 136 = .ok (.isub, 1) := by decide +kernel
theorem dq_MO_clip_137 : decode (fx_cc mq_MO_clip) 137 = .ok (.iastore, 1) := by decide +kernel
theorem dq_MO_clip_138 : decode (fx_cc mq_MO_clip) 138 = .ok (.aload_n 0, 1) := by decide +kernel
theorem dq_MO_clip_139 : decode (fx_cc mq_MO_clip) 139 = .ok (.getfield 56, 3) := by decide +kernel
theorem dq_MO_clip_142 : decode (fx_cc mq_MO_clip) 142 = .ok (.iload_n 1, 1) := by decide +kernel
theorem dq_MO_clip_143 : decode (fx_cc mq_MO_clip) 143 = .ok (.iload 7, 2) := by decide +kernel
theorem dq_MO_clip_145 : decode (fx_cc mq_MO_clip) 145 = .ok (.aload_n 0, 1) := by decide +kernel
theorem dq_MO_clip_146 : decode (fx_cc mq_MO_clip) 146 = .ok (.getfield 50, 3) := by decide +kernel
theorem dq_MO_clip_149 : decode (fx_cc mq_MO_clip) 149 = .ok (.iload_n 1, 1) := by decide +kernel
theorem dq_MO_clip_150 : decode (fx_cc mq_MO_clip) 150 = .ok (.iaload, 1) := by decide +kernel
theorem dq_MO_clip_151 : decode (fx_cc mq_MO_clip) 151 = .ok (.isub, 1) := by decide +kernel
theorem dq_MO_clip_152 : decode (fx_cc mq_MO_clip) 152 = .ok (.iastore, 1) := by decide +kernel
theorem dq_MO_clip_153 : decode (fx_cc mq_MO_clip) 153 = .ok (.aload_n 0, 1) := by decide +kernel
theorem dq_MO_clip_154 : decode (fx_cc mq_MO_clip) 154 = .ok (.getfield 53, 3) := by decide +kernel
theorem dq_MO_clip_157 : decode (fx_cc mq_MO_clip) 157 = .ok (.iload_n 1, 1) := by decide +kernel
theorem dq_MO_clip_158 : decode (fx_cc mq_MO_clip) 158 = .ok (.iaload, 1) := by decide +kernel
theorem dq_MO_clip_159 : decode (fx_cc mq_MO_clip) 159 = .ok (.ifCond .le 13, 3) := by decide +kernel
theorem dq_MO_clip_162 : decode (fx_cc mq_MO_clip) 162 = .ok (.aload_n 0, 1) := by decide +kernel
theorem dq_MO_clip_163 : decode (fx_cc mq_MO_clip) 163 = .ok (.getfield 56, 3) := by decide +kernel
theorem dq_MO_clip_166 : decode (fx_cc mq_MO_clip) 166 = .ok (.iload_n 1, 1) := by decide +kernel
theorem dq_MO_clip_167 : decode (fx_cc mq_MO_clip) 167 = .ok (.iaload, 1) := by decide +kernel
theorem dq_MO_clip_168 : decode (fx_cc mq_MO_clip) 168 = .ok (.ifCond .le 4, 3) := by decide +kernel
theorem dq_MO_clip_171 : decode (fx_cc mq_MO_clip) 171 = .ok (.return_, 1) := by decide +kernel
theorem dq_MO_clip_172 : decode (fx_cc mq_MO_clip) 172 = .ok (.aload_n 0, 1) := by decide +kernel
theorem dq_MO_clip_173 : decode (fx_cc mq_MO_clip) 173 = .ok (.getfield 53, 3) := by decide +kernel
theorem dq_MO_clip_176 : decode (fx_cc mq_MO_clip) 176 = .ok (.iload_n 1, 1) := by decide +kernel
theorem dq_MO_clip_177 : decode (fx_cc mq_MO_clip) 177 = .ok (.iconst 0, 1) := by decide +kernel
theorem dq_MO_clip_178 : decode (fx_cc mq_MO_clip) 178 = .ok (.iastore, 1) := by decide +kernel
theorem dq_MO_clip_179 : decode (fx_cc mq_MO_clip) 179 = .ok (.aload_n 0, 1) := by decide +kernel
theorem dq_MO_clip_180 : decode (fx_cc mq_MO_clip) 180 = .ok (.getfield 56, 3) := by decide +kernel
theorem dq_MO_clip_183 : decode (fx_cc mq_MO_clip) 183 = .ok (.iload_n 1, 1) := by decide +kernel
theorem dq_MO_clip_184 : decode (fx_cc mq_MO_clip) 184 = .ok (.iconst 0, 1) := by decide +kernel
theorem dq_MO_clip_185 : decode (fx_cc mq_MO_clip) 185 = .ok (.iastore, 1) := by decide +kernel
theorem dq_MO_clip_186 : decode (fx_cc mq_MO_clip) 186 = .ok (.return_, 1) := by decide +kernel
theorem dq_MO_isArea_0 : decode (fx_cc mq_MO_isArea) 0 = .ok (.iload_n 0, 1) := by decide +kernel
theorem dq_MO_isArea_1 : decode (fx_cc mq_MO_isArea) 1 = .ok (.bipush (-20), 2) := by decide +kernel
theorem dq_MO_isArea_3 : decode (fx_cc mq_MO_isArea) 3 = .ok (.bipush 30, 2) := by decide +kernel
theorem dq_MO_isArea_5 : decode (fx_cc mq_MO_isArea) 5 = .ok (.invokestatic 129, 3) := by decide +kernel
theorem dq_MO_isArea_8 : decode (fx_cc mq_MO_isArea) 8 = .ok (.ifCond .eq 38, 3) := by decide +kernel
theorem dq_MO_isArea_11 : decode (fx_cc mq_MO_isArea) 11 = .ok (.iload_n 1, 1) := by decide +kernel
theorem dq_MO_isArea_12 : decode (fx_cc mq_MO_isArea) 12 = .ok (.bipush (-20), 2) := by decide +kernel
theorem dq_MO_isArea_14 : decode (fx_cc mq_MO_isArea) 14 = .ok (.bipush 30, 2) := by decide +kernel
theorem dq_MO_isArea_16 : decode (fx_cc mq_MO_isArea) 16 = .ok (.invokestatic 129, 3) := by decide +kernel
theorem dq_MO_isArea_19 : decode (fx_cc mq_MO_isArea) 19 = .ok (.ifCond .eq 27, 3) := by decide +kernel
theorem dq_MO_isArea_22 : decode (fx_cc mq_MO_isArea) 22 = .ok (.iload_n 2, 1) := by decide +kernel
theorem dq_MO_isArea_23 : decode (fx_cc mq_MO_isArea) 23 = .ok (.iconst 0, 1) := by decide +kernel
theorem dq_MO_isArea_24 : decode (fx_cc mq_MO_isArea) 24 = .ok (.bipush 30, 2) := by decide +kernel
theorem dq_MO_isArea_26 : decode (fx_cc mq_MO_isArea) 26 = .ok (.invokestatic 129, 3) := by decide +kernel
theorem dq_MO_isArea_29 : decode (fx_cc mq_MO_isArea) 29 = .ok (.ifCond .eq 17, 3) := by decide +kernel
theorem dq_MO_isArea_32 : decode (fx_cc mq_MO_isArea) 32 = .ok (.iload_n 3, 1) := by decide +kernel
theorem dq_MO_isArea_33 : decode (fx_cc mq_MO_isArea) 33 = .ok (.iconst 0, 1) := by decide +kernel
theorem dq_MO_isArea_34 : decode (fx_cc mq_MO_isArea) 34 = .ok (.bipush 30, 2) := by decide +kernel
theorem dq_MO_isArea_36 : decode (fx_cc mq_MO_isArea) 36 = .ok (.invokestatic 129, 3) := by decide +kernel
theorem dq_MO_isArea_39 : decode (fx_cc mq_MO_isArea) 39 = .ok (.ifCond .eq 7, 3) := by decide +kernel
theorem dq_MO_isArea_42 : decode (fx_cc mq_MO_isArea) 42 = .ok (.iconst 1, 1) := by decide +kernel
theorem dq_MO_isArea_43 : decode (fx_cc mq_MO_isArea) 43 = .ok (.goto 4, 3) := by decide +kernel
theorem dq_MO_isArea_46 : decode (fx_cc mq_MO_isArea) 46 = .ok (.iconst 0, 1) := by decide +kernel
theorem dq_MO_isArea_47 : decode (fx_cc mq_MO_isArea) 47 = .ok (.ireturn, 1) := by decide +kernel
theorem dq_MO_put_0 : decode (fx_cc mq_MO_put) 0 = .ok (.aload_n 0, 1) := by decide +kernel
theorem dq_MO_put_1 : decode (fx_cc mq_MO_put) 1 = .ok (.aload_n 0, 1) := by decide +kernel
theorem dq_MO_put_2 : decode (fx_cc mq_MO_put) 2 = .ok (.iload_n 1, 1) := by decide +kernel
theorem dq_MO_put_3 : decode (fx_cc mq_MO_put) 3 = .ok (.invokevirtual 137, 3) := by decide +kernel
theorem dq_MO_put_6 : decode (fx_cc mq_MO_put) 6 = .ok (.ifCond .eq 14, 3) := by decide +kernel
theorem dq_MO_put_9 : decode (fx_cc mq_MO_put) 9 = .ok (.iload 4, 2) := by decide +kernel
theorem dq_MO_put_11 : decode (fx_cc mq_MO_put) 11 = .ok (.iconst 0, 1) := by decide +kernel
theorem dq_MO_put_12 : decode (fx_cc mq_MO_put) 12 = .ok (.ldc 157, 2) := by decide +kernel
theorem dq_MO_put_14 : decode (fx_cc mq_MO_put) 14 = .ok (.invokestatic 129, 3) := by decide +kernel
theorem dq_MO_put_17 : decode (fx_cc mq_MO_put) 17 = .ok (.ifCond .ne 7, 3) := by decide +kernel
theorem dq_MO_put_20 : decode (fx_cc mq_MO_put) 20 = .ok (.iconst 1, 1) := by decide +kernel
theorem dq_MO_put_21 : decode (fx_cc mq_MO_put) 21 = .ok (.goto 18, 3) := by decide +kernel
theorem dq_MO_put_24 : decode (fx_cc mq_MO_put) 24 = .ok (.aload_n 0, 1) := by decide +kernel
theorem dq_MO_put_25 : decode (fx_cc mq_MO_put) 25 = .ok (.iload_n 1, 1) := by decide +kernel
theorem dq_MO_put_26 : decode (fx_cc mq_MO_put) 26 = .ok (.iload_n 2, 1) := by decide +kernel
theorem dq_MO_put_27 : decode (fx_cc mq_MO_put) 27 = .ok (.iload_n 3, 1) := by decide +kernel
theorem dq_MO_put_28 : decode (fx_cc mq_MO_put) 28 = .ok (.invokevirtual 158, 3) := by decide +kernel
theorem dq_MO_put_31 : decode (fx_cc mq_MO_put) 31 = .ok (.ifCond .eq 7, 3) := by decide +kernel
theorem dq_MO_put_34 : decode (fx_cc mq_MO_put) 34 = .ok (.iconst 0, 1) := by decide +kernel
theorem dq_MO_put_35 : decode (fx_cc mq_MO_put) 35 = .ok (.goto 4, 3) := by decide +kernel
theorem dq_MO_put_38 : decode (fx_cc mq_MO_put) 38 = .ok (.iconst 2, 1) := by decide +kernel
theorem dq_MO_put_39 : decode (fx_cc mq_MO_put) 39 = .ok (.putfield 126, 3) := by decide +kernel
theorem dq_MO_put_42 : decode (fx_cc mq_MO_put) 42 = .ok (.aload_n 0, 1) := by decide +kernel
theorem dq_MO_put_43 : decode (fx_cc mq_MO_put) 43 = .ok (.getfield 126, 3) := by decide +kernel
theorem dq_MO_put_46 : decode (fx_cc mq_MO_put) 46 = .ok (.ifCond .ne 25, 3) := by decide +kernel
theorem dq_MO_put_49 : decode (fx_cc mq_MO_put) 49 = .ok (.aload_n 0, 1) := by decide +kernel
theorem dq_MO_put_50 : decode (fx_cc mq_MO_put) 50 = .ok (.getfield 59, 3) := by decide +kernel
theorem dq_MO_put_53 : decode (fx_cc mq_MO_put) 53 = .ok (.bipush 96, 2) := by decide +kernel
theorem dq_MO_put_55 : decode (fx_cc mq_MO_put) 55 = .ok (.iload_n 1, 1) := by decide +kernel
theorem dq_MO_put_56 : decode (fx_cc mq_MO_put) 56 = .ok (.imul, 1) := by decide +kernel
theorem dq_MO_put_57 : decode (fx_cc mq_MO_put) 57 = .ok (.aload_n 0, 1) := by decide +kernel
theorem dq_MO_put_58 : decode (fx_cc mq_MO_put) 58 = .ok (.getfield 17, 3) := by decide +kernel
theorem dq_MO_put_61 : decode (fx_cc mq_MO_put) 61 = .ok (.iload_n 1, 1) := by decide +kernel
theorem dq_MO_put_62 : decode (fx_cc mq_MO_put) 62 = .ok (.iaload, 1) := by decide +kernel
theorem dq_MO_put_63 : decode (fx_cc mq_MO_put) 63 = .ok (.iload_n 3, 1) := by decide +kernel
theorem dq_MO_put_64 : decode (fx_cc mq_MO_put) 64 = .ok (.imul, 1) := by decide +kernel
theorem dq_MO_put_65 : decode (fx_cc mq_MO_put) 65 = .ok (.iadd, 1) := by decide +kernel
theorem dq_MO_put_66 : decode (fx_cc mq_MO_put) 66 = .ok (.iload_n 2, 1) := by decide +kernel
theorem dq_MO_put_67 : decode (fx_cc mq_MO_put) 67 = .ok (.iadd, 1) := by decide +kernel
theorem dq_MO_put_68 : decode (fx_cc mq_MO_put) 68 = .ok (.iload 4, 2) := by decide +kernel
theorem dq_MO_put_70 : decode (fx_cc mq_MO_put) 70 = .ok (.iastore, 1) := by decide +kernel
theorem dq_MO_put_71 : decode (fx_cc mq_MO_put) 71 = .ok (.return_, 1) := by decide +kernel
theorem dq_MO_has_0 : decode (fx_cc mq_MO_has) 0 = .ok (.iload_n 2, 1) := by decide +kernel
theorem dq_MO_has_1 : decode (fx_cc mq_MO_has) 1 = .ok (.ifCond .lt 31, 3) := by decide +kernel
theorem dq_MO_has_4 : decode (fx_cc mq_MO_has) 4 = .ok (.iload_n 2, 1) := by decide +kernel
theorem dq_MO_has_5 : decode (fx_cc mq_MO_has) 5 = .ok (.aload_n 0, 1) := by decide +kernel
theorem dq_MO_has_6 : decode (fx_cc mq_MO_has) 6 = .ok (.getfield 17, 3) := by decide +kernel
theorem dq_MO_has_9 : decode (fx_cc mq_MO_has) 9 = .ok (.iload_n 1, 1) := by decide +kernel
theorem dq_MO_has_10 : decode (fx_cc mq_MO_has) 10 = .ok (.iaload, 1) := by decide +kernel
theorem dq_MO_has_11 : decode (fx_cc mq_MO_has) 11 = .ok (.if_icmp .ge 21, 3) := by decide +kernel
theorem dq_MO_has_14 : decode (fx_cc mq_MO_has) 14 = .ok (.iload_n 3, 1) := by decide +kernel
theorem dq_MO_has_15 : decode (fx_cc mq_MO_has) 15 = .ok (.ifCond .lt 17, 3) := by decide +kernel
theorem dq_MO_has_18 : decode (fx_cc mq_MO_has) 18 = .ok (.iload_n 3, 1) := by decide +kernel
theorem dq_MO_has_19 : decode (fx_cc mq_MO_has) 19 = .ok (.aload_n 0, 1) := by decide +kernel
theorem dq_MO_has_20 : decode (fx_cc mq_MO_has) 20 = .ok (.getfield 20, 3) := by decide +kernel
theorem dq_MO_has_23 : decode (fx_cc mq_MO_has) 23 = .ok (.iload_n 1, 1) := by decide +kernel
theorem dq_MO_has_24 : decode (fx_cc mq_MO_has) 24 = .ok (.iaload, 1) := by decide +kernel
theorem dq_MO_has_25 : decode (fx_cc mq_MO_has) 25 = .ok (.if_icmp .ge 7, 3) := by decide +kernel
theorem dq_MO_has_28 : decode (fx_cc mq_MO_has) 28 = .ok (.iconst 1, 1) := by decide +kernel
theorem dq_MO_has_29 : decode (fx_cc mq_MO_has) 29 = .ok (.goto 4, 3) := by decide +kernel
theorem dq_MO_has_32 : decode (fx_cc mq_MO_has) 32 = .ok (.iconst 0, 1) := by decide +kernel
theorem dq_MO_has_33 : decode (fx_cc mq_MO_has) 33 = .ok (.ireturn, 1) := by decide +kernel
theorem dq_MO_fill_0 : decode (fx_cc mq_MO_fill) 0 = .ok (.aload_n 0, 1) := by decide +kernel
theorem dq_MO_fill_1 : decode (fx_cc mq_MO_fill) 1 = .ok (.aload_n 0, 1) := by decide +kernel
theorem dq_MO_fill_2 : decode (fx_cc mq_MO_fill) 2 = .ok (.iload_n 1, 1) := by decide +kernel
theorem dq_MO_fill_3 : decode (fx_cc mq_MO_fill) 3 = .ok (.invokevirtual 137, 3) := by decide +kernel
theorem dq_MO_fill_6 : decode (fx_cc mq_MO_fill) 6 = .ok (.ifCond .eq 30, 3) := by decide +kernel
theorem dq_MO_fill_9 : decode (fx_cc mq_MO_fill) 9 = .ok (.iload 6, 2) := by decide +kernel
theorem dq_MO_fill_11 : decode (fx_cc mq_MO_fill) 11 = .ok (.iconst 0, 1) := by decide +kernel
theorem dq_MO_fill_12 : decode (fx_cc mq_MO_fill) 12 = .ok (.ldc 157, 2) := by decide +kernel
theorem dq_MO_fill_14 : decode (fx_cc mq_MO_fill) 14 = .ok (.invokestatic 129, 3) := by decide +kernel
theorem dq_MO_fill_17 : decode (fx_cc mq_MO_fill) 17 = .ok (.ifCond .eq 19, 3) := by decide +kernel
theorem dq_MO_fill_20 : decode (fx_cc mq_MO_fill) 20 = .ok (.iload_n 2, 1) := by decide +kernel
theorem dq_MO_fill_21 : decode (fx_cc mq_MO_fill) 21 = .ok (.iload_n 3, 1) := by decide +kernel
theorem dq_MO_fill_22 : decode (fx_cc mq_MO_fill) 22 = .ok (.iload 4, 2) := by decide +kernel
theorem dq_MO_fill_24 : decode (fx_cc mq_MO_fill) 24 = .ok (.iload 5, 2) := by decide +kernel
theorem dq_MO_fill_26 : decode (fx_cc mq_MO_fill) 26 = .ok (.invokestatic 153, 3) := by decide +kernel
theorem dq_MO_fill_29 : decode (fx_cc mq_MO_fill) 29 = .ok (.ifCond .eq 7, 3) := by decide +kernel
theorem dq_MO_fill_32 : decode (fx_cc mq_MO_fill) 32 = .ok (.iconst 0, 1) := by decide +kernel
theorem dq_MO_fill_33 : decode (fx_cc mq_MO_fill) 33 = .ok (.goto 4, 3) := by decide +kernel
theorem dq_MO_fill_36 : decode (fx_cc mq_MO_fill) 36 = .ok (.iconst 1, 1) := by decide +kernel
theorem dq_MO_fill_37 : decode (fx_cc mq_MO_fill) 37 = .ok (.putfield 126, 3) := by decide +kernel
theorem dq_MO_fill_40 : decode (fx_cc mq_MO_fill) 40 = .ok (.aload_n 0, 1) := by decide +kernel
theorem dq_MO_fill_41 : decode (fx_cc mq_MO_fill) 41 = .ok (.getfield 126, 3) := by decide +kernel
theorem dq_MO_fill_44 : decode (fx_cc mq_MO_fill) 44 = .ok (.ifCond .eq 5, 3) := by decide +kernel
theorem dq_MO_fill_47 : decode (fx_cc mq_MO_fill) 47 = .ok (.iconst 0, 1) := by decide +kernel
theorem dq_MO_fill_48 : decode (fx_cc mq_MO_fill) 48 = .ok (.ireturn, 1) := by decide +kernel
theorem dq_MO_fill_49 : decode (fx_cc mq_MO_fill) 49 = .ok (.iconst 0, 1) := by decide +kernel
theorem dq_MO_fill_50 : decode (fx_cc mq_MO_fill) 50 = .ok (.istore 7, 2) := by decide +kernel
theorem dq_MO_fill_52 : decode (fx_cc mq_MO_fill) 52 = .ok (.iload_n 3, 1) := by decide +kernel
theorem dq_MO_fill_53 : decode (fx_cc mq_MO_fill) 53 = .ok (.istore 8, 2) := by decide +kernel
theorem dq_MO_fill_55 : decode (fx_cc mq_MO_fill) 55 = .ok (.iload 8, 2) := by decide +kernel
theorem dq_MO_fill_57 : decode (fx_cc mq_MO_fill) 57 = .ok (.iload_n 3, 1) := by decide +kernel
theorem dq_MO_fill_58 : decode (fx_cc mq_MO_fill) 58 = .ok (.iload 5, 2) := by decide +kernel
theorem dq_MO_fill_60 : decode (fx_cc mq_MO_fill) 60 = .ok (.iadd, 1) := by decide +kernel
theorem dq_MO_fill_61 : decode (fx_cc mq_MO_fill) 61 = .ok (.if_icmp .ge 69, 3) := by decide +kernel
theorem dq_MO_fill_64 : decode (fx_cc mq_MO_fill) 64 = .ok (.iload_n 2, 1) := by decide +kernel
theorem dq_MO_fill_65 : decode (fx_cc mq_MO_fill) 65 = .ok (.istore 9, 2) := by decide +kernel
theorem dq_MO_fill_67 : decode (fx_cc mq_MO_fill) 67 = .ok (.iload 9, 2) := by decide +kernel
theorem dq_MO_fill_69 : decode (fx_cc mq_MO_fill) 69 = .ok (.iload_n 2, 1) := by decide +kernel
theorem dq_MO_fill_70 : decode (fx_cc mq_MO_fill) 70 = .ok (.iload 4, 2) := by decide +kernel
theorem dq_MO_fill_72 : decode (fx_cc mq_MO_fill) 72 = .ok (.iadd, 1) := by decide +kernel
theorem dq_MO_fill_73 : decode (fx_cc mq_MO_fill) 73 = .ok (.if_icmp .ge 51, 3) := by decide +kernel
theorem dq_MO_fill_76 : decode (fx_cc mq_MO_fill) 76 = .ok (.aload_n 0, 1) := by decide +kernel
theorem dq_MO_fill_77 : decode (fx_cc mq_MO_fill) 77 = .ok (.iload_n 1, 1) := by decide +kernel
theorem dq_MO_fill_78 : decode (fx_cc mq_MO_fill) 78 = .ok (.iload 9, 2) := by decide +kernel
theorem dq_MO_fill_80 : decode (fx_cc mq_MO_fill) 80 = .ok (.iload 8, 2) := by decide +kernel
theorem dq_MO_fill_82 : decode (fx_cc mq_MO_fill) 82 = .ok (.invokevirtual 158, 3) := by decide +kernel
theorem dq_MO_fill_85 : decode (fx_cc mq_MO_fill) 85 = .ok (.ifCond .ne 6, 3) := by decide +kernel
theorem dq_MO_fill_88 : decode (fx_cc mq_MO_fill) 88 = .ok (.goto 30, 3) := by decide +kernel
theorem dq_MO_fill_91 : decode (fx_cc mq_MO_fill) 91 = .ok (.aload_n 0, 1) := by decide +kernel
theorem dq_MO_fill_92 : decode (fx_cc mq_MO_fill) 92 = .ok (.getfield 59, 3) := by decide +kernel
theorem dq_MO_fill_95 : decode (fx_cc mq_MO_fill) 95 = .ok (.bipush 96, 2) := by decide +kernel
theorem dq_MO_fill_97 : decode (fx_cc mq_MO_fill) 97 = .ok (.iload_n 1, 1) := by decide +kernel
theorem dq_MO_fill_98 : decode (fx_cc mq_MO_fill) 98 = .ok (.imul, 1) := by decide +kernel
theorem dq_MO_fill_99 : decode (fx_cc mq_MO_fill) 99 = .ok (.aload_n 0, 1) := by decide +kernel
theorem dq_MO_fill_100 : decode (fx_cc mq_MO_fill) 100 = .ok (.getfield 17, 3) := by decide +kernel
theorem dq_MO_fill_103 : decode (fx_cc mq_MO_fill) 103 = .ok (.iload_n 1, 1) := by decide +kernel
theorem dq_MO_fill_104 : decode (fx_cc mq_MO_fill) 104 = .ok (.iaload, 1) := by decide +kernel
theorem dq_MO_fill_105 : decode (fx_cc mq_MO_fill) 105 = .ok (.iload 8, 2) := by decide +kernel
theorem dq_MO_fill_107 : decode (fx_cc mq_MO_fill) 107 = .ok (.imul, 1) := by decide +kernel
theorem dq_MO_fill_108 : decode (fx_cc mq_MO_fill) 108 = .ok (.iadd, 1) := by decide +kernel
theorem dq_MO_fill_109 : decode (fx_cc mq_MO_fill) 109 = .ok (.iload 9, 2) := by decide +kernel
theorem dq_MO_fill_111 : decode (fx_cc mq_MO_fill) 111 = .ok (.iadd, 1) := by decide +kernel
theorem dq_MO_fill_112 : decode (fx_cc mq_MO_fill) 112 = .ok (.iload 6, 2) := by decide +kernel
theorem dq_MO_fill_114 : decode (fx_cc mq_MO_fill) 114 = .ok (.iastore, 1) := by decide +kernel
theorem dq_MO_fill_115 : decode (fx_cc mq_MO_fill) 115 = .ok (.iinc 7 1, 3) := by decide +kernel
theorem dq_MO_fill_118 : decode (fx_cc mq_MO_fill) 118 = .ok (.iinc 9 1, 3) := by decide +kernel
theorem dq_MO_fill_121 : decode (fx_cc mq_MO_fill) 121 = .ok (.goto (-54), 3) := by decide +kernel
theorem dq_MO_fill_124 : decode (fx_cc mq_MO_fill) 124 = .ok (.iinc 8 1, 3) := by decide +kernel
theorem dq_MO_fill_127 : decode (fx_cc mq_MO_fill) 127 = .ok (.goto (-72), 3) := by decide +kernel
theorem dq_MO_fill_130 : decode (fx_cc mq_MO_fill) 130 = .ok (.iload 7, 2) := by decide +kernel
theorem dq_MO_fill_132 : decode (fx_cc mq_MO_fill) 132 = .ok (.ireturn, 1) := by decide +kernel
theorem dq_MO_copy_0 : decode (fx_cc mq_MO_copy) 0 = .ok (.aload_n 0, 1) := by decide +kernel
theorem dq_MO_copy_1 : decode (fx_cc mq_MO_copy) 1 = .ok (.aload_n 0, 1) := by decide +kernel
theorem dq_MO_copy_2 : decode (fx_cc mq_MO_copy) 2 = .ok (.iload_n 1, 1) := by decide +kernel
theorem dq_MO_copy_3 : decode (fx_cc mq_MO_copy) 3 = .ok (.iload_n 2, 1) := by decide +kernel
theorem dq_MO_copy_4 : decode (fx_cc mq_MO_copy) 4 = .ok (.iload 7, 2) := by decide +kernel
theorem dq_MO_copy_6 : decode (fx_cc mq_MO_copy) 6 = .ok (.iload 8, 2) := by decide +kernel
theorem dq_MO_copy_8 : decode (fx_cc mq_MO_copy) 8 = .ok (.invokevirtual 161, 3) := by decide +kernel
theorem dq_MO_copy_11 : decode (fx_cc mq_MO_copy) 11 = .ok (.ifCond .eq 20, 3) := by decide +kernel
theorem dq_MO_copy_14 : decode (fx_cc mq_MO_copy) 14 = .ok (.iload_n 3, 1) := by decide +kernel
theorem dq_MO_copy_15 : decode (fx_cc mq_MO_copy) 15 = .ok (.iload 4, 2) := by decide +kernel
theorem dq_MO_copy_17 : decode (fx_cc mq_MO_copy) 17 = .ok (.iload 5, 2) := by decide +kernel
theorem dq_MO_copy_19 : decode (fx_cc mq_MO_copy) 19 = .ok (.iload 6, 2) := by decide +kernel
theorem dq_MO_copy_21 : decode (fx_cc mq_MO_copy) 21 = .ok (.invokestatic 153, 3) := by decide +kernel
theorem dq_MO_copy_24 : decode (fx_cc mq_MO_copy) 24 = .ok (.ifCond .eq 7, 3) := by decide +kernel
theorem dq_MO_copy_27 : decode (fx_cc mq_MO_copy) 27 = .ok (.iconst 0, 1) := by decide +kernel
theorem dq_MO_copy_28 : decode (fx_cc mq_MO_copy) 28 = .ok (.goto 4, 3) := by decide +kernel
theorem dq_MO_copy_31 : decode (fx_cc mq_MO_copy) 31 = .ok (.iconst 1, 1) := by decide +kernel
theorem dq_MO_copy_32 : decode (fx_cc mq_MO_copy) 32 = .ok (.putfield 126, 3) := by decide +kernel
theorem dq_MO_copy_35 : decode (fx_cc mq_MO_copy) 35 = .ok (.aload_n 0, 1) := by decide +kernel
theorem dq_MO_copy_36 : decode (fx_cc mq_MO_copy) 36 = .ok (.getfield 126, 3) := by decide +kernel
theorem dq_MO_copy_39 : decode (fx_cc mq_MO_copy) 39 = .ok (.ifCond .eq 5, 3) := by decide +kernel
theorem dq_MO_copy_42 : decode (fx_cc mq_MO_copy) 42 = .ok (.iconst 0, 1) := by decide +kernel
theorem dq_MO_copy_43 : decode (fx_cc mq_MO_copy) 43 = .ok (.ireturn, 1) := by decide +kernel
theorem dq_MO_copy_44 : decode (fx_cc mq_MO_copy) 44 = .ok (.iconst 0, 1) := by decide +kernel
theorem dq_MO_copy_45 : decode (fx_cc mq_MO_copy) 45 = .ok (.istore 9, 2) := by decide +kernel
theorem dq_MO_copy_47 : decode (fx_cc mq_MO_copy) 47 = .ok (.iload 9, 2) := by decide +kernel
theorem dq_MO_copy_49 : decode (fx_cc mq_MO_copy) 49 = .ok (.bipush 96, 2) := by decide +kernel
theorem dq_MO_copy_51 : decode (fx_cc mq_MO_copy) 51 = .ok (.if_icmp .ge 28, 3) := by decide +kernel
theorem dq_MO_copy_54 : decode (fx_cc mq_MO_copy) 54 = .ok (.aload_n 0, 1) := by decide +kernel
theorem dq_MO_copy_55 : decode (fx_cc mq_MO_copy) 55 = .ok (.getfield 62, 3) := by decide +kernel
theorem dq_MO_copy_58 : decode (fx_cc mq_MO_copy) 58 = .ok (.iload 9, 2) := by decide +kernel
theorem dq_MO_copy_60 : decode (fx_cc mq_MO_copy) 60 = .ok (.aload_n 0, 1) := by decide +kernel
theorem dq_MO_copy_61 : decode (fx_cc mq_MO_copy) 61 = .ok (.getfield 59, 3) := by decide +kernel
theorem dq_MO_copy_64 : decode (fx_cc mq_MO_copy) 64 = .ok (.bipush 96, 2) := by decide +kernel
theorem dq_MO_copy_66 : decode (fx_cc mq_MO_copy) 66 = .ok (.iload_n 1, 1) := by decide +kernel
theorem dq_MO_copy_67 : decode (fx_cc mq_MO_copy) 67 = .ok (.imul, 1) := by decide +kernel
theorem dq_MO_copy_68 : decode (fx_cc mq_MO_copy) 68 = .ok (.iload 9, 2) := by decide +kernel
theorem dq_MO_copy_70 : decode (fx_cc mq_MO_copy) 70 = .ok (.iadd, 1) := by decide +kernel
theorem dq_MO_copy_71 : decode (fx_cc mq_MO_copy) 71 = .ok (.iaload, 1) := by decide +kernel
theorem dq_MO_copy_72 : decode (fx_cc mq_MO_copy) 72 = .ok (.iastore, 1) := by decide +kernel
theorem dq_MO_copy_73 : decode (fx_cc mq_MO_copy) 73 = .ok (.iinc 9 1, 3) := by decide +kernel
theorem dq_MO_copy_76 : decode (fx_cc mq_MO_copy) 76 = .ok (.goto (-29), 3) := by decide +kernel
theorem dq_MO_copy_79 : decode (fx_cc mq_MO_copy) 79 = .ok (.iconst 0, 1) := by decide +kernel
theorem dq_MO_copy_80 : decode (fx_cc mq_MO_copy) 80 = .ok (.istore 9, 2) := by decide +kernel
theorem dq_MO_copy_82 : decode (fx_cc mq_MO_copy) 82 = .ok (.iconst 0, 1) := by decide +kernel
theorem dq_MO_copy_83 : decode (fx_cc mq_MO_copy) 83 = .ok (.istore 10, 2) := by decide +kernel
theorem dq_MO_copy_85 : decode (fx_cc mq_MO_copy) 85 = .ok (.iload 10, 2) := by decide +kernel
theorem dq_MO_copy_87 : decode (fx_cc mq_MO_copy) 87 = .ok (.iload 6, 2) := by decide +kernel
theorem dq_MO_copy_89 : decode (fx_cc mq_MO_copy) 89 = .ok (.if_icmp .ge 116, 3) := by decide +kernel
theorem dq_MO_copy_92 : decode (fx_cc mq_MO_copy) 92 = .ok (.iconst 0, 1) := by decide +kernel
theorem dq_MO_copy_93 : decode (fx_cc mq_MO_copy) 93 = .ok (.istore 11, 2) := by decide +kernel
theorem dq_MO_copy_95 : decode (fx_cc mq_MO_copy) 95 = .ok (.iload 11, 2) := by decide +kernel
theorem dq_MO_copy_97 : decode (fx_cc mq_MO_copy) 97 = .ok (.iload 5, 2) := by decide +kernel
theorem dq_MO_copy_99 : decode (fx_cc mq_MO_copy) 99 = .ok (.if_icmp .ge 100, 3) := by decide +kernel
theorem dq_MO_copy_102 : decode (fx_cc mq_MO_copy) 102 = .ok (.aload_n 0, 1) := by decide +kernel
theorem dq_MO_copy_103 : decode (fx_cc mq_MO_copy) 103 = .ok (.iload_n 1, 1) := by decide +kernel
theorem dq_MO_copy_104 : decode (fx_cc mq_MO_copy) 104 = .ok (.iload_n 3, 1) := by decide +kernel
theorem dq_MO_copy_105 : decode (fx_cc mq_MO_copy) 105 = .ok (.iload 11, 2) := by decide +kernel
theorem dq_MO_copy_107 : decode (fx_cc mq_MO_copy) 107 = .ok (.iadd, 1) := by decide +kernel
theorem dq_MO_copy_108 : decode (fx_cc mq_MO_copy) 108 = .ok (.iload 4, 2) := by decide +kernel
theorem dq_MO_copy_110 : decode (fx_cc mq_MO_copy) 110 = .ok (.iload 10, 2) := by decide +kernel
theorem dq_MO_copy_112 : decode (fx_cc mq_MO_copy) 112 = .ok (.iadd, 1) := by decide +kernel
theorem dq_MO_copy_113 : decode (fx_cc mq_MO_copy) 113 = .ok (.invokevirtual 158, 3) := by decide +kernel
theorem dq_MO_copy_116 : decode (fx_cc mq_MO_copy) 116 = .ok (.ifCond .eq 77, 3) := by decide +kernel
theorem dq_MO_copy_119 : decode (fx_cc mq_MO_copy) 119 = .ok (.aload_n 0, 1) := by decide +kernel
theorem dq_MO_copy_120 : decode (fx_cc mq_MO_copy) 120 = .ok (.iload_n 2, 1) := by decide +kernel
theorem dq_MO_copy_121 : decode (fx_cc mq_MO_copy) 121 = .ok (.iload 7, 2) := by decide +kernel
theorem dq_MO_copy_123 : decode (fx_cc mq_MO_copy) 123 = .ok (.iload 11, 2) := by decide +kernel
theorem dq_MO_copy_125 : decode (fx_cc mq_MO_copy) 125 = .ok (.iadd, 1) := by decide +kernel
theorem dq_MO_copy_126 : decode (fx_cc mq_MO_copy) 126 = .ok (.iload 8, 2) := by decide +kernel
theorem dq_MO_copy_128 : decode (fx_cc mq_MO_copy) 128 = .ok (.iload 10, 2) := by decide +kernel
theorem dq_MO_copy_130 : decode (fx_cc mq_MO_copy) 130 = .ok (.iadd, 1) := by decide +kernel
theorem dq_MO_copy_131 : decode (fx_cc mq_MO_copy) 131 = .ok (.invokevirtual 158, 3) := by decide +kernel
theorem dq_MO_copy_134 : decode (fx_cc mq_MO_copy) 134 = .ok (.ifCond .ne 6, 3) := by decide +kernel
theorem dq_MO_copy_137 : decode (fx_cc mq_MO_copy) 137 = .ok (.goto 56, 3) := by decide +kernel
theorem dq_MO_copy_140 : decode (fx_cc mq_MO_copy) 140 = .ok (.aload_n 0, 1) := by decide +kernel
theorem dq_MO_copy_141 : decode (fx_cc mq_MO_copy) 141 = .ok (.getfield 59, 3) := by decide +kernel
theorem dq_MO_copy_144 : decode (fx_cc mq_MO_copy) 144 = .ok (.bipush 96, 2) := by decide +kernel
theorem dq_MO_copy_146 : decode (fx_cc mq_MO_copy) 146 = .ok (.iload_n 2, 1) := by decide +kernel
theorem dq_MO_copy_147 : decode (fx_cc mq_MO_copy) 147 = .ok (.imul, 1) := by decide +kernel
theorem dq_MO_copy_148 : decode (fx_cc mq_MO_copy) 148 = .ok (.aload_n 0, 1) := by decide +kernel
theorem dq_MO_copy_149 : decode (fx_cc mq_MO_copy) 149 = .ok (.getfield 17, 3) := by decide +kernel
theorem dq_MO_copy_152 : decode (fx_cc mq_MO_copy) 152 = .ok (.iload_n 2, 1) := by decide +kernel
theorem dq_MO_copy_153 : decode (fx_cc mq_MO_copy) 153 = .ok (.iaload, 1) := by decide +kernel
theorem dq_MO_copy_154 : decode (fx_cc mq_MO_copy) 154 = .ok (.iload 8, 2) := by decide +kernel
theorem dq_MO_copy_156 : decode (fx_cc mq_MO_copy) 156 = .ok (.iload 10, 2) := by decide +kernel
theorem dq_MO_copy_158 : decode (fx_cc mq_MO_copy) 158 = .ok (.iadd, 1) := by decide +kernel
theorem dq_MO_copy_159 : decode (fx_cc mq_MO_copy) 159 = .ok (.imul, 1) := by decide +kernel
theorem dq_MO_copy_160 : decode (fx_cc mq_MO_copy) 160 = .ok (.iadd, 1) := by decide +kernel
theorem dq_MO_copy_161 : decode (fx_cc mq_MO_copy) 161 = .ok (.iload 7, 2) := by decide +kernel
theorem dq_MO_copy_163 : decode (fx_cc mq_MO_copy) 163 = .ok (.iadd, 1) := by decide +kernel
theorem dq_MO_copy_164 : decode (fx_cc mq_MO_copy) 164 = .ok (.iload 11, 2) := by decide +kernel
theorem dq_MO_copy_166 : decode (fx_cc mq_MO_copy) 166 = .ok (.iadd, 1) := by decide +kernel
theorem dq_MO_copy_167 : decode (fx_cc mq_MO_copy) 167 = .ok (.aload_n 0, 1) := by decide +kernel
theorem dq_MO_copy_168 : decode (fx_cc mq_MO_copy) 168 = .ok (.getfield 62, 3) := by decide +kernel
theorem dq_MO_copy_171 : decode (fx_cc mq_MO_copy) 171 = .ok (.aload_n 0, 1) := by decide +kernel
theorem dq_MO_copy_172 : decode (fx_cc mq_MO_copy) 172 = .ok (.getfield 17, 3) := by decide +kernel
theorem dq_MO_copy_175 : decode (fx_cc mq_MO_copy) 175 = .ok (.iload_n 1, 1) := by decide +kernel
theorem dq_MO_copy_176 : decode (fx_cc mq_MO_copy) 176 = .ok (.iaload, 1) := by decide +kernel
theorem dq_MO_copy_177 : decode (fx_cc mq_MO_copy) 177 = .ok (.iload 4, 2) := by decide +kernel
theorem dq_MO_copy_179 : decode (fx_cc mq_MO_copy) 179 = .ok (.iload 10, 2) := by decide +kernel
theorem dq_MO_copy_181 : decode (fx_cc mq_MO_copy) 181 = .ok (.iadd, 1) := by decide +kernel
theorem dq_MO_copy_182 : decode (fx_cc mq_MO_copy) 182 = .ok (.imul, 1) := by decide +kernel
theorem dq_MO_copy_183 : decode (fx_cc mq_MO_copy) 183 = .ok (.iload_n 3, 1) := by decide +kernel
theorem dq_MO_copy_184 : decode (fx_cc mq_MO_copy) 184 = .ok (.iadd, 1) := by decide +kernel
theorem dq_MO_copy_185 : decode (fx_cc mq_MO_copy) 185 = .ok (.iload 11, 2) := by decide +kernel
theorem dq_MO_copy_187 : decode (fx_cc mq_MO_copy) 187 = .ok (.iadd, 1) := by decide +kernel
theorem dq_MO_copy_188 : decode (fx_cc mq_MO_copy) 188 = .ok (.iaload, 1) := by decide +kernel
theorem dq_MO_copy_189 : decode (fx_cc mq_MO_copy) 189 = .ok (.iastore, 1) := by decide +kernel
theorem dq_MO_copy_190 : decode (fx_cc mq_MO_copy) 190 = .ok (.iinc 9 1, 3) := by decide +kernel
theorem dq_MO_copy_193 : decode (fx_cc mq_MO_copy) 193 = .ok (.iinc 11 1, 3) := by decide +kernel
theorem dq_MO_copy_196 : decode (fx_cc mq_MO_copy) 196 = .ok (.goto (-101), 3) := by decide +kernel
theorem dq_MO_copy_199 : decode (fx_cc mq_MO_copy) 199 = .ok (.iinc 10 1, 3) := by decide +kernel
theorem dq_MO_copy_202 : decode (fx_cc mq_MO_copy) 202 = .ok (.goto (-117), 3) := by decide +kernel
theorem dq_MO_copy_205 : decode (fx_cc mq_MO_copy) 205 = .ok (.iload 9, 2) := by decide +kernel
theorem dq_MO_copy_207 : decode (fx_cc mq_MO_copy) 207 = .ok (.ireturn, 1) := by decide +kernel
theorem dq_MO_isCopy_0 : decode (fx_cc mq_MO_isCopy) 0 = .ok (.aload_n 0, 1) := by decide +kernel
theorem dq_MO_isCopy_1 : decode (fx_cc mq_MO_isCopy) 1 = .ok (.iload_n 1, 1) := by decide +kernel
theorem dq_MO_isCopy_2 : decode (fx_cc mq_MO_isCopy) 2 = .ok (.invokevirtual 137, 3) := by decide +kernel
theorem dq_MO_isCopy_5 : decode (fx_cc mq_MO_isCopy) 5 = .ok (.ifCond .eq 53, 3) := by decide +kernel
theorem dq_MO_isCopy_8 : decode (fx_cc mq_MO_isCopy) 8 = .ok (.aload_n 0, 1) := by decide +kernel
theorem dq_MO_isCopy_9 : decode (fx_cc mq_MO_isCopy) 9 = .ok (.iload_n 2, 1) := by decide +kernel
theorem dq_MO_isCopy_10 : decode (fx_cc mq_MO_isCopy) 10 = .ok (.invokevirtual 137, 3) := by decide +kernel
theorem dq_MO_isCopy_13 : decode (fx_cc mq_MO_isCopy) 13 = .ok (.ifCond .eq 45, 3) := by decide +kernel
theorem dq_MO_isCopy_16 : decode (fx_cc mq_MO_isCopy) 16 = .ok (.aload_n 0, 1) := by decide +kernel
theorem dq_MO_isCopy_17 : decode (fx_cc mq_MO_isCopy) 17 = .ok (.getfield 13, 3) := by decide +kernel
theorem dq_MO_isCopy_20 : decode (fx_cc mq_MO_isCopy) 20 = .ok (.iload_n 1, 1) := by decide +kernel
theorem dq_MO_isCopy_21 : decode (fx_cc mq_MO_isCopy) 21 = .ok (.iaload, 1) := by decide +kernel
theorem dq_MO_isCopy_22 : decode (fx_cc mq_MO_isCopy) 22 = .ok (.aload_n 0, 1) := by decide +kernel
theorem dq_MO_isCopy_23 : decode (fx_cc mq_MO_isCopy) 23 = .ok (.getfield 13, 3) := by decide +kernel
theorem dq_MO_isCopy_26 : decode (fx_cc mq_MO_isCopy) 26 = .ok (.iload_n 2, 1) := by decide +kernel
theorem dq_MO_isCopy_27 : decode (fx_cc mq_MO_isCopy) 27 = .ok (.iaload, 1) := by decide +kernel
theorem dq_MO_isCopy_28 : decode (fx_cc mq_MO_isCopy) 28 = .ok (.if_icmp .ne 30, 3) := by decide +kernel
theorem dq_MO_isCopy_31 : decode (fx_cc mq_MO_isCopy) 31 = .ok (.iload_n 3, 1) := by decide +kernel
theorem dq_MO_isCopy_32 : decode (fx_cc mq_MO_isCopy) 32 = .ok (.bipush (-20), 2) := by decide +kernel
theorem dq_MO_isCopy_34 : decode (fx_cc mq_MO_isCopy) 34 = .ok (.bipush 30, 2) := by decide +kernel
theorem dq_MO_isCopy_36 : decode (fx_cc mq_MO_isCopy) 36 = .ok (.invokestatic 129, 3) := by decide +kernel
theorem dq_MO_isCopy_39 : decode (fx_cc mq_MO_isCopy) 39 = .ok (.ifCond .eq 19, 3) := by decide +kernel
theorem dq_MO_isCopy_42 : decode (fx_cc mq_MO_isCopy) 42 = .ok (.iload 4, 2) := by decide +kernel
theorem dq_MO_isCopy_44 : decode (fx_cc mq_MO_isCopy) 44 = .ok (.bipush (-20), 2) := by decide +kernel
theorem dq_MO_isCopy_46 : decode (fx_cc mq_MO_isCopy) 46 = .ok (.bipush 30, 2) := by decide +kernel
theorem dq_MO_isCopy_48 : decode (fx_cc mq_MO_isCopy) 48 = .ok (.invokestatic 129, 3) := by decide +kernel
theorem dq_MO_isCopy_51 : decode (fx_cc mq_MO_isCopy) 51 = .ok (.ifCond .eq 7, 3) := by decide +kernel
theorem dq_MO_isCopy_54 : decode (fx_cc mq_MO_isCopy) 54 = .ok (.iconst 1, 1) := by decide +kernel
theorem dq_MO_isCopy_55 : decode (fx_cc mq_MO_isCopy) 55 = .ok (.goto 4, 3) := by decide +kernel
theorem dq_MO_isCopy_58 : decode (fx_cc mq_MO_isCopy) 58 = .ok (.iconst 0, 1) := by decide +kernel
theorem dq_MO_isCopy_59 : decode (fx_cc mq_MO_isCopy) 59 = .ok (.ireturn, 1) := by decide +kernel
theorem dq_MO_commit_0 : decode (fx_cc mq_MO_commit) 0 = .ok (.aload_n 0, 1) := by decide +kernel
theorem dq_MO_commit_1 : decode (fx_cc mq_MO_commit) 1 = .ok (.iload_n 1, 1) := by decide +kernel
theorem dq_MO_commit_2 : decode (fx_cc mq_MO_commit) 2 = .ok (.iconst 0, 1) := by decide +kernel
theorem dq_MO_commit_3 : decode (fx_cc mq_MO_commit) 3 = .ok (.iconst 3, 1) := by decide +kernel
theorem dq_MO_commit_4 : decode (fx_cc mq_MO_commit) 4 = .ok (.invokestatic 129, 3) := by decide +kernel
theorem dq_MO_commit_7 : decode (fx_cc mq_MO_commit) 7 = .ok (.ifCond .ne 7, 3) := by decide +kernel
theorem dq_MO_commit_10 : decode (fx_cc mq_MO_commit) 10 = .ok (.iconst 1, 1) := by decide +kernel
theorem dq_MO_commit_11 : decode (fx_cc mq_MO_commit) 11 = .ok (.goto 22, 3) := by decide +kernel
theorem dq_MO_commit_14 : decode (fx_cc mq_MO_commit) 14 = .ok (.aload_n 0, 1) := by decide +kernel
theorem dq_MO_commit_15 : decode (fx_cc mq_MO_commit) 15 = .ok (.getfield 164, 3) := by decide +kernel
theorem dq_MO_commit_18 : decode (fx_cc mq_MO_commit) 18 = .ok (.aload_n 0, 1) := by decide +kernel
theorem dq_MO_commit_19 : decode (fx_cc mq_MO_commit) 19 = .ok (.getfield 167, 3) := by decide +kernel
theorem dq_MO_commit_22 : decode (fx_cc mq_MO_commit) 22 = .ok (.isub, 1) := by decide +kernel
theorem dq_MO_commit_23 : decode (fx_cc mq_MO_commit) 23 = .ok (.bipush 6, 2) := by decide +kernel
theorem dq_MO_commit_25 : decode (fx_cc mq_MO_commit) 25 = .ok (.if_icmp .ne 7, 3) := by decide +kernel
theorem dq_MO_commit_28 : decode (fx_cc mq_MO_commit) 28 = .ok (.iconst 2, 1) := by decide +kernel
theorem dq_MO_commit_29 : decode (fx_cc mq_MO_commit) 29 = .ok (.goto 4, 3) := by decide +kernel
theorem dq_MO_commit_32 : decode (fx_cc mq_MO_commit) 32 = .ok (.iconst 0, 1) := by decide +kernel
theorem dq_MO_commit_33 : decode (fx_cc mq_MO_commit) 33 = .ok (.putfield 126, 3) := by decide +kernel
theorem dq_MO_commit_36 : decode (fx_cc mq_MO_commit) 36 = .ok (.aload_n 0, 1) := by decide +kernel
theorem dq_MO_commit_37 : decode (fx_cc mq_MO_commit) 37 = .ok (.getfield 126, 3) := by decide +kernel
theorem dq_MO_commit_40 : decode (fx_cc mq_MO_commit) 40 = .ok (.ifCond .eq 5, 3) := by decide +kernel
theorem dq_MO_commit_43 : decode (fx_cc mq_MO_commit) 43 = .ok (.iconst 0, 1) := by decide +kernel
theorem dq_MO_commit_44 : decode (fx_cc mq_MO_commit) 44 = .ok (.ireturn, 1) := by decide +kernel
theorem dq_MO_commit_45 : decode (fx_cc mq_MO_commit) 45 = .ok (.iconst 0, 1) := by decide +kernel
theorem dq_MO_commit_46 : decode (fx_cc mq_MO_commit) 46 = .ok (.istore_n 2, 1) := by decide +kernel
theorem dq_MO_commit_47 : decode (fx_cc mq_MO_commit) 47 = .ok (.iload_n 2, 1) := by decide +kernel
theorem dq_MO_commit_48 : decode (fx_cc mq_MO_commit) 48 = .ok (.bipush 10, 2) := by decide +kernel
theorem dq_MO_commit_50 : decode (fx_cc mq_MO_commit) 50 = .ok (.if_icmp .ge 52, 3) := by decide +kernel
theorem dq_MO_commit_53 : decode (fx_cc mq_MO_commit) 53 = .ok (.aload_n 0, 1) := by decide +kernel
theorem dq_MO_commit_54 : decode (fx_cc mq_MO_commit) 54 = .ok (.getfield 7, 3) := by decide +kernel
theorem dq_MO_commit_57 : decode (fx_cc mq_MO_commit) 57 = .ok (.iload_n 2, 1) := by decide +kernel
theorem dq_MO_commit_58 : decode (fx_cc mq_MO_commit) 58 = .ok (.baload, 1) := by decide +kernel
theorem dq_MO_commit_59 : decode (fx_cc mq_MO_commit) 59 = .ok (.ifCond .eq 37, 3) := by decide +kernel
theorem dq_MO_commit_62 : decode (fx_cc mq_MO_commit) 62 = .ok (.aload_n 0, 1) := by decide +kernel
theorem dq_MO_commit_63 : decode (fx_cc mq_MO_commit) 63 = .ok (.getfield 13, 3) := by decide +kernel
theorem dq_MO_commit_66 : decode (fx_cc mq_MO_commit) 66 = .ok (.iload_n 2, 1) := by decide +kernel
theorem dq_MO_commit_67 : decode (fx_cc mq_MO_commit) 67 = .ok (.iaload, 1) := by decide +kernel
theorem dq_MO_commit_68 : decode (fx_cc mq_MO_commit) 68 = .ok (.iload_n 1, 1) := by decide +kernel
theorem dq_MO_commit_69 : decode (fx_cc mq_MO_commit) 69 = .ok (.if_icmp .eq 6, 3) := by decide +kernel
theorem dq_MO_commit_72 : decode (fx_cc mq_MO_commit) 72 = .ok (.goto 24, 3) := by decide +kernel
theorem dq_MO_commit_75 : decode (fx_cc mq_MO_commit) 75 = .ok (.aload_n 0, 1) := by decide +kernel
theorem dq_MO_commit_76 : decode (fx_cc mq_MO_commit) 76 = .ok (.iload_n 2, 1) := by decide +kernel
theorem dq_MO_commit_77 : decode (fx_cc mq_MO_commit) 77 = .ok (.bipush 10, 2) := by decide +kernel
theorem dq_MO_commit_79 : decode (fx_cc mq_MO_commit) 79 = .ok (.iload_n 2, 1) := by decide +kernel
theorem dq_MO_commit_80 : decode (fx_cc mq_MO_commit) 80 = .ok (.iadd, 1) := by decide +kernel
theorem dq_MO_commit_81 : decode (fx_cc mq_MO_commit) 81 = .ok (.invokevirtual 170, 3) := by decide +kernel
theorem dq_MO_commit_84 : decode (fx_cc mq_MO_commit) 84 = .ok (.aload_n 0, 1) := by decide +kernel
theorem dq_MO_commit_85 : decode (fx_cc mq_MO_commit) 85 = .ok (.getfield 26, 3) := by decide +kernel
theorem dq_MO_commit_88 : decode (fx_cc mq_MO_commit) 88 = .ok (.iload_n 2, 1) := by decide +kernel
theorem dq_MO_commit_89 : decode (fx_cc mq_MO_commit) 89 = .ok (.aload_n 0, 1) := by decide +kernel
theorem dq_MO_commit_90 : decode (fx_cc mq_MO_commit) 90 = .ok (.getfield 23, 3) := by decide +kernel
theorem dq_MO_commit_93 : decode (fx_cc mq_MO_commit) 93 = .ok (.iload_n 2, 1) := by decide +kernel
theorem dq_MO_commit_94 : decode (fx_cc mq_MO_commit) 94 = .ok (.baload, 1) := by decide +kernel
theorem dq_MO_commit_95 : decode (fx_cc mq_MO_commit) 95 = .ok (.bastore, 1) := by decide +kernel
theorem dq_MO_commit_96 : decode (fx_cc mq_MO_commit) 96 = .ok (.iinc 2 1, 3) := by decide +kernel
theorem dq_MO_commit_99 : decode (fx_cc mq_MO_commit) 99 = .ok (.goto (-52), 3) := by decide +kernel
theorem dq_MO_commit_102 : decode (fx_cc mq_MO_commit) 102 = .ok (.aload_n 0, 1) := by decide +kernel
theorem dq_MO_commit_103 : decode (fx_cc mq_MO_commit) 103 = .ok (.getfield 65, 3) := by decide +kernel
theorem dq_MO_commit_106 : decode (fx_cc mq_MO_commit) 106 = .ok (.iload_n 1, 1) := by decide +kernel
theorem dq_MO_commit_107 : decode (fx_cc mq_MO_commit) 107 = .ok (.iconst 1, 1) := by decide +kernel
theorem dq_MO_commit_108 : decode (fx_cc mq_MO_commit) 108 = .ok (.bastore, 1) := by decide +kernel
theorem dq_MO_commit_109 : decode (fx_cc mq_MO_commit) 109 = .ok (.aload_n 0, 1) := by decide +kernel
theorem dq_MO_commit_110 : decode (fx_cc mq_MO_commit) 110 = .ok (.dup, 1) := by decide +kernel
theorem dq_MO_commit_111 : decode (fx_cc mq_MO_commit) 111 = .ok (.getfield 164, 3) := by decide +kernel
theorem dq_MO_commit_114 : decode (fx_cc mq_MO_commit) 114 = .ok (.iconst 1, 1) := by decide +kernel
theorem dq_MO_commit_115 : decode (fx_cc mq_MO_commit) 115 = .ok (.iadd, 1) := by decide +kernel
theorem dq_MO_commit_116 : decode (fx_cc mq_MO_commit) 116 = .ok (.putfield 164, 3) := by decide +kernel
theorem dq_MO_commit_119 : decode (fx_cc mq_MO_commit) 119 = .ok (.aload_n 0, 1) := by decide +kernel
theorem dq_MO_commit_120 : decode (fx_cc mq_MO_commit) 120 = .ok (.getfield 164, 3) := by decide +kernel
theorem dq_MO_commit_123 : decode (fx_cc mq_MO_commit) 123 = .ok (.ireturn, 1) := by decide +kernel
theorem dq_MO_copyPicture_0 : decode (fx_cc mq_MO_copyPicture) 0 = .ok (.aload_n 0, 1) := by decide +kernel
theorem dq_MO_copyPicture_1 : decode (fx_cc mq_MO_copyPicture) 1 = .ok (.getfield 29, 3) := by decide +kernel
theorem dq_MO_copyPicture_4 : decode (fx_cc mq_MO_copyPicture) 4 = .ok (.iload_n 2, 1) := by decide +kernel
theorem dq_MO_copyPicture_5 : decode (fx_cc mq_MO_copyPicture) 5 = .ok (.aload_n 0, 1) := by decide +kernel
end
section
/-! ===== a row for each instruction ===== -/
theorem dq_MO_copyPicture_6 : decode (fx_cc mq_MO_copyPicture) 6 = .ok (.getfield 29, 3) := by decide +kernel
theorem dq_MO_copyPicture_9 : decode (fx_cc mq_MO_copyPicture) 9 = .ok (.iload_n 1, 1) := by decide +kernel
theorem dq_MO_copyPicture_10 : decode (fx_cc mq_MO_copyPicture) 10 = .ok (.baload, 1) := by decide +kernel
theorem dq_MO_copyPicture_11 : decode (fx_cc mq_MO_copyPicture) 11 = .ok (.bastore, 1) := by decide +kernel
theorem dq_MO_copyPicture_12 : decode (fx_cc mq_MO_copyPicture) 12 = .ok (.aload_n 0, 1) := by decide +kernel
theorem dq_MO_copyPicture_13 : decode (fx_cc mq_MO_copyPicture) 13 = .ok (.getfield 32, 3) := by decide +kernel
theorem dq_MO_copyPicture_16 : decode (fx_cc mq_MO_copyPicture) 16 = .ok (.iload_n 2, 1) := by decide +kernel
theorem dq_MO_copyPicture_17 : decode (fx_cc mq_MO_copyPicture) 17 = .ok (.aload_n 0, 1) := by decide +kernel
theorem dq_MO_copyPicture_18 : decode (fx_cc mq_MO_copyPicture) 18 = .ok (.getfield 32, 3) := by decide +kernel
theorem dq_MO_copyPicture_21 : decode (fx_cc mq_MO_copyPicture) 21 = .ok (.iload_n 1, 1) := by decide +kernel
theorem dq_MO_copyPicture_22 : decode (fx_cc mq_MO_copyPicture) 22 = .ok (.iaload, 1) := by decide +kernel
theorem dq_MO_copyPicture_23 : decode (fx_cc mq_MO_copyPicture) 23 = .ok (.iastore, 1) := by decide +kernel
theorem dq_MO_copyPicture_24 : decode (fx_cc mq_MO_copyPicture) 24 = .ok (.aload_n 0, 1) := by decide +kernel
theorem dq_MO_copyPicture_25 : decode (fx_cc mq_MO_copyPicture) 25 = .ok (.getfield 35, 3) := by decide +kernel
theorem dq_MO_copyPicture_28 : decode (fx_cc mq_MO_copyPicture) 28 = .ok (.iload_n 2, 1) := by decide +kernel
theorem dq_MO_copyPicture_29 : decode (fx_cc mq_MO_copyPicture) 29 = .ok (.aload_n 0, 1) := by decide +kernel
theorem dq_MO_copyPicture_30 : decode (fx_cc mq_MO_copyPicture) 30 = .ok (.getfield 35, 3) := by decide +kernel
theorem dq_MO_copyPicture_33 : decode (fx_cc mq_MO_copyPicture) 33 = .ok (.iload_n 1, 1) := by decide +kernel
theorem dq_MO_copyPicture_34 : decode (fx_cc mq_MO_copyPicture) 34 = .ok (.iaload, 1) := by decide +kernel
theorem dq_MO_copyPicture_35 : decode (fx_cc mq_MO_copyPicture) 35 = .ok (.iastore, 1) := by decide +kernel
theorem dq_MO_copyPicture_36 : decode (fx_cc mq_MO_copyPicture) 36 = .ok (.aload_n 0, 1) := by decide +kernel
theorem dq_MO_copyPicture_37 : decode (fx_cc mq_MO_copyPicture) 37 = .ok (.getfield 38, 3) := by decide +kernel
theorem dq_MO_copyPicture_40 : decode (fx_cc mq_MO_copyPicture) 40 = .ok (.iload_n 2, 1) := by decide +kernel
theorem dq_MO_copyPicture_41 : decode (fx_cc mq_MO_copyPicture) 41 = .ok (.aload_n 0, 1) := by decide +kernel
theorem dq_MO_copyPicture_42 : decode (fx_cc mq_MO_copyPicture) 42 = .ok (.getfield 38, 3) := by decide +kernel
theorem dq_MO_copyPicture_45 : decode (fx_cc mq_MO_copyPicture) 45 = .ok (.iload_n 1, 1) := by decide +kernel
theorem dq_MO_copyPicture_46 : decode (fx_cc mq_MO_copyPicture) 46 = .ok (.iaload, 1) := by decide +kernel
theorem dq_MO_copyPicture_47 : decode (fx_cc mq_MO_copyPicture) 47 = .ok (.iastore, 1) := by decide +kernel
theorem dq_MO_copyPicture_48 : decode (fx_cc mq_MO_copyPicture) 48 = .ok (.aload_n 0, 1) := by decide +kernel
theorem dq_MO_copyPicture_49 : decode (fx_cc mq_MO_copyPicture) 49 = .ok (.getfield 41, 3) := by decide +kernel
theorem dq_MO_copyPicture_52 : decode (fx_cc mq_MO_copyPicture) 52 = .ok (.iload_n 2, 1) := by decide +kernel
theorem dq_MO_copyPicture_53 : decode (fx_cc mq_MO_copyPicture) 53 = .ok (.aload_n 0, 1) := by decide +kernel
theorem dq_MO_copyPicture_54 : decode (fx_cc mq_MO_copyPicture) 54 = .ok (.getfield 41, 3) := by decide +kernel
theorem dq_MO_copyPicture_57 : decode (fx_cc mq_MO_copyPicture) 57 = .ok (.iload_n 1, 1) := by decide +kernel
theorem dq_MO_copyPicture_58 : decode (fx_cc mq_MO_copyPicture) 58 = .ok (.iaload, 1) := by decide +kernel
theorem dq_MO_copyPicture_59 : decode (fx_cc mq_MO_copyPicture) 59 = .ok (.iastore, 1) := by decide +kernel
theorem dq_MO_copyPicture_60 : decode (fx_cc mq_MO_copyPicture) 60 = .ok (.aload_n 0, 1) := by decide +kernel
theorem dq_MO_copyPicture_61 : decode (fx_cc mq_MO_copyPicture) 61 = .ok (.getfield 44, 3) := by decide +kernel
theorem dq_MO_copyPicture_64 : decode (fx_cc mq_MO_copyPicture) 64 = .ok (.iload_n 2, 1) := by decide +kernel
theorem dq_MO_copyPicture_65 : decode (fx_cc mq_MO_copyPicture) 65 = .ok (.aload_n 0, 1) := by decide +kernel
theorem dq_MO_copyPicture_66 : decode (fx_cc mq_MO_copyPicture) 66 = .ok (.getfield 44, 3) := by decide +kernel
theorem dq_MO_copyPicture_69 : decode (fx_cc mq_MO_copyPicture) 69 = .ok (.iload_n 1, 1) := by decide +kernel
theorem dq_MO_copyPicture_70 : decode (fx_cc mq_MO_copyPicture) 70 = .ok (.baload, 1) := by decide +kernel
theorem dq_MO_copyPicture_71 : decode (fx_cc mq_MO_copyPicture) 71 = .ok (.bastore, 1) := by decide +kernel
theorem dq_MO_copyPicture_72 : decode (fx_cc mq_MO_copyPicture) 72 = .ok (.aload_n 0, 1) := by decide +kernel
theorem dq_MO_copyPicture_73 : decode (fx_cc mq_MO_copyPicture) 73 = .ok (.getfield 47, 3) := by decide +kernel
theorem dq_MO_copyPicture_76 : decode (fx_cc mq_MO_copyPicture) 76 = .ok (.iload_n 2, 1) := by decide +kernel
theorem dq_MO_copyPicture_77 : decode (fx_cc mq_MO_copyPicture) 77 = .ok (.aload_n 0, 1) := by decide +kernel
theorem dq_MO_copyPicture_78 : decode (fx_cc mq_MO_copyPicture) 78 = .ok (.getfield 47, 3) := by decide +kernel
theorem dq_MO_copyPicture_81 : decode (fx_cc mq_MO_copyPicture) 81 = .ok (.iload_n 1, 1) := by decide +kernel
theorem dq_MO_copyPicture_82 : decode (fx_cc mq_MO_copyPicture) 82 = .ok (.iaload, 1) := by decide +kernel
theorem dq_MO_copyPicture_83 : decode (fx_cc mq_MO_copyPicture) 83 = .ok (.iastore, 1) := by decide +kernel
theorem dq_MO_copyPicture_84 : decode (fx_cc mq_MO_copyPicture) 84 = .ok (.aload_n 0, 1) := by decide +kernel
theorem dq_MO_copyPicture_85 : decode (fx_cc mq_MO_copyPicture) 85 = .ok (.getfield 50, 3) := by decide +kernel
theorem dq_MO_copyPicture_88 : decode (fx_cc mq_MO_copyPicture) 88 = .ok (.iload_n 2, 1) := by decide +kernel
theorem dq_MO_copyPicture_89 : decode (fx_cc mq_MO_copyPicture) 89 = .ok (.aload_n 0, 1) := by decide +kernel
theorem dq_MO_copyPicture_90 : decode (fx_cc mq_MO_copyPicture) 90 = .ok (.getfield 50, 3) := by decide +kernel
theorem dq_MO_copyPicture_93 : decode (fx_cc mq_MO_copyPicture) 93 = .ok (.iload_n 1, 1) := by decide +kernel
theorem dq_MO_copyPicture_94 : decode (fx_cc mq_MO_copyPicture) 94 = .ok (.iaload, 1) := by decide +kernel
theorem dq_MO_copyPicture_95 : decode (fx_cc mq_MO_copyPicture) 95 = .ok (.iastore, 1) := by decide +kernel
theorem dq_MO_copyPicture_96 : decode (fx_cc mq_MO_copyPicture) 96 = .ok (.aload_n 0, 1) := by decide +kernel
theorem dq_MO_copyPicture_97 : decode (fx_cc mq_MO_copyPicture) 97 = .ok (.getfield 53, 3) := by decide +kernel
theorem dq_MO_copyPicture_100 : decode (fx_cc mq_MO_copyPicture) 100 = .ok (.iload_n 2, 1) := by decide +kernel
theorem dq_MO_copyPicture_101 : decode (fx_cc mq_MO_copyPicture) 101 = .ok (.aload_n 0, 1) := by decide +kernel
theorem dq_MO_copyPicture_102 : decode (fx_cc mq_MO_copyPicture) 102 = .ok (.getfield 53, 3) := by decide +kernel
theorem dq_MO_copyPicture_105 : decode (fx_cc mq_MO_copyPicture) 105 = .ok (.iload_n 1, 1) := by decide +kernel
theorem dq_MO_copyPicture_106 : decode (fx_cc mq_MO_copyPicture) 106 = .ok (.iaload, 1) := by decide +kernel
theorem dq_MO_copyPicture_107 : decode (fx_cc mq_MO_copyPicture) 107 = .ok (.iastore, 1) := by decide +kernel
theorem dq_MO_copyPicture_108 : decode (fx_cc mq_MO_copyPicture) 108 = .ok (.aload_n 0, 1) := by decide +kernel
theorem dq_MO_copyPicture_109 : decode (fx_cc mq_MO_copyPicture) 109 = .ok (.getfield 56, 3) := by decide +kernel
theorem dq_MO_copyPicture_112 : decode (fx_cc mq_MO_copyPicture) 112 = .ok (.iload_n 2, 1) := by decide +kernel
theorem dq_MO_copyPicture_113 : decode (fx_cc mq_MO_copyPicture) 113 = .ok (.aload_n 0, 1) := by decide +kernel
theorem dq_MO_copyPicture_114 : decode (fx_cc mq_MO_copyPicture) 114 = .ok (.getfield 56, 3) := by decide +kernel
theorem dq_MO_copyPicture_117 : decode (fx_cc mq_MO_copyPicture) 117 = .ok (.iload_n 1, 1) := by decide +kernel
theorem dq_MO_copyPicture_118 : decode (fx_cc mq_MO_copyPicture) 118 = .ok (.iaload, 1) := by decide +kernel
theorem dq_MO_copyPicture_119 : decode (fx_cc mq_MO_copyPicture) 119 = .ok (.iastore, 1) := by decide +kernel
theorem dq_MO_copyPicture_120 : decode (fx_cc mq_MO_copyPicture) 120 = .ok (.iconst 0, 1) := by decide +kernel
theorem dq_MO_copyPicture_121 : decode (fx_cc mq_MO_copyPicture) 121 = .ok (.istore_n 3, 1) := by decide +kernel
theorem dq_MO_copyPicture_122 : decode (fx_cc mq_MO_copyPicture) 122 = .ok (.iload_n 3, 1) := by decide +kernel
theorem dq_MO_copyPicture_123 : decode (fx_cc mq_MO_copyPicture) 123 = .ok (.bipush 96, 2) := by decide +kernel
theorem dq_MO_copyPicture_125 : decode (fx_cc mq_MO_copyPicture) 125 = .ok (.if_icmp .ge 31, 3) := by decide +kernel
theorem dq_MO_copyPicture_128 : decode (fx_cc mq_MO_copyPicture) 128 = .ok (.aload_n 0, 1) := by decide +kernel
theorem dq_MO_copyPicture_129 : decode (fx_cc mq_MO_copyPicture) 129 = .ok (.getfield 59, 3) := by decide +kernel
theorem dq_MO_copyPicture_132 : decode (fx_cc mq_MO_copyPicture) 132 = .ok (.bipush 96, 2) := by decide +kernel
theorem dq_MO_copyPicture_134 : decode (fx_cc mq_MO_copyPicture) 134 = .ok (.iload_n 2, 1) := by decide +kernel
theorem dq_MO_copyPicture_135 : decode (fx_cc mq_MO_copyPicture) 135 = .ok (.imul, 1) := by decide +kernel
theorem dq_MO_copyPicture_136 : decode (fx_cc mq_MO_copyPicture) 136 = .ok (.iload_n 3, 1) := by decide +kernel
theorem dq_MO_copyPicture_137 : decode (fx_cc mq_MO_copyPicture) 137 = .ok (.iadd, 1) := by decide +kernel
theorem dq_MO_copyPicture_138 : decode (fx_cc mq_MO_copyPicture) 138 = .ok (.aload_n 0, 1) := by decide +kernel
theorem dq_MO_copyPicture_139 : decode (fx_cc mq_MO_copyPicture) 139 = .ok (.getfield 59, 3) := by decide +kernel
theorem dq_MO_copyPicture_142 : decode (fx_cc mq_MO_copyPicture) 142 = .ok (.bipush 96, 2) := by decide +kernel
theorem dq_MO_copyPicture_144 : decode (fx_cc mq_MO_copyPicture) 144 = .ok (.iload_n 1, 1) := by decide +kernel
theorem dq_MO_copyPicture_145 : decode (fx_cc mq_MO_copyPicture) 145 = .ok (.imul, 1) := by decide +kernel
theorem dq_MO_copyPicture_146 : decode (fx_cc mq_MO_copyPicture) 146 = .ok (.iload_n 3, 1) := by decide +kernel
theorem dq_MO_copyPicture_147 : decode (fx_cc mq_MO_copyPicture) 147 = .ok (.iadd, 1) := by decide +kernel
theorem dq_MO_copyPicture_148 : decode (fx_cc mq_MO_copyPicture) 148 = .ok (.iaload, 1) := by decide +kernel
theorem dq_MO_copyPicture_149 : decode (fx_cc mq_MO_copyPicture) 149 = .ok (.iastore, 1) := by decide +kernel
theorem dq_MO_copyPicture_150 : decode (fx_cc mq_MO_copyPicture) 150 = .ok (.iinc 3 1, 3) := by decide +kernel
theorem dq_MO_copyPicture_153 : decode (fx_cc mq_MO_copyPicture) 153 = .ok (.goto (-31), 3) := by decide +kernel
theorem dq_MO_copyPicture_156 : decode (fx_cc mq_MO_copyPicture) 156 = .ok (.return_, 1) := by decide +kernel
theorem dq_MO_draw_0 : decode (fx_cc mq_MO_draw) 0 = .ok (.aload_n 0, 1) := by decide +kernel
theorem dq_MO_draw_1 : decode (fx_cc mq_MO_draw) 1 = .ok (.iload_n 1, 1) := by decide +kernel
theorem dq_MO_draw_2 : decode (fx_cc mq_MO_draw) 2 = .ok (.iconst 0, 1) := by decide +kernel
theorem dq_MO_draw_3 : decode (fx_cc mq_MO_draw) 3 = .ok (.sipush 200, 3) := by decide +kernel
theorem dq_MO_draw_6 : decode (fx_cc mq_MO_draw) 6 = .ok (.invokestatic 129, 3) := by decide +kernel
theorem dq_MO_draw_9 : decode (fx_cc mq_MO_draw) 9 = .ok (.ifCond .eq 7, 3) := by decide +kernel
theorem dq_MO_draw_12 : decode (fx_cc mq_MO_draw) 12 = .ok (.iconst 0, 1) := by decide +kernel
theorem dq_MO_draw_13 : decode (fx_cc mq_MO_draw) 13 = .ok (.goto 4, 3) := by decide +kernel
theorem dq_MO_draw_16 : decode (fx_cc mq_MO_draw) 16 = .ok (.iconst 1, 1) := by decide +kernel
theorem dq_MO_draw_17 : decode (fx_cc mq_MO_draw) 17 = .ok (.putfield 126, 3) := by decide +kernel
theorem dq_MO_draw_20 : decode (fx_cc mq_MO_draw) 20 = .ok (.aload_n 0, 1) := by decide +kernel
theorem dq_MO_draw_21 : decode (fx_cc mq_MO_draw) 21 = .ok (.getfield 126, 3) := by decide +kernel
theorem dq_MO_draw_24 : decode (fx_cc mq_MO_draw) 24 = .ok (.ifCond .eq 5, 3) := by decide +kernel
theorem dq_MO_draw_27 : decode (fx_cc mq_MO_draw) 27 = .ok (.iconst 0, 1) := by decide +kernel
theorem dq_MO_draw_28 : decode (fx_cc mq_MO_draw) 28 = .ok (.ireturn, 1) := by decide +kernel
theorem dq_MO_draw_29 : decode (fx_cc mq_MO_draw) 29 = .ok (.aload_n 0, 1) := by decide +kernel
theorem dq_MO_draw_30 : decode (fx_cc mq_MO_draw) 30 = .ok (.getfield 216, 3) := by decide +kernel
theorem dq_MO_draw_33 : decode (fx_cc mq_MO_draw) 33 = .ok (.ifCond .ne 26, 3) := by decide +kernel
theorem dq_MO_draw_36 : decode (fx_cc mq_MO_draw) 36 = .ok (.iload_n 1, 1) := by decide +kernel
theorem dq_MO_draw_37 : decode (fx_cc mq_MO_draw) 37 = .ok (.ifCond .le 22, 3) := by decide +kernel
theorem dq_MO_draw_40 : decode (fx_cc mq_MO_draw) 40 = .ok (.aload_n 0, 1) := by decide +kernel
theorem dq_MO_draw_41 : decode (fx_cc mq_MO_draw) 41 = .ok (.getfield 164, 3) := by decide +kernel
theorem dq_MO_draw_44 : decode (fx_cc mq_MO_draw) 44 = .ok (.aload_n 0, 1) := by decide +kernel
theorem dq_MO_draw_45 : decode (fx_cc mq_MO_draw) 45 = .ok (.getfield 167, 3) := by decide +kernel
theorem dq_MO_draw_48 : decode (fx_cc mq_MO_draw) 48 = .ok (.if_icmp .le 11, 3) := by decide +kernel
theorem dq_MO_draw_51 : decode (fx_cc mq_MO_draw) 51 = .ok (.aload_n 0, 1) := by decide +kernel
theorem dq_MO_draw_52 : decode (fx_cc mq_MO_draw) 52 = .ok (.invokevirtual 241, 3) := by decide +kernel
theorem dq_MO_draw_55 : decode (fx_cc mq_MO_draw) 55 = .ok (.aload_n 0, 1) := by decide +kernel
theorem dq_MO_draw_56 : decode (fx_cc mq_MO_draw) 56 = .ok (.invokevirtual 238, 3) := by decide +kernel
theorem dq_MO_draw_59 : decode (fx_cc mq_MO_draw) 59 = .ok (.iconst 0, 1) := by decide +kernel
theorem dq_MO_draw_60 : decode (fx_cc mq_MO_draw) 60 = .ok (.istore_n 2, 1) := by decide +kernel
theorem dq_MO_draw_61 : decode (fx_cc mq_MO_draw) 61 = .ok (.iload_n 2, 1) := by decide +kernel
theorem dq_MO_draw_62 : decode (fx_cc mq_MO_draw) 62 = .ok (.iload_n 1, 1) := by decide +kernel
theorem dq_MO_draw_63 : decode (fx_cc mq_MO_draw) 63 = .ok (.if_icmp .ge 21, 3) := by decide +kernel
theorem dq_MO_draw_66 : decode (fx_cc mq_MO_draw) 66 = .ok (.aload_n 0, 1) := by decide +kernel
theorem dq_MO_draw_67 : decode (fx_cc mq_MO_draw) 67 = .ok (.getfield 216, 3) := by decide +kernel
theorem dq_MO_draw_70 : decode (fx_cc mq_MO_draw) 70 = .ok (.iconst 1, 1) := by decide +kernel
theorem dq_MO_draw_71 : decode (fx_cc mq_MO_draw) 71 = .ok (.if_icmp .ne 13, 3) := by decide +kernel
theorem dq_MO_draw_74 : decode (fx_cc mq_MO_draw) 74 = .ok (.aload_n 0, 1) := by decide +kernel
theorem dq_MO_draw_75 : decode (fx_cc mq_MO_draw) 75 = .ok (.invokevirtual 244, 3) := by decide +kernel
theorem dq_MO_draw_78 : decode (fx_cc mq_MO_draw) 78 = .ok (.iinc 2 1, 3) := by decide +kernel
theorem dq_MO_draw_81 : decode (fx_cc mq_MO_draw) 81 = .ok (.goto (-20), 3) := by decide +kernel
theorem dq_MO_draw_84 : decode (fx_cc mq_MO_draw) 84 = .ok (.iload_n 2, 1) := by decide +kernel
theorem dq_MO_draw_85 : decode (fx_cc mq_MO_draw) 85 = .ok (.ireturn, 1) := by decide +kernel
theorem dq_MO_begin_0 : decode (fx_cc mq_MO_begin) 0 = .ok (.iconst 0, 1) := by decide +kernel
theorem dq_MO_begin_1 : decode (fx_cc mq_MO_begin) 1 = .ok (.istore_n 1, 1) := by decide +kernel
theorem dq_MO_begin_2 : decode (fx_cc mq_MO_begin) 2 = .ok (.iload_n 1, 1) := by decide +kernel
theorem dq_MO_begin_3 : decode (fx_cc mq_MO_begin) 3 = .ok (.bipush 10, 2) := by decide +kernel
theorem dq_MO_begin_5 : decode (fx_cc mq_MO_begin) 5 = .ok (.if_icmp .ge 81, 3) := by decide +kernel
theorem dq_MO_begin_8 : decode (fx_cc mq_MO_begin) 8 = .ok (.aload_n 0, 1) := by decide +kernel
theorem dq_MO_begin_9 : decode (fx_cc mq_MO_begin) 9 = .ok (.bipush 20, 2) := by decide +kernel
theorem dq_MO_begin_11 : decode (fx_cc mq_MO_begin) 11 = .ok (.iload_n 1, 1) := by decide +kernel
theorem dq_MO_begin_12 : decode (fx_cc mq_MO_begin) 12 = .ok (.iadd, 1) := by decide +kernel
theorem dq_MO_begin_13 : decode (fx_cc mq_MO_begin) 13 = .ok (.invokevirtual 204, 3) := by decide +kernel
theorem dq_MO_begin_16 : decode (fx_cc mq_MO_begin) 16 = .ok (.aload_n 0, 1) := by decide +kernel
theorem dq_MO_begin_17 : decode (fx_cc mq_MO_begin) 17 = .ok (.getfield 105, 3) := by decide +kernel
theorem dq_MO_begin_20 : decode (fx_cc mq_MO_begin) 20 = .ok (.iload_n 1, 1) := by decide +kernel
theorem dq_MO_begin_21 : decode (fx_cc mq_MO_begin) 21 = .ok (.aload_n 0, 1) := by decide +kernel
theorem dq_MO_begin_22 : decode (fx_cc mq_MO_begin) 22 = .ok (.iload_n 1, 1) := by decide +kernel
theorem dq_MO_begin_23 : decode (fx_cc mq_MO_begin) 23 = .ok (.invokevirtual 207, 3) := by decide +kernel
theorem dq_MO_begin_26 : decode (fx_cc mq_MO_begin) 26 = .ok (.bastore, 1) := by decide +kernel
theorem dq_MO_begin_27 : decode (fx_cc mq_MO_begin) 27 = .ok (.aload_n 0, 1) := by decide +kernel
theorem dq_MO_begin_28 : decode (fx_cc mq_MO_begin) 28 = .ok (.getfield 93, 3) := by decide +kernel
theorem dq_MO_begin_31 : decode (fx_cc mq_MO_begin) 31 = .ok (.iload_n 1, 1) := by decide +kernel
theorem dq_MO_begin_32 : decode (fx_cc mq_MO_begin) 32 = .ok (.aload_n 0, 1) := by decide +kernel
theorem dq_MO_begin_33 : decode (fx_cc mq_MO_begin) 33 = .ok (.getfield 141, 3) := by decide +kernel
theorem dq_MO_begin_36 : decode (fx_cc mq_MO_begin) 36 = .ok (.iastore, 1) := by decide +kernel
theorem dq_MO_begin_37 : decode (fx_cc mq_MO_begin) 37 = .ok (.aload_n 0, 1) := by decide +kernel
theorem dq_MO_begin_38 : decode (fx_cc mq_MO_begin) 38 = .ok (.getfield 96, 3) := by decide +kernel
theorem dq_MO_begin_41 : decode (fx_cc mq_MO_begin) 41 = .ok (.iload_n 1, 1) := by decide +kernel
theorem dq_MO_begin_42 : decode (fx_cc mq_MO_begin) 42 = .ok (.aload_n 0, 1) := by decide +kernel
theorem dq_MO_begin_43 : decode (fx_cc mq_MO_begin) 43 = .ok (.getfield 147, 3) := by decide +kernel
theorem dq_MO_begin_46 : decode (fx_cc mq_MO_begin) 46 = .ok (.iastore, 1) := by decide +kernel
theorem dq_MO_begin_47 : decode (fx_cc mq_MO_begin) 47 = .ok (.aload_n 0, 1) := by decide +kernel
theorem dq_MO_begin_48 : decode (fx_cc mq_MO_begin) 48 = .ok (.getfield 99, 3) := by decide +kernel
theorem dq_MO_begin_51 : decode (fx_cc mq_MO_begin) 51 = .ok (.iload_n 1, 1) := by decide +kernel
theorem dq_MO_begin_52 : decode (fx_cc mq_MO_begin) 52 = .ok (.aload_n 0, 1) := by decide +kernel
theorem dq_MO_begin_53 : decode (fx_cc mq_MO_begin) 53 = .ok (.getfield 105, 3) := by decide +kernel
theorem dq_MO_begin_56 : decode (fx_cc mq_MO_begin) 56 = .ok (.iload_n 1, 1) := by decide +kernel
theorem dq_MO_begin_57 : decode (fx_cc mq_MO_begin) 57 = .ok (.baload, 1) := by decide +kernel
theorem dq_MO_begin_58 : decode (fx_cc mq_MO_begin) 58 = .ok (.ifCond .eq 7, 3) := by decide +kernel
theorem dq_MO_begin_61 : decode (fx_cc mq_MO_begin) 61 = .ok (.iconst 0, 1) := by decide +kernel
theorem dq_MO_begin_62 : decode (fx_cc mq_MO_begin) 62 = .ok (.goto 7, 3) := by decide +kernel
theorem dq_MO_begin_65 : decode (fx_cc mq_MO_begin) 65 = .ok (.aload_n 0, 1) := by decide +kernel
theorem dq_MO_begin_66 : decode (fx_cc mq_MO_begin) 66 = .ok (.getfield 144, 3) := by decide +kernel
theorem dq_MO_begin_69 : decode (fx_cc mq_MO_begin) 69 = .ok (.iastore, 1) := by decide +kernel
theorem dq_MO_begin_70 : decode (fx_cc mq_MO_begin) 70 = .ok (.aload_n 0, 1) := by decide +kernel
theorem dq_MO_begin_71 : decode (fx_cc mq_MO_begin) 71 = .ok (.getfield 102, 3) := by decide +kernel
theorem dq_MO_begin_74 : decode (fx_cc mq_MO_begin) 74 = .ok (.iload_n 1, 1) := by decide +kernel
theorem dq_MO_begin_75 : decode (fx_cc mq_MO_begin) 75 = .ok (.aload_n 0, 1) := by decide +kernel
theorem dq_MO_begin_76 : decode (fx_cc mq_MO_begin) 76 = .ok (.getfield 150, 3) := by decide +kernel
theorem dq_MO_begin_79 : decode (fx_cc mq_MO_begin) 79 = .ok (.iastore, 1) := by decide +kernel
theorem dq_MO_begin_80 : decode (fx_cc mq_MO_begin) 80 = .ok (.iinc 1 1, 3) := by decide +kernel
theorem dq_MO_begin_83 : decode (fx_cc mq_MO_begin) 83 = .ok (.goto (-81), 3) := by decide +kernel
theorem dq_MO_begin_86 : decode (fx_cc mq_MO_begin) 86 = .ok (.iconst 0, 1) := by decide +kernel
theorem dq_MO_begin_87 : decode (fx_cc mq_MO_begin) 87 = .ok (.istore_n 1, 1) := by decide +kernel
theorem dq_MO_begin_88 : decode (fx_cc mq_MO_begin) 88 = .ok (.iload_n 1, 1) := by decide +kernel
theorem dq_MO_begin_89 : decode (fx_cc mq_MO_begin) 89 = .ok (.bipush 10, 2) := by decide +kernel
theorem dq_MO_begin_91 : decode (fx_cc mq_MO_begin) 91 = .ok (.if_icmp .ge 30, 3) := by decide +kernel
theorem dq_MO_begin_94 : decode (fx_cc mq_MO_begin) 94 = .ok (.aload_n 0, 1) := by decide +kernel
theorem dq_MO_begin_95 : decode (fx_cc mq_MO_begin) 95 = .ok (.getfield 7, 3) := by decide +kernel
theorem dq_MO_begin_98 : decode (fx_cc mq_MO_begin) 98 = .ok (.iload_n 1, 1) := by decide +kernel
theorem dq_MO_begin_99 : decode (fx_cc mq_MO_begin) 99 = .ok (.baload, 1) := by decide +kernel
theorem dq_MO_begin_100 : decode (fx_cc mq_MO_begin) 100 = .ok (.ifCond .eq 15, 3) := by decide +kernel
theorem dq_MO_begin_103 : decode (fx_cc mq_MO_begin) 103 = .ok (.aload_n 0, 1) := by decide +kernel
theorem dq_MO_begin_104 : decode (fx_cc mq_MO_begin) 104 = .ok (.bipush 10, 2) := by decide +kernel
theorem dq_MO_begin_106 : decode (fx_cc mq_MO_begin) 106 = .ok (.iload_n 1, 1) := by decide +kernel
theorem dq_MO_begin_107 : decode (fx_cc mq_MO_begin) 107 = .ok (.iadd, 1) := by decide +kernel
theorem dq_MO_begin_108 : decode (fx_cc mq_MO_begin) 108 = .ok (.bipush 20, 2) := by decide +kernel
theorem dq_MO_begin_110 : decode (fx_cc mq_MO_begin) 110 = .ok (.iload_n 1, 1) := by decide +kernel
theorem dq_MO_begin_111 : decode (fx_cc mq_MO_begin) 111 = .ok (.iadd, 1) := by decide +kernel
theorem dq_MO_begin_112 : decode (fx_cc mq_MO_begin) 112 = .ok (.invokevirtual 170, 3) := by decide +kernel
theorem dq_MO_begin_115 : decode (fx_cc mq_MO_begin) 115 = .ok (.iinc 1 1, 3) := by decide +kernel
theorem dq_MO_begin_118 : decode (fx_cc mq_MO_begin) 118 = .ok (.goto (-30), 3) := by decide +kernel
theorem dq_MO_begin_121 : decode (fx_cc mq_MO_begin) 121 = .ok (.aload_n 0, 1) := by decide +kernel
theorem dq_MO_begin_122 : decode (fx_cc mq_MO_begin) 122 = .ok (.invokevirtual 210, 3) := by decide +kernel
theorem dq_MO_begin_125 : decode (fx_cc mq_MO_begin) 125 = .ok (.iconst 0, 1) := by decide +kernel
theorem dq_MO_begin_126 : decode (fx_cc mq_MO_begin) 126 = .ok (.istore_n 1, 1) := by decide +kernel
theorem dq_MO_begin_127 : decode (fx_cc mq_MO_begin) 127 = .ok (.iload_n 1, 1) := by decide +kernel
theorem dq_MO_begin_128 : decode (fx_cc mq_MO_begin) 128 = .ok (.bipush 10, 2) := by decide +kernel
theorem dq_MO_begin_130 : decode (fx_cc mq_MO_begin) 130 = .ok (.if_icmp .ge 126, 3) := by decide +kernel
theorem dq_MO_begin_133 : decode (fx_cc mq_MO_begin) 133 = .ok (.aload_n 0, 1) := by decide +kernel
theorem dq_MO_begin_134 : decode (fx_cc mq_MO_begin) 134 = .ok (.getfield 7, 3) := by decide +kernel
theorem dq_MO_begin_137 : decode (fx_cc mq_MO_begin) 137 = .ok (.iload_n 1, 1) := by decide +kernel
theorem dq_MO_begin_138 : decode (fx_cc mq_MO_begin) 138 = .ok (.baload, 1) := by decide +kernel
theorem dq_MO_begin_139 : decode (fx_cc mq_MO_begin) 139 = .ok (.ifCond .eq 17, 3) := by decide +kernel
theorem dq_MO_begin_142 : decode (fx_cc mq_MO_begin) 142 = .ok (.aload_n 0, 1) := by decide +kernel
theorem dq_MO_begin_143 : decode (fx_cc mq_MO_begin) 143 = .ok (.getfield 65, 3) := by decide +kernel
theorem dq_MO_begin_146 : decode (fx_cc mq_MO_begin) 146 = .ok (.aload_n 0, 1) := by decide +kernel
theorem dq_MO_begin_147 : decode (fx_cc mq_MO_begin) 147 = .ok (.getfield 13, 3) := by decide +kernel
theorem dq_MO_begin_150 : decode (fx_cc mq_MO_begin) 150 = .ok (.iload_n 1, 1) := by decide +kernel
theorem dq_MO_begin_151 : decode (fx_cc mq_MO_begin) 151 = .ok (.iaload, 1) := by decide +kernel
theorem dq_MO_begin_152 : decode (fx_cc mq_MO_begin) 152 = .ok (.baload, 1) := by decide +kernel
theorem dq_MO_begin_153 : decode (fx_cc mq_MO_begin) 153 = .ok (.ifCond .ne 17, 3) := by decide +kernel
theorem dq_MO_begin_156 : decode (fx_cc mq_MO_begin) 156 = .ok (.aload_n 0, 1) := by decide +kernel
theorem dq_MO_begin_157 : decode (fx_cc mq_MO_begin) 157 = .ok (.getfield 105, 3) := by decide +kernel
theorem dq_MO_begin_160 : decode (fx_cc mq_MO_begin) 160 = .ok (.iload_n 1, 1) := by decide +kernel
theorem dq_MO_begin_161 : decode (fx_cc mq_MO_begin) 161 = .ok (.baload, 1) := by decide +kernel
theorem dq_MO_begin_162 : decode (fx_cc mq_MO_begin) 162 = .ok (.aload_n 0, 1) := by decide +kernel
theorem dq_MO_begin_163 : decode (fx_cc mq_MO_begin) 163 = .ok (.iload_n 1, 1) := by decide +kernel
theorem dq_MO_begin_164 : decode (fx_cc mq_MO_begin) 164 = .ok (.invokevirtual 207, 3) := by decide +kernel
theorem dq_MO_begin_167 : decode (fx_cc mq_MO_begin) 167 = .ok (.if_icmp .eq 7, 3) := by decide +kernel
theorem dq_MO_begin_170 : decode (fx_cc mq_MO_begin) 170 = .ok (.iconst 1, 1) := by decide +kernel
theorem dq_MO_begin_171 : decode (fx_cc mq_MO_begin) 171 = .ok (.goto 4, 3) := by decide +kernel
theorem dq_MO_begin_174 : decode (fx_cc mq_MO_begin) 174 = .ok (.iconst 0, 1) := by decide +kernel
theorem dq_MO_begin_175 : decode (fx_cc mq_MO_begin) 175 = .ok (.istore_n 2, 1) := by decide +kernel
theorem dq_MO_begin_176 : decode (fx_cc mq_MO_begin) 176 = .ok (.iload_n 2, 1) := by decide +kernel
theorem dq_MO_begin_177 : decode (fx_cc mq_MO_begin) 177 = .ok (.ifCond .ne 6, 3) := by decide +kernel
theorem dq_MO_begin_180 : decode (fx_cc mq_MO_begin) 180 = .ok (.goto 70, 3) := by decide +kernel
theorem dq_MO_begin_183 : decode (fx_cc mq_MO_begin) 183 = .ok (.aload_n 0, 1) := by decide +kernel
theorem dq_MO_begin_184 : decode (fx_cc mq_MO_begin) 184 = .ok (.aload_n 0, 1) := by decide +kernel
theorem dq_MO_begin_185 : decode (fx_cc mq_MO_begin) 185 = .ok (.getfield 93, 3) := by decide +kernel
theorem dq_MO_begin_188 : decode (fx_cc mq_MO_begin) 188 = .ok (.iload_n 1, 1) := by decide +kernel
theorem dq_MO_begin_189 : decode (fx_cc mq_MO_begin) 189 = .ok (.iaload, 1) := by decide +kernel
theorem dq_MO_begin_190 : decode (fx_cc mq_MO_begin) 190 = .ok (.putfield 141, 3) := by decide +kernel
theorem dq_MO_begin_193 : decode (fx_cc mq_MO_begin) 193 = .ok (.aload_n 0, 1) := by decide +kernel
theorem dq_MO_begin_194 : decode (fx_cc mq_MO_begin) 194 = .ok (.aload_n 0, 1) := by decide +kernel
theorem dq_MO_begin_195 : decode (fx_cc mq_MO_begin) 195 = .ok (.getfield 96, 3) := by decide +kernel
theorem dq_MO_begin_198 : decode (fx_cc mq_MO_begin) 198 = .ok (.iload_n 1, 1) := by decide +kernel
theorem dq_MO_begin_199 : decode (fx_cc mq_MO_begin) 199 = .ok (.iaload, 1) := by decide +kernel
theorem dq_MO_begin_200 : decode (fx_cc mq_MO_begin) 200 = .ok (.putfield 147, 3) := by decide +kernel
theorem dq_MO_begin_203 : decode (fx_cc mq_MO_begin) 203 = .ok (.aload_n 0, 1) := by decide +kernel
theorem dq_MO_begin_204 : decode (fx_cc mq_MO_begin) 204 = .ok (.aload_n 0, 1) := by decide +kernel
theorem dq_MO_begin_205 : decode (fx_cc mq_MO_begin) 205 = .ok (.getfield 99, 3) := by decide +kernel
theorem dq_MO_begin_208 : decode (fx_cc mq_MO_begin) 208 = .ok (.iload_n 1, 1) := by decide +kernel
theorem dq_MO_begin_209 : decode (fx_cc mq_MO_begin) 209 = .ok (.iaload, 1) := by decide +kernel
theorem dq_MO_begin_210 : decode (fx_cc mq_MO_begin) 210 = .ok (.putfield 144, 3) := by decide +kernel
theorem dq_MO_begin_213 : decode (fx_cc mq_MO_begin) 213 = .ok (.aload_n 0, 1) := by decide +kernel
theorem dq_MO_begin_214 : decode (fx_cc mq_MO_begin) 214 = .ok (.aload_n 0, 1) := by decide +kernel
theorem dq_MO_begin_215 : decode (fx_cc mq_MO_begin) 215 = .ok (.getfield 102, 3) := by decide +kernel
theorem dq_MO_begin_218 : decode (fx_cc mq_MO_begin) 218 = .ok (.iload_n 1, 1) := by decide +kernel
theorem dq_MO_begin_219 : decode (fx_cc mq_MO_begin) 219 = .ok (.iaload, 1) := by decide +kernel
theorem dq_MO_begin_220 : decode (fx_cc mq_MO_begin) 220 = .ok (.putfield 150, 3) := by decide +kernel
theorem dq_MO_begin_223 : decode (fx_cc mq_MO_begin) 223 = .ok (.aload_n 0, 1) := by decide +kernel
theorem dq_MO_begin_224 : decode (fx_cc mq_MO_begin) 224 = .ok (.invokevirtual 213, 3) := by decide +kernel
theorem dq_MO_begin_227 : decode (fx_cc mq_MO_begin) 227 = .ok (.aload_n 0, 1) := by decide +kernel
theorem dq_MO_begin_228 : decode (fx_cc mq_MO_begin) 228 = .ok (.iload_n 1, 1) := by decide +kernel
theorem dq_MO_begin_229 : decode (fx_cc mq_MO_begin) 229 = .ok (.invokevirtual 207, 3) := by decide +kernel
theorem dq_MO_begin_232 : decode (fx_cc mq_MO_begin) 232 = .ok (.ifCond .eq 6, 3) := by decide +kernel
theorem dq_MO_begin_235 : decode (fx_cc mq_MO_begin) 235 = .ok (.goto 15, 3) := by decide +kernel
theorem dq_MO_begin_238 : decode (fx_cc mq_MO_begin) 238 = .ok (.aload_n 0, 1) := by decide +kernel
theorem dq_MO_begin_239 : decode (fx_cc mq_MO_begin) 239 = .ok (.bipush 20, 2) := by decide +kernel
theorem dq_MO_begin_241 : decode (fx_cc mq_MO_begin) 241 = .ok (.iload_n 1, 1) := by decide +kernel
theorem dq_MO_begin_242 : decode (fx_cc mq_MO_begin) 242 = .ok (.iadd, 1) := by decide +kernel
theorem dq_MO_begin_243 : decode (fx_cc mq_MO_begin) 243 = .ok (.invokevirtual 204, 3) := by decide +kernel
theorem dq_MO_begin_246 : decode (fx_cc mq_MO_begin) 246 = .ok (.aload_n 0, 1) := by decide +kernel
theorem dq_MO_begin_247 : decode (fx_cc mq_MO_begin) 247 = .ok (.invokevirtual 213, 3) := by decide +kernel
theorem dq_MO_begin_250 : decode (fx_cc mq_MO_begin) 250 = .ok (.iinc 1 1, 3) := by decide +kernel
theorem dq_MO_begin_253 : decode (fx_cc mq_MO_begin) 253 = .ok (.goto (-126), 3) := by decide +kernel
theorem dq_MO_begin_256 : decode (fx_cc mq_MO_begin) 256 = .ok (.iconst 0, 1) := by decide +kernel
theorem dq_MO_begin_257 : decode (fx_cc mq_MO_begin) 257 = .ok (.istore_n 1, 1) := by decide +kernel
theorem dq_MO_begin_258 : decode (fx_cc mq_MO_begin) 258 = .ok (.iload_n 1, 1) := by decide +kernel
theorem dq_MO_begin_259 : decode (fx_cc mq_MO_begin) 259 = .ok (.bipush 10, 2) := by decide +kernel
theorem dq_MO_begin_261 : decode (fx_cc mq_MO_begin) 261 = .ok (.if_icmp .ge 57, 3) := by decide +kernel
theorem dq_MO_begin_264 : decode (fx_cc mq_MO_begin) 264 = .ok (.aload_n 0, 1) := by decide +kernel
theorem dq_MO_begin_265 : decode (fx_cc mq_MO_begin) 265 = .ok (.getfield 7, 3) := by decide +kernel
theorem dq_MO_begin_268 : decode (fx_cc mq_MO_begin) 268 = .ok (.iload_n 1, 1) := by decide +kernel
theorem dq_MO_begin_269 : decode (fx_cc mq_MO_begin) 269 = .ok (.baload, 1) := by decide +kernel
theorem dq_MO_begin_270 : decode (fx_cc mq_MO_begin) 270 = .ok (.ifCond .eq 42, 3) := by decide +kernel
theorem dq_MO_begin_273 : decode (fx_cc mq_MO_begin) 273 = .ok (.aload_n 0, 1) := by decide +kernel
theorem dq_MO_begin_274 : decode (fx_cc mq_MO_begin) 274 = .ok (.getfield 26, 3) := by decide +kernel
theorem dq_MO_begin_277 : decode (fx_cc mq_MO_begin) 277 = .ok (.iload_n 1, 1) := by decide +kernel
theorem dq_MO_begin_278 : decode (fx_cc mq_MO_begin) 278 = .ok (.baload, 1) := by decide +kernel
theorem dq_MO_begin_279 : decode (fx_cc mq_MO_begin) 279 = .ok (.ifCond .ne 6, 3) := by decide +kernel
theorem dq_MO_begin_282 : decode (fx_cc mq_MO_begin) 282 = .ok (.goto 30, 3) := by decide +kernel
theorem dq_MO_begin_285 : decode (fx_cc mq_MO_begin) 285 = .ok (.aload_n 0, 1) := by decide +kernel
theorem dq_MO_begin_286 : decode (fx_cc mq_MO_begin) 286 = .ok (.getfield 7, 3) := by decide +kernel
theorem dq_MO_begin_289 : decode (fx_cc mq_MO_begin) 289 = .ok (.iload_n 1, 1) := by decide +kernel
theorem dq_MO_begin_290 : decode (fx_cc mq_MO_begin) 290 = .ok (.iconst 0, 1) := by decide +kernel
theorem dq_MO_begin_291 : decode (fx_cc mq_MO_begin) 291 = .ok (.bastore, 1) := by decide +kernel
theorem dq_MO_begin_292 : decode (fx_cc mq_MO_begin) 292 = .ok (.aload_n 0, 1) := by decide +kernel
theorem dq_MO_begin_293 : decode (fx_cc mq_MO_begin) 293 = .ok (.getfield 29, 3) := by decide +kernel
theorem dq_MO_begin_296 : decode (fx_cc mq_MO_begin) 296 = .ok (.bipush 10, 2) := by decide +kernel
theorem dq_MO_begin_298 : decode (fx_cc mq_MO_begin) 298 = .ok (.iload_n 1, 1) := by decide +kernel
theorem dq_MO_begin_299 : decode (fx_cc mq_MO_begin) 299 = .ok (.iadd, 1) := by decide +kernel
theorem dq_MO_begin_300 : decode (fx_cc mq_MO_begin) 300 = .ok (.iconst 0, 1) := by decide +kernel
theorem dq_MO_begin_301 : decode (fx_cc mq_MO_begin) 301 = .ok (.bastore, 1) := by decide +kernel
theorem dq_MO_begin_302 : decode (fx_cc mq_MO_begin) 302 = .ok (.aload_n 0, 1) := by decide +kernel
theorem dq_MO_begin_303 : decode (fx_cc mq_MO_begin) 303 = .ok (.getfield 29, 3) := by decide +kernel
theorem dq_MO_begin_306 : decode (fx_cc mq_MO_begin) 306 = .ok (.bipush 20, 2) := by decide +kernel
theorem dq_MO_begin_308 : decode (fx_cc mq_MO_begin) 308 = .ok (.iload_n 1, 1) := by decide +kernel
theorem dq_MO_begin_309 : decode (fx_cc mq_MO_begin) 309 = .ok (.iadd, 1) := by decide +kernel
theorem dq_MO_begin_310 : decode (fx_cc mq_MO_begin) 310 = .ok (.iconst 0, 1) := by decide +kernel
theorem dq_MO_begin_311 : decode (fx_cc mq_MO_begin) 311 = .ok (.bastore, 1) := by decide +kernel
theorem dq_MO_begin_312 : decode (fx_cc mq_MO_begin) 312 = .ok (.iinc 1 1, 3) := by decide +kernel
theorem dq_MO_begin_315 : decode (fx_cc mq_MO_begin) 315 = .ok (.goto (-57), 3) := by decide +kernel
theorem dq_MO_begin_318 : decode (fx_cc mq_MO_begin) 318 = .ok (.iconst 0, 1) := by decide +kernel
theorem dq_MO_begin_319 : decode (fx_cc mq_MO_begin) 319 = .ok (.istore_n 1, 1) := by decide +kernel
theorem dq_MO_begin_320 : decode (fx_cc mq_MO_begin) 320 = .ok (.iload_n 1, 1) := by decide +kernel
theorem dq_MO_begin_321 : decode (fx_cc mq_MO_begin) 321 = .ok (.iconst 4, 1) := by decide +kernel
theorem dq_MO_begin_322 : decode (fx_cc mq_MO_begin) 322 = .ok (.if_icmp .ge 16, 3) := by decide +kernel
theorem dq_MO_begin_325 : decode (fx_cc mq_MO_begin) 325 = .ok (.aload_n 0, 1) := by decide +kernel
theorem dq_MO_begin_326 : decode (fx_cc mq_MO_begin) 326 = .ok (.getfield 65, 3) := by decide +kernel
theorem dq_MO_begin_329 : decode (fx_cc mq_MO_begin) 329 = .ok (.iload_n 1, 1) := by decide +kernel
theorem dq_MO_begin_330 : decode (fx_cc mq_MO_begin) 330 = .ok (.iconst 0, 1) := by decide +kernel
theorem dq_MO_begin_331 : decode (fx_cc mq_MO_begin) 331 = .ok (.bastore, 1) := by decide +kernel
theorem dq_MO_begin_332 : decode (fx_cc mq_MO_begin) 332 = .ok (.iinc 1 1, 3) := by decide +kernel
theorem dq_MO_begin_335 : decode (fx_cc mq_MO_begin) 335 = .ok (.goto (-15), 3) := by decide +kernel
theorem dq_MO_begin_338 : decode (fx_cc mq_MO_begin) 338 = .ok (.aload_n 0, 1) := by decide +kernel
theorem dq_MO_begin_339 : decode (fx_cc mq_MO_begin) 339 = .ok (.aload_n 0, 1) := by decide +kernel
theorem dq_MO_begin_340 : decode (fx_cc mq_MO_begin) 340 = .ok (.getfield 164, 3) := by decide +kernel
theorem dq_MO_begin_343 : decode (fx_cc mq_MO_begin) 343 = .ok (.putfield 167, 3) := by decide +kernel
theorem dq_MO_begin_346 : decode (fx_cc mq_MO_begin) 346 = .ok (.aload_n 0, 1) := by decide +kernel
theorem dq_MO_begin_347 : decode (fx_cc mq_MO_begin) 347 = .ok (.iconst 1, 1) := by decide +kernel
theorem dq_MO_begin_348 : decode (fx_cc mq_MO_begin) 348 = .ok (.putfield 216, 3) := by decide +kernel
theorem dq_MO_begin_351 : decode (fx_cc mq_MO_begin) 351 = .ok (.aload_n 0, 1) := by decide +kernel
theorem dq_MO_begin_352 : decode (fx_cc mq_MO_begin) 352 = .ok (.iconst 0, 1) := by decide +kernel
theorem dq_MO_begin_353 : decode (fx_cc mq_MO_begin) 353 = .ok (.putfield 219, 3) := by decide +kernel
theorem dq_MO_begin_356 : decode (fx_cc mq_MO_begin) 356 = .ok (.aload_n 0, 1) := by decide +kernel
theorem dq_MO_begin_357 : decode (fx_cc mq_MO_begin) 357 = .ok (.iconst 0, 1) := by decide +kernel
theorem dq_MO_begin_358 : decode (fx_cc mq_MO_begin) 358 = .ok (.putfield 222, 3) := by decide +kernel
theorem dq_MO_begin_361 : decode (fx_cc mq_MO_begin) 361 = .ok (.return_, 1) := by decide +kernel
theorem dq_MO_show_0 : decode (fx_cc mq_MO_show) 0 = .ok (.aload_n 0, 1) := by decide +kernel
theorem dq_MO_show_1 : decode (fx_cc mq_MO_show) 1 = .ok (.getfield 29, 3) := by decide +kernel
theorem dq_MO_show_4 : decode (fx_cc mq_MO_show) 4 = .ok (.iload_n 1, 1) := by decide +kernel
theorem dq_MO_show_5 : decode (fx_cc mq_MO_show) 5 = .ok (.baload, 1) := by decide +kernel
theorem dq_MO_show_6 : decode (fx_cc mq_MO_show) 6 = .ok (.ifCond .eq 12, 3) := by decide +kernel
theorem dq_MO_show_9 : decode (fx_cc mq_MO_show) 9 = .ok (.aload_n 0, 1) := by decide +kernel
theorem dq_MO_show_10 : decode (fx_cc mq_MO_show) 10 = .ok (.getfield 44, 3) := by decide +kernel
theorem dq_MO_show_13 : decode (fx_cc mq_MO_show) 13 = .ok (.iload_n 1, 1) := by decide +kernel
theorem dq_MO_show_14 : decode (fx_cc mq_MO_show) 14 = .ok (.baload, 1) := by decide +kernel
theorem dq_MO_show_15 : decode (fx_cc mq_MO_show) 15 = .ok (.ifCond .ne 14, 3) := by decide +kernel
theorem dq_MO_show_18 : decode (fx_cc mq_MO_show) 18 = .ok (.aload_n 0, 1) := by decide +kernel
theorem dq_MO_show_19 : decode (fx_cc mq_MO_show) 19 = .ok (.iconst 0, 1) := by decide +kernel
theorem dq_MO_show_20 : decode (fx_cc mq_MO_show) 20 = .ok (.putfield 144, 3) := by decide +kernel
theorem dq_MO_show_23 : decode (fx_cc mq_MO_show) 23 = .ok (.aload_n 0, 1) := by decide +kernel
theorem dq_MO_show_24 : decode (fx_cc mq_MO_show) 24 = .ok (.iconst 0, 1) := by decide +kernel
theorem dq_MO_show_25 : decode (fx_cc mq_MO_show) 25 = .ok (.putfield 150, 3) := by decide +kernel
theorem dq_MO_show_28 : decode (fx_cc mq_MO_show) 28 = .ok (.return_, 1) := by decide +kernel
theorem dq_MO_show_29 : decode (fx_cc mq_MO_show) 29 = .ok (.aload_n 0, 1) := by decide +kernel
theorem dq_MO_show_30 : decode (fx_cc mq_MO_show) 30 = .ok (.aload_n 0, 1) := by decide +kernel
theorem dq_MO_show_31 : decode (fx_cc mq_MO_show) 31 = .ok (.getfield 32, 3) := by decide +kernel
theorem dq_MO_show_34 : decode (fx_cc mq_MO_show) 34 = .ok (.iload_n 1, 1) := by decide +kernel
theorem dq_MO_show_35 : decode (fx_cc mq_MO_show) 35 = .ok (.iaload, 1) := by decide +kernel
theorem dq_MO_show_36 : decode (fx_cc mq_MO_show) 36 = .ok (.aload_n 0, 1) := by decide +kernel
theorem dq_MO_show_37 : decode (fx_cc mq_MO_show) 37 = .ok (.getfield 47, 3) := by decide +kernel
theorem dq_MO_show_40 : decode (fx_cc mq_MO_show) 40 = .ok (.iload_n 1, 1) := by decide +kernel
theorem dq_MO_show_41 : decode (fx_cc mq_MO_show) 41 = .ok (.iaload, 1) := by decide +kernel
theorem dq_MO_show_42 : decode (fx_cc mq_MO_show) 42 = .ok (.iadd, 1) := by decide +kernel
theorem dq_MO_show_43 : decode (fx_cc mq_MO_show) 43 = .ok (.putfield 141, 3) := by decide +kernel
theorem dq_MO_show_46 : decode (fx_cc mq_MO_show) 46 = .ok (.aload_n 0, 1) := by decide +kernel
theorem dq_MO_show_47 : decode (fx_cc mq_MO_show) 47 = .ok (.aload_n 0, 1) := by decide +kernel
theorem dq_MO_show_48 : decode (fx_cc mq_MO_show) 48 = .ok (.getfield 35, 3) := by decide +kernel
theorem dq_MO_show_51 : decode (fx_cc mq_MO_show) 51 = .ok (.iload_n 1, 1) := by decide +kernel
theorem dq_MO_show_52 : decode (fx_cc mq_MO_show) 52 = .ok (.iaload, 1) := by decide +kernel
theorem dq_MO_show_53 : decode (fx_cc mq_MO_show) 53 = .ok (.aload_n 0, 1) := by decide +kernel
theorem dq_MO_show_54 : decode (fx_cc mq_MO_show) 54 = .ok (.getfield 50, 3) := by decide +kernel
theorem dq_MO_show_57 : decode (fx_cc mq_MO_show) 57 = .ok (.iload_n 1, 1) := by decide +kernel
theorem dq_MO_show_58 : decode (fx_cc mq_MO_show) 58 = .ok (.iaload, 1) := by decide +kernel
theorem dq_MO_show_59 : decode (fx_cc mq_MO_show) 59 = .ok (.iadd, 1) := by decide +kernel
theorem dq_MO_show_60 : decode (fx_cc mq_MO_show) 60 = .ok (.putfield 147, 3) := by decide +kernel
theorem dq_MO_show_63 : decode (fx_cc mq_MO_show) 63 = .ok (.aload_n 0, 1) := by decide +kernel
theorem dq_MO_show_64 : decode (fx_cc mq_MO_show) 64 = .ok (.aload_n 0, 1) := by decide +kernel
theorem dq_MO_show_65 : decode (fx_cc mq_MO_show) 65 = .ok (.getfield 53, 3) := by decide +kernel
theorem dq_MO_show_68 : decode (fx_cc mq_MO_show) 68 = .ok (.iload_n 1, 1) := by decide +kernel
theorem dq_MO_show_69 : decode (fx_cc mq_MO_show) 69 = .ok (.iaload, 1) := by decide +kernel
theorem dq_MO_show_70 : decode (fx_cc mq_MO_show) 70 = .ok (.putfield 144, 3) := by decide +kernel
theorem dq_MO_show_73 : decode (fx_cc mq_MO_show) 73 = .ok (.aload_n 0, 1) := by decide +kernel
theorem dq_MO_show_74 : decode (fx_cc mq_MO_show) 74 = .ok (.aload_n 0, 1) := by decide +kernel
theorem dq_MO_show_75 : decode (fx_cc mq_MO_show) 75 = .ok (.getfield 56, 3) := by decide +kernel
theorem dq_MO_show_78 : decode (fx_cc mq_MO_show) 78 = .ok (.iload_n 1, 1) := by decide +kernel
theorem dq_MO_show_79 : decode (fx_cc mq_MO_show) 79 = .ok (.iaload, 1) := by decide +kernel
theorem dq_MO_show_80 : decode (fx_cc mq_MO_show) 80 = .ok (.putfield 150, 3) := by decide +kernel
theorem dq_MO_show_83 : decode (fx_cc mq_MO_show) 83 = .ok (.aload_n 0, 1) := by decide +kernel
theorem dq_MO_show_84 : decode (fx_cc mq_MO_show) 84 = .ok (.iconst 0, 1) := by decide +kernel
theorem dq_MO_show_85 : decode (fx_cc mq_MO_show) 85 = .ok (.iconst 0, 1) := by decide +kernel
theorem dq_MO_show_86 : decode (fx_cc mq_MO_show) 86 = .ok (.bipush 20, 2) := by decide +kernel
theorem dq_MO_show_88 : decode (fx_cc mq_MO_show) 88 = .ok (.bipush 10, 2) := by decide +kernel
theorem dq_MO_show_90 : decode (fx_cc mq_MO_show) 90 = .ok (.invokevirtual 174, 3) := by decide +kernel
theorem dq_MO_show_93 : decode (fx_cc mq_MO_show) 93 = .ok (.return_, 1) := by decide +kernel
theorem dq_MO_cut_0 : decode (fx_cc mq_MO_cut) 0 = .ok (.aload_n 0, 1) := by decide +kernel
theorem dq_MO_cut_1 : decode (fx_cc mq_MO_cut) 1 = .ok (.getfield 141, 3) := by decide +kernel
theorem dq_MO_cut_4 : decode (fx_cc mq_MO_cut) 4 = .ok (.aload_n 0, 1) := by decide +kernel
theorem dq_MO_cut_5 : decode (fx_cc mq_MO_cut) 5 = .ok (.getfield 144, 3) := by decide +kernel
theorem dq_MO_cut_8 : decode (fx_cc mq_MO_cut) 8 = .ok (.iadd, 1) := by decide +kernel
theorem dq_MO_cut_9 : decode (fx_cc mq_MO_cut) 9 = .ok (.iload_n 3, 1) := by decide +kernel
theorem dq_MO_cut_10 : decode (fx_cc mq_MO_cut) 10 = .ok (.if_icmp .ge 15, 3) := by decide +kernel
theorem dq_MO_cut_13 : decode (fx_cc mq_MO_cut) 13 = .ok (.aload_n 0, 1) := by decide +kernel
theorem dq_MO_cut_14 : decode (fx_cc mq_MO_cut) 14 = .ok (.getfield 141, 3) := by decide +kernel
theorem dq_MO_cut_17 : decode (fx_cc mq_MO_cut) 17 = .ok (.aload_n 0, 1) := by decide +kernel
theorem dq_MO_cut_18 : decode (fx_cc mq_MO_cut) 18 = .ok (.getfield 144, 3) := by decide +kernel
theorem dq_MO_cut_21 : decode (fx_cc mq_MO_cut) 21 = .ok (.iadd, 1) := by decide +kernel
theorem dq_MO_cut_22 : decode (fx_cc mq_MO_cut) 22 = .ok (.goto 4, 3) := by decide +kernel
theorem dq_MO_cut_25 : decode (fx_cc mq_MO_cut) 25 = .ok (.iload_n 3, 1) := by decide +kernel
theorem dq_MO_cut_26 : decode (fx_cc mq_MO_cut) 26 = .ok (.istore 5, 2) := by decide +kernel
theorem dq_MO_cut_28 : decode (fx_cc mq_MO_cut) 28 = .ok (.aload_n 0, 1) := by decide +kernel
theorem dq_MO_cut_29 : decode (fx_cc mq_MO_cut) 29 = .ok (.getfield 147, 3) := by decide +kernel
theorem dq_MO_cut_32 : decode (fx_cc mq_MO_cut) 32 = .ok (.aload_n 0, 1) := by decide +kernel
theorem dq_MO_cut_33 : decode (fx_cc mq_MO_cut) 33 = .ok (.getfield 150, 3) := by decide +kernel
theorem dq_MO_cut_36 : decode (fx_cc mq_MO_cut) 36 = .ok (.iadd, 1) := by decide +kernel
theorem dq_MO_cut_37 : decode (fx_cc mq_MO_cut) 37 = .ok (.iload 4, 2) := by decide +kernel
theorem dq_MO_cut_39 : decode (fx_cc mq_MO_cut) 39 = .ok (.if_icmp .ge 15, 3) := by decide +kernel
theorem dq_MO_cut_42 : decode (fx_cc mq_MO_cut) 42 = .ok (.aload_n 0, 1) := by decide +kernel
theorem dq_MO_cut_43 : decode (fx_cc mq_MO_cut) 43 = .ok (.getfield 147, 3) := by decide +kernel
theorem dq_MO_cut_46 : decode (fx_cc mq_MO_cut) 46 = .ok (.aload_n 0, 1) := by decide +kernel
theorem dq_MO_cut_47 : decode (fx_cc mq_MO_cut) 47 = .ok (.getfield 150, 3) := by decide +kernel
theorem dq_MO_cut_50 : decode (fx_cc mq_MO_cut) 50 = .ok (.iadd, 1) := by decide +kernel
theorem dq_MO_cut_51 : decode (fx_cc mq_MO_cut) 51 = .ok (.goto 5, 3) := by decide +kernel
theorem dq_MO_cut_54 : decode (fx_cc mq_MO_cut) 54 = .ok (.iload 4, 2) := by decide +kernel
theorem dq_MO_cut_56 : decode (fx_cc mq_MO_cut) 56 = .ok (.istore 6, 2) := by decide +kernel
theorem dq_MO_cut_58 : decode (fx_cc mq_MO_cut) 58 = .ok (.aload_n 0, 1) := by decide +kernel
theorem dq_MO_cut_59 : decode (fx_cc mq_MO_cut) 59 = .ok (.aload_n 0, 1) := by decide +kernel
theorem dq_MO_cut_60 : decode (fx_cc mq_MO_cut) 60 = .ok (.getfield 141, 3) := by decide +kernel
theorem dq_MO_cut_63 : decode (fx_cc mq_MO_cut) 63 = .ok (.iload_n 1, 1) := by decide +kernel
theorem dq_MO_cut_64 : decode (fx_cc mq_MO_cut) 64 = .ok (.if_icmp .le 10, 3) := by decide +kernel
theorem dq_MO_cut_67 : decode (fx_cc mq_MO_cut) 67 = .ok (.aload_n 0, 1) := by decide +kernel
theorem dq_MO_cut_68 : decode (fx_cc mq_MO_cut) 68 = .ok (.getfield 141, 3) := by decide +kernel
theorem dq_MO_cut_71 : decode (fx_cc mq_MO_cut) 71 = .ok (.goto 4, 3) := by decide +kernel
theorem dq_MO_cut_74 : decode (fx_cc mq_MO_cut) 74 = .ok (.iload_n 1, 1) := by decide +kernel
theorem dq_MO_cut_75 : decode (fx_cc mq_MO_cut) 75 = .ok (.putfield 141, 3) := by decide +kernel
theorem dq_MO_cut_78 : decode (fx_cc mq_MO_cut) 78 = .ok (.aload_n 0, 1) := by decide +kernel
theorem dq_MO_cut_79 : decode (fx_cc mq_MO_cut) 79 = .ok (.aload_n 0, 1) := by decide +kernel
theorem dq_MO_cut_80 : decode (fx_cc mq_MO_cut) 80 = .ok (.getfield 147, 3) := by decide +kernel
theorem dq_MO_cut_83 : decode (fx_cc mq_MO_cut) 83 = .ok (.iload_n 2, 1) := by decide +kernel
theorem dq_MO_cut_84 : decode (fx_cc mq_MO_cut) 84 = .ok (.if_icmp .le 10, 3) := by decide +kernel
theorem dq_MO_cut_87 : decode (fx_cc mq_MO_cut) 87 = .ok (.aload_n 0, 1) := by decide +kernel
theorem dq_MO_cut_88 : decode (fx_cc mq_MO_cut) 88 = .ok (.getfield 147, 3) := by decide +kernel
theorem dq_MO_cut_91 : decode (fx_cc mq_MO_cut) 91 = .ok (.goto 4, 3) := by decide +kernel
theorem dq_MO_cut_94 : decode (fx_cc mq_MO_cut) 94 = .ok (.iload_n 2, 1) := by decide +kernel
theorem dq_MO_cut_95 : decode (fx_cc mq_MO_cut) 95 = .ok (.putfield 147, 3) := by decide +kernel
theorem dq_MO_cut_98 : decode (fx_cc mq_MO_cut) 98 = .ok (.aload_n 0, 1) := by decide +kernel
theorem dq_MO_cut_99 : decode (fx_cc mq_MO_cut) 99 = .ok (.iload 5, 2) := by decide +kernel
theorem dq_MO_cut_101 : decode (fx_cc mq_MO_cut) 101 = .ok (.aload_n 0, 1) := by decide +kernel
theorem dq_MO_cut_102 : decode (fx_cc mq_MO_cut) 102 = .ok (.getfield 141, 3) := by decide +kernel
theorem dq_MO_cut_105 : decode (fx_cc mq_MO_cut) 105 = .ok (.isub, 1) := by decide +kernel
theorem dq_MO_cut_106 : decode (fx_cc mq_MO_cut) 106 = .ok (.putfield 144, 3) := by decide +kernel
theorem dq_MO_cut_109 : decode (fx_cc mq_MO_cut) 109 = .ok (.aload_n 0, 1) := by decide +kernel
theorem dq_MO_cut_110 : decode (fx_cc mq_MO_cut) 110 = .ok (.iload 6, 2) := by decide +kernel
theorem dq_MO_cut_112 : decode (fx_cc mq_MO_cut) 112 = .ok (.aload_n 0, 1) := by decide +kernel
theorem dq_MO_cut_113 : decode (fx_cc mq_MO_cut) 113 = .ok (.getfield 147, 3) := by decide +kernel
theorem dq_MO_cut_116 : decode (fx_cc mq_MO_cut) 116 = .ok (.isub, 1) := by decide +kernel
theorem dq_MO_cut_117 : decode (fx_cc mq_MO_cut) 117 = .ok (.putfield 150, 3) := by decide +kernel
theorem dq_MO_cut_120 : decode (fx_cc mq_MO_cut) 120 = .ok (.aload_n 0, 1) := by decide +kernel
theorem dq_MO_cut_121 : decode (fx_cc mq_MO_cut) 121 = .ok (.getfield 144, 3) := by decide +kernel
theorem dq_MO_cut_124 : decode (fx_cc mq_MO_cut) 124 = .ok (.ifCond .le 11, 3) := by decide +kernel
theorem dq_MO_cut_127 : decode (fx_cc mq_MO_cut) 127 = .ok (.aload_n 0, 1) := by decide +kernel
theorem dq_MO_cut_128 : decode (fx_cc mq_MO_cut) 128 = .ok (.getfield 150, 3) := by decide +kernel
theorem dq_MO_cut_131 : decode (fx_cc mq_MO_cut) 131 = .ok (.ifCond .le 4, 3) := by decide +kernel
theorem dq_MO_cut_134 : decode (fx_cc mq_MO_cut) 134 = .ok (.return_, 1) := by decide +kernel
theorem dq_MO_cut_135 : decode (fx_cc mq_MO_cut) 135 = .ok (.aload_n 0, 1) := by decide +kernel
theorem dq_MO_cut_136 : decode (fx_cc mq_MO_cut) 136 = .ok (.iconst 0, 1) := by decide +kernel
theorem dq_MO_cut_137 : decode (fx_cc mq_MO_cut) 137 = .ok (.putfield 144, 3) := by decide +kernel
theorem dq_MO_cut_140 : decode (fx_cc mq_MO_cut) 140 = .ok (.aload_n 0, 1) := by decide +kernel
theorem dq_MO_cut_141 : decode (fx_cc mq_MO_cut) 141 = .ok (.iconst 0, 1) := by decide +kernel
theorem dq_MO_cut_142 : decode (fx_cc mq_MO_cut) 142 = .ok (.putfield 150, 3) := by decide +kernel
theorem dq_MO_cut_145 : decode (fx_cc mq_MO_cut) 145 = .ok (.return_, 1) := by decide +kernel
theorem dq_MO_isPlane_0 : decode (fx_cc mq_MO_isPlane) 0 = .ok (.aload_n 0, 1) := by decide +kernel
theorem dq_MO_isPlane_1 : decode (fx_cc mq_MO_isPlane) 1 = .ok (.getfield 90, 3) := by decide +kernel
theorem dq_MO_isPlane_4 : decode (fx_cc mq_MO_isPlane) 4 = .ok (.iconst 0, 1) := by decide +kernel
theorem dq_MO_isPlane_5 : decode (fx_cc mq_MO_isPlane) 5 = .ok (.iaload, 1) := by decide +kernel
theorem dq_MO_isPlane_6 : decode (fx_cc mq_MO_isPlane) 6 = .ok (.iload_n 1, 1) := by decide +kernel
theorem dq_MO_isPlane_7 : decode (fx_cc mq_MO_isPlane) 7 = .ok (.if_icmp .eq 13, 3) := by decide +kernel
theorem dq_MO_isPlane_10 : decode (fx_cc mq_MO_isPlane) 10 = .ok (.aload_n 0, 1) := by decide +kernel
theorem dq_MO_isPlane_11 : decode (fx_cc mq_MO_isPlane) 11 = .ok (.getfield 90, 3) := by decide +kernel
theorem dq_MO_isPlane_14 : decode (fx_cc mq_MO_isPlane) 14 = .ok (.iconst 1, 1) := by decide +kernel
theorem dq_MO_isPlane_15 : decode (fx_cc mq_MO_isPlane) 15 = .ok (.iaload, 1) := by decide +kernel
theorem dq_MO_isPlane_16 : decode (fx_cc mq_MO_isPlane) 16 = .ok (.iload_n 1, 1) := by decide +kernel
theorem dq_MO_isPlane_17 : decode (fx_cc mq_MO_isPlane) 17 = .ok (.if_icmp .ne 7, 3) := by decide +kernel
theorem dq_MO_isPlane_20 : decode (fx_cc mq_MO_isPlane) 20 = .ok (.iconst 1, 1) := by decide +kernel
theorem dq_MO_isPlane_21 : decode (fx_cc mq_MO_isPlane) 21 = .ok (.goto 4, 3) := by decide +kernel
theorem dq_MO_isPlane_24 : decode (fx_cc mq_MO_isPlane) 24 = .ok (.iconst 0, 1) := by decide +kernel
theorem dq_MO_isPlane_25 : decode (fx_cc mq_MO_isPlane) 25 = .ok (.ireturn, 1) := by decide +kernel
theorem dq_MO_choosePlanes_0 : decode (fx_cc mq_MO_choosePlanes) 0 = .ok (.aload_n 0, 1) := by decide +kernel
theorem dq_MO_choosePlanes_1 : decode (fx_cc mq_MO_choosePlanes) 1 = .ok (.getfield 90, 3) := by decide +kernel
theorem dq_MO_choosePlanes_4 : decode (fx_cc mq_MO_choosePlanes) 4 = .ok (.iconst 0, 1) := by decide +kernel
theorem dq_MO_choosePlanes_5 : decode (fx_cc mq_MO_choosePlanes) 5 = .ok (.iconst (-1), 1) := by decide +kernel
theorem dq_MO_choosePlanes_6 : decode (fx_cc mq_MO_choosePlanes) 6 = .ok (.iastore, 1) := by decide +kernel
theorem dq_MO_choosePlanes_7 : decode (fx_cc mq_MO_choosePlanes) 7 = .ok (.aload_n 0, 1) := by decide +kernel
theorem dq_MO_choosePlanes_8 : decode (fx_cc mq_MO_choosePlanes) 8 = .ok (.getfield 90, 3) := by decide +kernel
theorem dq_MO_choosePlanes_11 : decode (fx_cc mq_MO_choosePlanes) 11 = .ok (.iconst 1, 1) := by decide +kernel
theorem dq_MO_choosePlanes_12 : decode (fx_cc mq_MO_choosePlanes) 12 = .ok (.iconst (-1), 1) := by decide +kernel
theorem dq_MO_choosePlanes_13 : decode (fx_cc mq_MO_choosePlanes) 13 = .ok (.iastore, 1) := by decide +kernel
theorem dq_MO_choosePlanes_14 : decode (fx_cc mq_MO_choosePlanes) 14 = .ok (.iconst 0, 1) := by decide +kernel
theorem dq_MO_choosePlanes_15 : decode (fx_cc mq_MO_choosePlanes) 15 = .ok (.istore_n 1, 1) := by decide +kernel
theorem dq_MO_choosePlanes_16 : decode (fx_cc mq_MO_choosePlanes) 16 = .ok (.bipush 9, 2) := by decide +kernel
theorem dq_MO_choosePlanes_18 : decode (fx_cc mq_MO_choosePlanes) 18 = .ok (.istore_n 2, 1) := by decide +kernel
theorem dq_MO_choosePlanes_19 : decode (fx_cc mq_MO_choosePlanes) 19 = .ok (.iload_n 2, 1) := by decide +kernel
theorem dq_MO_choosePlanes_20 : decode (fx_cc mq_MO_choosePlanes) 20 = .ok (.ifCond .lt 241, 3) := by decide +kernel
theorem dq_MO_choosePlanes_23 : decode (fx_cc mq_MO_choosePlanes) 23 = .ok (.aload_n 0, 1) := by decide +kernel
theorem dq_MO_choosePlanes_24 : decode (fx_cc mq_MO_choosePlanes) 24 = .ok (.bipush 20, 2) := by decide +kernel
theorem dq_MO_choosePlanes_26 : decode (fx_cc mq_MO_choosePlanes) 26 = .ok (.iload_n 2, 1) := by decide +kernel
theorem dq_MO_choosePlanes_27 : decode (fx_cc mq_MO_choosePlanes) 27 = .ok (.invokevirtual 201, 3) := by decide +kernel
theorem dq_MO_choosePlanes_30 : decode (fx_cc mq_MO_choosePlanes) 30 = .ok (.istore_n 3, 1) := by decide +kernel
theorem dq_MO_choosePlanes_31 : decode (fx_cc mq_MO_choosePlanes) 31 = .ok (.iload_n 3, 1) := by decide +kernel
theorem dq_MO_choosePlanes_32 : decode (fx_cc mq_MO_choosePlanes) 32 = .ok (.ifCond .lt 223, 3) := by decide +kernel
theorem dq_MO_choosePlanes_35 : decode (fx_cc mq_MO_choosePlanes) 35 = .ok (.iload_n 1, 1) := by decide +kernel
theorem dq_MO_choosePlanes_36 : decode (fx_cc mq_MO_choosePlanes) 36 = .ok (.iconst 2, 1) := by decide +kernel
theorem dq_MO_choosePlanes_37 : decode (fx_cc mq_MO_choosePlanes) 37 = .ok (.if_icmp .eq 218, 3) := by decide +kernel
theorem dq_MO_choosePlanes_40 : decode (fx_cc mq_MO_choosePlanes) 40 = .ok (.aload_n 0, 1) := by decide +kernel
theorem dq_MO_choosePlanes_41 : decode (fx_cc mq_MO_choosePlanes) 41 = .ok (.getfield 41, 3) := by decide +kernel
theorem dq_MO_choosePlanes_44 : decode (fx_cc mq_MO_choosePlanes) 44 = .ok (.iload_n 3, 1) := by decide +kernel
theorem dq_MO_choosePlanes_45 : decode (fx_cc mq_MO_choosePlanes) 45 = .ok (.iaload, 1) := by decide +kernel
theorem dq_MO_choosePlanes_46 : decode (fx_cc mq_MO_choosePlanes) 46 = .ok (.bipush 16, 2) := by decide +kernel
theorem dq_MO_choosePlanes_48 : decode (fx_cc mq_MO_choosePlanes) 48 = .ok (.if_icmp .ge 6, 3) := by decide +kernel
theorem dq_MO_choosePlanes_51 : decode (fx_cc mq_MO_choosePlanes) 51 = .ok (.goto 204, 3) := by decide +kernel
theorem dq_MO_choosePlanes_54 : decode (fx_cc mq_MO_choosePlanes) 54 = .ok (.aload_n 0, 1) := by decide +kernel
theorem dq_MO_choosePlanes_55 : decode (fx_cc mq_MO_choosePlanes) 55 = .ok (.iload_n 3, 1) := by decide +kernel
theorem dq_MO_choosePlanes_56 : decode (fx_cc mq_MO_choosePlanes) 56 = .ok (.invokevirtual 204, 3) := by decide +kernel
theorem dq_MO_choosePlanes_59 : decode (fx_cc mq_MO_choosePlanes) 59 = .ok (.aload_n 0, 1) := by decide +kernel
theorem dq_MO_choosePlanes_60 : decode (fx_cc mq_MO_choosePlanes) 60 = .ok (.getfield 141, 3) := by decide +kernel
theorem dq_MO_choosePlanes_63 : decode (fx_cc mq_MO_choosePlanes) 63 = .ok (.istore 4, 2) := by decide +kernel
theorem dq_MO_choosePlanes_65 : decode (fx_cc mq_MO_choosePlanes) 65 = .ok (.aload_n 0, 1) := by decide +kernel
theorem dq_MO_choosePlanes_66 : decode (fx_cc mq_MO_choosePlanes) 66 = .ok (.getfield 147, 3) := by decide +kernel
theorem dq_MO_choosePlanes_69 : decode (fx_cc mq_MO_choosePlanes) 69 = .ok (.istore 5, 2) := by decide +kernel
theorem dq_MO_choosePlanes_71 : decode (fx_cc mq_MO_choosePlanes) 71 = .ok (.aload_n 0, 1) := by decide +kernel
theorem dq_MO_choosePlanes_72 : decode (fx_cc mq_MO_choosePlanes) 72 = .ok (.getfield 144, 3) := by decide +kernel
theorem dq_MO_choosePlanes_75 : decode (fx_cc mq_MO_choosePlanes) 75 = .ok (.istore 6, 2) := by decide +kernel
theorem dq_MO_choosePlanes_77 : decode (fx_cc mq_MO_choosePlanes) 77 = .ok (.aload_n 0, 1) := by decide +kernel
theorem dq_MO_choosePlanes_78 : decode (fx_cc mq_MO_choosePlanes) 78 = .ok (.getfield 150, 3) := by decide +kernel
theorem dq_MO_choosePlanes_81 : decode (fx_cc mq_MO_choosePlanes) 81 = .ok (.istore 7, 2) := by decide +kernel
theorem dq_MO_choosePlanes_83 : decode (fx_cc mq_MO_choosePlanes) 83 = .ok (.aload_n 0, 1) := by decide +kernel
theorem dq_MO_choosePlanes_84 : decode (fx_cc mq_MO_choosePlanes) 84 = .ok (.getfield 144, 3) := by decide +kernel
theorem dq_MO_choosePlanes_87 : decode (fx_cc mq_MO_choosePlanes) 87 = .ok (.ifCond .le 21, 3) := by decide +kernel
theorem dq_MO_choosePlanes_90 : decode (fx_cc mq_MO_choosePlanes) 90 = .ok (.aload_n 0, 1) := by decide +kernel
theorem dq_MO_choosePlanes_91 : decode (fx_cc mq_MO_choosePlanes) 91 = .ok (.getfield 144, 3) := by decide +kernel
theorem dq_MO_choosePlanes_94 : decode (fx_cc mq_MO_choosePlanes) 94 = .ok (.aload_n 0, 1) := by decide +kernel
theorem dq_MO_choosePlanes_95 : decode (fx_cc mq_MO_choosePlanes) 95 = .ok (.getfield 150, 3) := by decide +kernel
theorem dq_MO_choosePlanes_98 : decode (fx_cc mq_MO_choosePlanes) 98 = .ok (.imul, 1) := by decide +kernel
theorem dq_MO_choosePlanes_99 : decode (fx_cc mq_MO_choosePlanes) 99 = .ok (.bipush 24, 2) := by decide +kernel
theorem dq_MO_choosePlanes_101 : decode (fx_cc mq_MO_choosePlanes) 101 = .ok (.if_icmp .gt 7, 3) := by decide +kernel
theorem dq_MO_choosePlanes_104 : decode (fx_cc mq_MO_choosePlanes) 104 = .ok (.iconst 1, 1) := by decide +kernel
theorem dq_MO_choosePlanes_105 : decode (fx_cc mq_MO_choosePlanes) 105 = .ok (.goto 4, 3) := by decide +kernel
theorem dq_MO_choosePlanes_108 : decode (fx_cc mq_MO_choosePlanes) 108 = .ok (.iconst 0, 1) := by decide +kernel
theorem dq_MO_choosePlanes_109 : decode (fx_cc mq_MO_choosePlanes) 109 = .ok (.istore 8, 2) := by decide +kernel
theorem dq_MO_choosePlanes_111 : decode (fx_cc mq_MO_choosePlanes) 111 = .ok (.bipush 20, 2) := by decide +kernel
theorem dq_MO_choosePlanes_113 : decode (fx_cc mq_MO_choosePlanes) 113 = .ok (.istore 9, 2) := by decide +kernel
theorem dq_MO_choosePlanes_115 : decode (fx_cc mq_MO_choosePlanes) 115 = .ok (.iload 9, 2) := by decide +kernel
theorem dq_MO_choosePlanes_117 : decode (fx_cc mq_MO_choosePlanes) 117 = .ok (.bipush 30, 2) := by decide +kernel
theorem dq_MO_choosePlanes_119 : decode (fx_cc mq_MO_choosePlanes) 119 = .ok (.if_icmp .ge 115, 3) := by decide +kernel
theorem dq_MO_choosePlanes_122 : decode (fx_cc mq_MO_choosePlanes) 122 = .ok (.iload 8, 2) := by decide +kernel
theorem dq_MO_choosePlanes_124 : decode (fx_cc mq_MO_choosePlanes) 124 = .ok (.ifCond .eq 110, 3) := by decide +kernel
theorem dq_MO_choosePlanes_127 : decode (fx_cc mq_MO_choosePlanes) 127 = .ok (.iload 9, 2) := by decide +kernel
theorem dq_MO_choosePlanes_129 : decode (fx_cc mq_MO_choosePlanes) 129 = .ok (.iload_n 3, 1) := by decide +kernel
theorem dq_MO_choosePlanes_130 : decode (fx_cc mq_MO_choosePlanes) 130 = .ok (.if_icmp .eq 98, 3) := by decide +kernel
theorem dq_MO_choosePlanes_133 : decode (fx_cc mq_MO_choosePlanes) 133 = .ok (.aload_n 0, 1) := by decide +kernel
theorem dq_MO_choosePlanes_134 : decode (fx_cc mq_MO_choosePlanes) 134 = .ok (.getfield 29, 3) := by decide +kernel
theorem dq_MO_choosePlanes_137 : decode (fx_cc mq_MO_choosePlanes) 137 = .ok (.iload 9, 2) := by decide +kernel
theorem dq_MO_choosePlanes_139 : decode (fx_cc mq_MO_choosePlanes) 139 = .ok (.baload, 1) := by decide +kernel
theorem dq_MO_choosePlanes_140 : decode (fx_cc mq_MO_choosePlanes) 140 = .ok (.ifCond .eq 88, 3) := by decide +kernel
theorem dq_MO_choosePlanes_143 : decode (fx_cc mq_MO_choosePlanes) 143 = .ok (.aload_n 0, 1) := by decide +kernel
theorem dq_MO_choosePlanes_144 : decode (fx_cc mq_MO_choosePlanes) 144 = .ok (.iload 9, 2) := by decide +kernel
theorem dq_MO_choosePlanes_146 : decode (fx_cc mq_MO_choosePlanes) 146 = .ok (.iload_n 3, 1) := by decide +kernel
theorem dq_MO_choosePlanes_147 : decode (fx_cc mq_MO_choosePlanes) 147 = .ok (.invokevirtual 178, 3) := by decide +kernel
theorem dq_MO_choosePlanes_150 : decode (fx_cc mq_MO_choosePlanes) 150 = .ok (.ifCond .ne 6, 3) := by decide +kernel
theorem dq_MO_choosePlanes_153 : decode (fx_cc mq_MO_choosePlanes) 153 = .ok (.goto 75, 3) := by decide +kernel
theorem dq_MO_choosePlanes_156 : decode (fx_cc mq_MO_choosePlanes) 156 = .ok (.aload_n 0, 1) := by decide +kernel
theorem dq_MO_choosePlanes_157 : decode (fx_cc mq_MO_choosePlanes) 157 = .ok (.iload 9, 2) := by decide +kernel
theorem dq_MO_choosePlanes_159 : decode (fx_cc mq_MO_choosePlanes) 159 = .ok (.invokevirtual 204, 3) := by decide +kernel
theorem dq_MO_choosePlanes_162 : decode (fx_cc mq_MO_choosePlanes) 162 = .ok (.aload_n 0, 1) := by decide +kernel
theorem dq_MO_choosePlanes_163 : decode (fx_cc mq_MO_choosePlanes) 163 = .ok (.getfield 144, 3) := by decide +kernel
theorem dq_MO_choosePlanes_166 : decode (fx_cc mq_MO_choosePlanes) 166 = .ok (.ifCond .eq 55, 3) := by decide +kernel
theorem dq_MO_choosePlanes_169 : decode (fx_cc mq_MO_choosePlanes) 169 = .ok (.aload_n 0, 1) := by decide +kernel
theorem dq_MO_choosePlanes_170 : decode (fx_cc mq_MO_choosePlanes) 170 = .ok (.getfield 141, 3) := by decide +kernel
theorem dq_MO_choosePlanes_173 : decode (fx_cc mq_MO_choosePlanes) 173 = .ok (.iload 4, 2) := by decide +kernel
theorem dq_MO_choosePlanes_175 : decode (fx_cc mq_MO_choosePlanes) 175 = .ok (.iload 6, 2) := by decide +kernel
theorem dq_MO_choosePlanes_177 : decode (fx_cc mq_MO_choosePlanes) 177 = .ok (.iadd, 1) := by decide +kernel
theorem dq_MO_choosePlanes_178 : decode (fx_cc mq_MO_choosePlanes) 178 = .ok (.if_icmp .ge 43, 3) := by decide +kernel
theorem dq_MO_choosePlanes_181 : decode (fx_cc mq_MO_choosePlanes) 181 = .ok (.iload 4, 2) := by decide +kernel
theorem dq_MO_choosePlanes_183 : decode (fx_cc mq_MO_choosePlanes) 183 = .ok (.aload_n 0, 1) := by decide +kernel
theorem dq_MO_choosePlanes_184 : decode (fx_cc mq_MO_choosePlanes) 184 = .ok (.getfield 141, 3) := by decide +kernel
theorem dq_MO_choosePlanes_187 : decode (fx_cc mq_MO_choosePlanes) 187 = .ok (.aload_n 0, 1) := by decide +kernel
theorem dq_MO_choosePlanes_188 : decode (fx_cc mq_MO_choosePlanes) 188 = .ok (.getfield 144, 3) := by decide +kernel
theorem dq_MO_choosePlanes_191 : decode (fx_cc mq_MO_choosePlanes) 191 = .ok (.iadd, 1) := by decide +kernel
theorem dq_MO_choosePlanes_192 : decode (fx_cc mq_MO_choosePlanes) 192 = .ok (.if_icmp .ge 29, 3) := by decide +kernel
theorem dq_MO_choosePlanes_195 : decode (fx_cc mq_MO_choosePlanes) 195 = .ok (.aload_n 0, 1) := by decide +kernel
theorem dq_MO_choosePlanes_196 : decode (fx_cc mq_MO_choosePlanes) 196 = .ok (.getfield 147, 3) := by decide +kernel
theorem dq_MO_choosePlanes_199 : decode (fx_cc mq_MO_choosePlanes) 199 = .ok (.iload 5, 2) := by decide +kernel
theorem dq_MO_choosePlanes_201 : decode (fx_cc mq_MO_choosePlanes) 201 = .ok (.iload 7, 2) := by decide +kernel
theorem dq_MO_choosePlanes_203 : decode (fx_cc mq_MO_choosePlanes) 203 = .ok (.iadd, 1) := by decide +kernel
theorem dq_MO_choosePlanes_204 : decode (fx_cc mq_MO_choosePlanes) 204 = .ok (.if_icmp .ge 17, 3) := by decide +kernel
theorem dq_MO_choosePlanes_207 : decode (fx_cc mq_MO_choosePlanes) 207 = .ok (.iload 5, 2) := by decide +kernel
theorem dq_MO_choosePlanes_209 : decode (fx_cc mq_MO_choosePlanes) 209 = .ok (.aload_n 0, 1) := by decide +kernel
theorem dq_MO_choosePlanes_210 : decode (fx_cc mq_MO_choosePlanes) 210 = .ok (.getfield 147, 3) := by decide +kernel
theorem dq_MO_choosePlanes_213 : decode (fx_cc mq_MO_choosePlanes) 213 = .ok (.aload_n 0, 1) := by decide +kernel
theorem dq_MO_choosePlanes_214 : decode (fx_cc mq_MO_choosePlanes) 214 = .ok (.getfield 150, 3) := by decide +kernel
theorem dq_MO_choosePlanes_217 : decode (fx_cc mq_MO_choosePlanes) 217 = .ok (.iadd, 1) := by decide +kernel
theorem dq_MO_choosePlanes_218 : decode (fx_cc mq_MO_choosePlanes) 218 = .ok (.if_icmp .lt 7, 3) := by decide +kernel
theorem dq_MO_choosePlanes_221 : decode (fx_cc mq_MO_choosePlanes) 221 = .ok (.iconst 1, 1) := by decide +kernel
theorem dq_MO_choosePlanes_222 : decode (fx_cc mq_MO_choosePlanes) 222 = .ok (.goto 4, 3) := by decide +kernel
theorem dq_MO_choosePlanes_225 : decode (fx_cc mq_MO_choosePlanes) 225 = .ok (.iconst 0, 1) := by decide +kernel
theorem dq_MO_choosePlanes_226 : decode (fx_cc mq_MO_choosePlanes) 226 = .ok (.istore 8, 2) := by decide +kernel
theorem dq_MO_choosePlanes_228 : decode (fx_cc mq_MO_choosePlanes) 228 = .ok (.iinc 9 1, 3) := by decide +kernel
theorem dq_MO_choosePlanes_231 : decode (fx_cc mq_MO_choosePlanes) 231 = .ok (.goto (-116), 3) := by decide +kernel
theorem dq_MO_choosePlanes_234 : decode (fx_cc mq_MO_choosePlanes) 234 = .ok (.iload 8, 2) := by decide +kernel
theorem dq_MO_choosePlanes_236 : decode (fx_cc mq_MO_choosePlanes) 236 = .ok (.ifCond .ne 6, 3) := by decide +kernel
theorem dq_MO_choosePlanes_239 : decode (fx_cc mq_MO_choosePlanes) 239 = .ok (.goto 16, 3) := by decide +kernel
theorem dq_MO_choosePlanes_242 : decode (fx_cc mq_MO_choosePlanes) 242 = .ok (.aload_n 0, 1) := by decide +kernel
theorem dq_MO_choosePlanes_243 : decode (fx_cc mq_MO_choosePlanes) 243 = .ok (.getfield 90, 3) := by decide +kernel
theorem dq_MO_choosePlanes_246 : decode (fx_cc mq_MO_choosePlanes) 246 = .ok (.iload_n 1, 1) := by decide +kernel
theorem dq_MO_choosePlanes_247 : decode (fx_cc mq_MO_choosePlanes) 247 = .ok (.iload_n 3, 1) := by decide +kernel
theorem dq_MO_choosePlanes_248 : decode (fx_cc mq_MO_choosePlanes) 248 = .ok (.bipush 20, 2) := by decide +kernel
theorem dq_MO_choosePlanes_250 : decode (fx_cc mq_MO_choosePlanes) 250 = .ok (.isub, 1) := by decide +kernel
theorem dq_MO_choosePlanes_251 : decode (fx_cc mq_MO_choosePlanes) 251 = .ok (.iastore, 1) := by decide +kernel
theorem dq_MO_choosePlanes_252 : decode (fx_cc mq_MO_choosePlanes) 252 = .ok (.iinc 1 1, 3) := by decide +kernel
theorem dq_MO_choosePlanes_255 : decode (fx_cc mq_MO_choosePlanes) 255 = .ok (.iinc 2 (-1), 3) := by decide +kernel
theorem dq_MO_choosePlanes_258 : decode (fx_cc mq_MO_choosePlanes) 258 = .ok (.goto (-239), 3) := by decide +kernel
theorem dq_MO_choosePlanes_261 : decode (fx_cc mq_MO_choosePlanes) 261 = .ok (.return_, 1) := by decide +kernel
theorem dq_MO_nth_0 : decode (fx_cc mq_MO_nth) 0 = .ok (.iload_n 1, 1) := by decide +kernel
theorem dq_MO_nth_1 : decode (fx_cc mq_MO_nth) 1 = .ok (.istore_n 3, 1) := by decide +kernel
theorem dq_MO_nth_2 : decode (fx_cc mq_MO_nth) 2 = .ok (.iload_n 3, 1) := by decide +kernel
theorem dq_MO_nth_3 : decode (fx_cc mq_MO_nth) 3 = .ok (.iload_n 1, 1) := by decide +kernel
theorem dq_MO_nth_4 : decode (fx_cc mq_MO_nth) 4 = .ok (.bipush 10, 2) := by decide +kernel
theorem dq_MO_nth_6 : decode (fx_cc mq_MO_nth) 6 = .ok (.iadd, 1) := by decide +kernel
theorem dq_MO_nth_7 : decode (fx_cc mq_MO_nth) 7 = .ok (.if_icmp .ge 86, 3) := by decide +kernel
theorem dq_MO_nth_10 : decode (fx_cc mq_MO_nth) 10 = .ok (.aload_n 0, 1) := by decide +kernel
theorem dq_MO_nth_11 : decode (fx_cc mq_MO_nth) 11 = .ok (.getfield 29, 3) := by decide +kernel
theorem dq_MO_nth_14 : decode (fx_cc mq_MO_nth) 14 = .ok (.iload_n 3, 1) := by decide +kernel
theorem dq_MO_nth_15 : decode (fx_cc mq_MO_nth) 15 = .ok (.baload, 1) := by decide +kernel
theorem dq_MO_nth_16 : decode (fx_cc mq_MO_nth) 16 = .ok (.ifCond .ne 6, 3) := by decide +kernel
theorem dq_MO_nth_19 : decode (fx_cc mq_MO_nth) 19 = .ok (.goto 68, 3) := by decide +kernel
theorem dq_MO_nth_22 : decode (fx_cc mq_MO_nth) 22 = .ok (.iconst 0, 1) := by decide +kernel
theorem dq_MO_nth_23 : decode (fx_cc mq_MO_nth) 23 = .ok (.istore 4, 2) := by decide +kernel
theorem dq_MO_nth_25 : decode (fx_cc mq_MO_nth) 25 = .ok (.iload_n 1, 1) := by decide +kernel
theorem dq_MO_nth_26 : decode (fx_cc mq_MO_nth) 26 = .ok (.istore 5, 2) := by decide +kernel
theorem dq_MO_nth_28 : decode (fx_cc mq_MO_nth) 28 = .ok (.iload 5, 2) := by decide +kernel
theorem dq_MO_nth_30 : decode (fx_cc mq_MO_nth) 30 = .ok (.iload_n 1, 1) := by decide +kernel
theorem dq_MO_nth_31 : decode (fx_cc mq_MO_nth) 31 = .ok (.bipush 10, 2) := by decide +kernel
theorem dq_MO_nth_33 : decode (fx_cc mq_MO_nth) 33 = .ok (.iadd, 1) := by decide +kernel
theorem dq_MO_nth_34 : decode (fx_cc mq_MO_nth) 34 = .ok (.if_icmp .ge 45, 3) := by decide +kernel
theorem dq_MO_nth_37 : decode (fx_cc mq_MO_nth) 37 = .ok (.iload 4, 2) := by decide +kernel
theorem dq_MO_nth_39 : decode (fx_cc mq_MO_nth) 39 = .ok (.iload 5, 2) := by decide +kernel
theorem dq_MO_nth_41 : decode (fx_cc mq_MO_nth) 41 = .ok (.iload_n 3, 1) := by decide +kernel
theorem dq_MO_nth_42 : decode (fx_cc mq_MO_nth) 42 = .ok (.if_icmp .eq 27, 3) := by decide +kernel
theorem dq_MO_nth_45 : decode (fx_cc mq_MO_nth) 45 = .ok (.aload_n 0, 1) := by decide +kernel
theorem dq_MO_nth_46 : decode (fx_cc mq_MO_nth) 46 = .ok (.getfield 29, 3) := by decide +kernel
theorem dq_MO_nth_49 : decode (fx_cc mq_MO_nth) 49 = .ok (.iload 5, 2) := by decide +kernel
theorem dq_MO_nth_51 : decode (fx_cc mq_MO_nth) 51 = .ok (.baload, 1) := by decide +kernel
theorem dq_MO_nth_52 : decode (fx_cc mq_MO_nth) 52 = .ok (.ifCond .eq 17, 3) := by decide +kernel
theorem dq_MO_nth_55 : decode (fx_cc mq_MO_nth) 55 = .ok (.aload_n 0, 1) := by decide +kernel
theorem dq_MO_nth_56 : decode (fx_cc mq_MO_nth) 56 = .ok (.iload_n 3, 1) := by decide +kernel
theorem dq_MO_nth_57 : decode (fx_cc mq_MO_nth) 57 = .ok (.iload 5, 2) := by decide +kernel
theorem dq_MO_nth_59 : decode (fx_cc mq_MO_nth) 59 = .ok (.invokevirtual 178, 3) := by decide +kernel
theorem dq_MO_nth_62 : decode (fx_cc mq_MO_nth) 62 = .ok (.ifCond .eq 7, 3) := by decide +kernel
theorem dq_MO_nth_65 : decode (fx_cc mq_MO_nth) 65 = .ok (.iconst 1, 1) := by decide +kernel
theorem dq_MO_nth_66 : decode (fx_cc mq_MO_nth) 66 = .ok (.goto 4, 3) := by decide +kernel
theorem dq_MO_nth_69 : decode (fx_cc mq_MO_nth) 69 = .ok (.iconst 0, 1) := by decide +kernel
theorem dq_MO_nth_70 : decode (fx_cc mq_MO_nth) 70 = .ok (.iadd, 1) := by decide +kernel
theorem dq_MO_nth_71 : decode (fx_cc mq_MO_nth) 71 = .ok (.istore 4, 2) := by decide +kernel
theorem dq_MO_nth_73 : decode (fx_cc mq_MO_nth) 73 = .ok (.iinc 5 1, 3) := by decide +kernel
theorem dq_MO_nth_76 : decode (fx_cc mq_MO_nth) 76 = .ok (.goto (-48), 3) := by decide +kernel
theorem dq_MO_nth_79 : decode (fx_cc mq_MO_nth) 79 = .ok (.iload 4, 2) := by decide +kernel
theorem dq_MO_nth_81 : decode (fx_cc mq_MO_nth) 81 = .ok (.iload_n 2, 1) := by decide +kernel
theorem dq_MO_nth_82 : decode (fx_cc mq_MO_nth) 82 = .ok (.if_icmp .ne 5, 3) := by decide +kernel
theorem dq_MO_nth_85 : decode (fx_cc mq_MO_nth) 85 = .ok (.iload_n 3, 1) := by decide +kernel
theorem dq_MO_nth_86 : decode (fx_cc mq_MO_nth) 86 = .ok (.ireturn, 1) := by decide +kernel
theorem dq_MO_nth_87 : decode (fx_cc mq_MO_nth) 87 = .ok (.iinc 3 1, 3) := by decide +kernel
theorem dq_MO_nth_90 : decode (fx_cc mq_MO_nth) 90 = .ok (.goto (-88), 3) := by decide +kernel
theorem dq_MO_nth_93 : decode (fx_cc mq_MO_nth) 93 = .ok (.iconst (-1), 1) := by decide +kernel
theorem dq_MO_nth_94 : decode (fx_cc mq_MO_nth) 94 = .ok (.ireturn, 1) := by decide +kernel
theorem dq_MO_isAbove_0 : decode (fx_cc mq_MO_isAbove) 0 = .ok (.aload_n 0, 1) := by decide +kernel
theorem dq_MO_isAbove_1 : decode (fx_cc mq_MO_isAbove) 1 = .ok (.getfield 38, 3) := by decide +kernel
theorem dq_MO_isAbove_4 : decode (fx_cc mq_MO_isAbove) 4 = .ok (.iload_n 1, 1) := by decide +kernel
theorem dq_MO_isAbove_5 : decode (fx_cc mq_MO_isAbove) 5 = .ok (.iaload, 1) := by decide +kernel
theorem dq_MO_isAbove_6 : decode (fx_cc mq_MO_isAbove) 6 = .ok (.aload_n 0, 1) := by decide +kernel
theorem dq_MO_isAbove_7 : decode (fx_cc mq_MO_isAbove) 7 = .ok (.getfield 38, 3) := by decide +kernel
theorem dq_MO_isAbove_10 : decode (fx_cc mq_MO_isAbove) 10 = .ok (.iload_n 2, 1) := by decide +kernel
theorem dq_MO_isAbove_11 : decode (fx_cc mq_MO_isAbove) 11 = .ok (.iaload, 1) := by decide +kernel
theorem dq_MO_isAbove_12 : decode (fx_cc mq_MO_isAbove) 12 = .ok (.if_icmp .gt 23, 3) := by decide +kernel
theorem dq_MO_isAbove_15 : decode (fx_cc mq_MO_isAbove) 15 = .ok (.aload_n 0, 1) := by decide +kernel
theorem dq_MO_isAbove_16 : decode (fx_cc mq_MO_isAbove) 16 = .ok (.getfield 38, 3) := by decide +kernel
theorem dq_MO_isAbove_19 : decode (fx_cc mq_MO_isAbove) 19 = .ok (.iload_n 1, 1) := by decide +kernel
theorem dq_MO_isAbove_20 : decode (fx_cc mq_MO_isAbove) 20 = .ok (.iaload, 1) := by decide +kernel
theorem dq_MO_isAbove_21 : decode (fx_cc mq_MO_isAbove) 21 = .ok (.aload_n 0, 1) := by decide +kernel
theorem dq_MO_isAbove_22 : decode (fx_cc mq_MO_isAbove) 22 = .ok (.getfield 38, 3) := by decide +kernel
theorem dq_MO_isAbove_25 : decode (fx_cc mq_MO_isAbove) 25 = .ok (.iload_n 2, 1) := by decide +kernel
theorem dq_MO_isAbove_26 : decode (fx_cc mq_MO_isAbove) 26 = .ok (.iaload, 1) := by decide +kernel
theorem dq_MO_isAbove_27 : decode (fx_cc mq_MO_isAbove) 27 = .ok (.if_icmp .ne 12, 3) := by decide +kernel
theorem dq_MO_isAbove_30 : decode (fx_cc mq_MO_isAbove) 30 = .ok (.iload_n 1, 1) := by decide +kernel
theorem dq_MO_isAbove_31 : decode (fx_cc mq_MO_isAbove) 31 = .ok (.iload_n 2, 1) := by decide +kernel
theorem dq_MO_isAbove_32 : decode (fx_cc mq_MO_isAbove) 32 = .ok (.if_icmp .le 7, 3) := by decide +kernel
theorem dq_MO_isAbove_35 : decode (fx_cc mq_MO_isAbove) 35 = .ok (.iconst 1, 1) := by decide +kernel
theorem dq_MO_isAbove_36 : decode (fx_cc mq_MO_isAbove) 36 = .ok (.goto 4, 3) := by decide +kernel
theorem dq_MO_isAbove_39 : decode (fx_cc mq_MO_isAbove) 39 = .ok (.iconst 0, 1) := by decide +kernel
theorem dq_MO_isAbove_40 : decode (fx_cc mq_MO_isAbove) 40 = .ok (.ireturn, 1) := by decide +kernel
theorem dq_MO_miss_0 : decode (fx_cc mq_MO_miss) 0 = .ok (.iconst 0, 1) := by decide +kernel
theorem dq_MO_miss_1 : decode (fx_cc mq_MO_miss) 1 = .ok (.istore_n 1, 1) := by decide +kernel
theorem dq_MO_miss_2 : decode (fx_cc mq_MO_miss) 2 = .ok (.iload_n 1, 1) := by decide +kernel
theorem dq_MO_miss_3 : decode (fx_cc mq_MO_miss) 3 = .ok (.iconst 2, 1) := by decide +kernel
theorem dq_MO_miss_4 : decode (fx_cc mq_MO_miss) 4 = .ok (.if_icmp .ge 140, 3) := by decide +kernel
theorem dq_MO_miss_7 : decode (fx_cc mq_MO_miss) 7 = .ok (.aload_n 0, 1) := by decide +kernel
theorem dq_MO_miss_8 : decode (fx_cc mq_MO_miss) 8 = .ok (.getfield 144, 3) := by decide +kernel
theorem dq_MO_miss_11 : decode (fx_cc mq_MO_miss) 11 = .ok (.ifCond .le 133, 3) := by decide +kernel
theorem dq_MO_miss_14 : decode (fx_cc mq_MO_miss) 14 = .ok (.iconst 0, 1) := by decide +kernel
theorem dq_MO_miss_15 : decode (fx_cc mq_MO_miss) 15 = .ok (.istore_n 2, 1) := by decide +kernel
theorem dq_MO_miss_16 : decode (fx_cc mq_MO_miss) 16 = .ok (.iconst 0, 1) := by decide +kernel
theorem dq_MO_miss_17 : decode (fx_cc mq_MO_miss) 17 = .ok (.istore_n 3, 1) := by decide +kernel
theorem dq_MO_miss_18 : decode (fx_cc mq_MO_miss) 18 = .ok (.iload_n 3, 1) := by decide +kernel
theorem dq_MO_miss_19 : decode (fx_cc mq_MO_miss) 19 = .ok (.aload_n 0, 1) := by decide +kernel
theorem dq_MO_miss_20 : decode (fx_cc mq_MO_miss) 20 = .ok (.getfield 75, 3) := by decide +kernel
theorem dq_MO_miss_23 : decode (fx_cc mq_MO_miss) 23 = .ok (.iload_n 1, 1) := by decide +kernel
theorem dq_MO_miss_24 : decode (fx_cc mq_MO_miss) 24 = .ok (.iaload, 1) := by decide +kernel
theorem dq_MO_miss_25 : decode (fx_cc mq_MO_miss) 25 = .ok (.if_icmp .ge 28, 3) := by decide +kernel
theorem dq_MO_miss_28 : decode (fx_cc mq_MO_miss) 28 = .ok (.iload_n 2, 1) := by decide +kernel
theorem dq_MO_miss_29 : decode (fx_cc mq_MO_miss) 29 = .ok (.ifCond .ne 12, 3) := by decide +kernel
theorem dq_MO_miss_32 : decode (fx_cc mq_MO_miss) 32 = .ok (.aload_n 0, 1) := by decide +kernel
theorem dq_MO_miss_33 : decode (fx_cc mq_MO_miss) 33 = .ok (.iload_n 1, 1) := by decide +kernel
theorem dq_MO_miss_34 : decode (fx_cc mq_MO_miss) 34 = .ok (.iload_n 3, 1) := by decide +kernel
theorem dq_MO_miss_35 : decode (fx_cc mq_MO_miss) 35 = .ok (.invokevirtual 194, 3) := by decide +kernel
theorem dq_MO_miss_38 : decode (fx_cc mq_MO_miss) 38 = .ok (.ifCond .eq 7, 3) := by decide +kernel
theorem dq_MO_miss_41 : decode (fx_cc mq_MO_miss) 41 = .ok (.iconst 1, 1) := by decide +kernel
theorem dq_MO_miss_42 : decode (fx_cc mq_MO_miss) 42 = .ok (.goto 4, 3) := by decide +kernel
theorem dq_MO_miss_45 : decode (fx_cc mq_MO_miss) 45 = .ok (.iconst 0, 1) := by decide +kernel
theorem dq_MO_miss_46 : decode (fx_cc mq_MO_miss) 46 = .ok (.istore_n 2, 1) := by decide +kernel
theorem dq_MO_miss_47 : decode (fx_cc mq_MO_miss) 47 = .ok (.iinc 3 1, 3) := by decide +kernel
theorem dq_MO_miss_50 : decode (fx_cc mq_MO_miss) 50 = .ok (.goto (-32), 3) := by decide +kernel
theorem dq_MO_miss_53 : decode (fx_cc mq_MO_miss) 53 = .ok (.iload_n 2, 1) := by decide +kernel
theorem dq_MO_miss_54 : decode (fx_cc mq_MO_miss) 54 = .ok (.ifCond .eq 6, 3) := by decide +kernel
theorem dq_MO_miss_57 : decode (fx_cc mq_MO_miss) 57 = .ok (.goto 81, 3) := by decide +kernel
theorem dq_MO_miss_60 : decode (fx_cc mq_MO_miss) 60 = .ok (.bipush 7, 2) := by decide +kernel
theorem dq_MO_miss_62 : decode (fx_cc mq_MO_miss) 62 = .ok (.iload_n 1, 1) := by decide +kernel
theorem dq_MO_miss_63 : decode (fx_cc mq_MO_miss) 63 = .ok (.imul, 1) := by decide +kernel
theorem dq_MO_miss_64 : decode (fx_cc mq_MO_miss) 64 = .ok (.aload_n 0, 1) := by decide +kernel
theorem dq_MO_miss_65 : decode (fx_cc mq_MO_miss) 65 = .ok (.getfield 75, 3) := by decide +kernel
theorem dq_MO_miss_68 : decode (fx_cc mq_MO_miss) 68 = .ok (.iload_n 1, 1) := by decide +kernel
theorem dq_MO_miss_69 : decode (fx_cc mq_MO_miss) 69 = .ok (.iaload, 1) := by decide +kernel
theorem dq_MO_miss_70 : decode (fx_cc mq_MO_miss) 70 = .ok (.iadd, 1) := by decide +kernel
theorem dq_MO_miss_71 : decode (fx_cc mq_MO_miss) 71 = .ok (.istore_n 3, 1) := by decide +kernel
theorem dq_MO_miss_72 : decode (fx_cc mq_MO_miss) 72 = .ok (.aload_n 0, 1) := by decide +kernel
theorem dq_MO_miss_73 : decode (fx_cc mq_MO_miss) 73 = .ok (.getfield 78, 3) := by decide +kernel
theorem dq_MO_miss_76 : decode (fx_cc mq_MO_miss) 76 = .ok (.iload_n 3, 1) := by decide +kernel
theorem dq_MO_miss_77 : decode (fx_cc mq_MO_miss) 77 = .ok (.aload_n 0, 1) := by decide +kernel
theorem dq_MO_miss_78 : decode (fx_cc mq_MO_miss) 78 = .ok (.getfield 141, 3) := by decide +kernel
theorem dq_MO_miss_81 : decode (fx_cc mq_MO_miss) 81 = .ok (.iastore, 1) := by decide +kernel
theorem dq_MO_miss_82 : decode (fx_cc mq_MO_miss) 82 = .ok (.aload_n 0, 1) := by decide +kernel
theorem dq_MO_miss_83 : decode (fx_cc mq_MO_miss) 83 = .ok (.getfield 81, 3) := by decide +kernel
theorem dq_MO_miss_86 : decode (fx_cc mq_MO_miss) 86 = .ok (.iload_n 3, 1) := by decide +kernel
theorem dq_MO_miss_87 : decode (fx_cc mq_MO_miss) 87 = .ok (.aload_n 0, 1) := by decide +kernel
theorem dq_MO_miss_88 : decode (fx_cc mq_MO_miss) 88 = .ok (.getfield 147, 3) := by decide +kernel
theorem dq_MO_miss_91 : decode (fx_cc mq_MO_miss) 91 = .ok (.iastore, 1) := by decide +kernel
theorem dq_MO_miss_92 : decode (fx_cc mq_MO_miss) 92 = .ok (.aload_n 0, 1) := by decide +kernel
theorem dq_MO_miss_93 : decode (fx_cc mq_MO_miss) 93 = .ok (.getfield 84, 3) := by decide +kernel
theorem dq_MO_miss_96 : decode (fx_cc mq_MO_miss) 96 = .ok (.iload_n 3, 1) := by decide +kernel
theorem dq_MO_miss_97 : decode (fx_cc mq_MO_miss) 97 = .ok (.aload_n 0, 1) := by decide +kernel
theorem dq_MO_miss_98 : decode (fx_cc mq_MO_miss) 98 = .ok (.getfield 144, 3) := by decide +kernel
theorem dq_MO_miss_101 : decode (fx_cc mq_MO_miss) 101 = .ok (.iastore, 1) := by decide +kernel
theorem dq_MO_miss_102 : decode (fx_cc mq_MO_miss) 102 = .ok (.aload_n 0, 1) := by decide +kernel
theorem dq_MO_miss_103 : decode (fx_cc mq_MO_miss) 103 = .ok (.getfield 87, 3) := by decide +kernel
theorem dq_MO_miss_106 : decode (fx_cc mq_MO_miss) 106 = .ok (.iload_n 3, 1) := by decide +kernel
theorem dq_MO_miss_107 : decode (fx_cc mq_MO_miss) 107 = .ok (.aload_n 0, 1) := by decide +kernel
theorem dq_MO_miss_108 : decode (fx_cc mq_MO_miss) 108 = .ok (.getfield 150, 3) := by decide +kernel
theorem dq_MO_miss_111 : decode (fx_cc mq_MO_miss) 111 = .ok (.iastore, 1) := by decide +kernel
theorem dq_MO_miss_112 : decode (fx_cc mq_MO_miss) 112 = .ok (.aload_n 0, 1) := by decide +kernel
theorem dq_MO_miss_113 : decode (fx_cc mq_MO_miss) 113 = .ok (.getfield 75, 3) := by decide +kernel
theorem dq_MO_miss_116 : decode (fx_cc mq_MO_miss) 116 = .ok (.iload_n 1, 1) := by decide +kernel
theorem dq_MO_miss_117 : decode (fx_cc mq_MO_miss) 117 = .ok (.dup2, 1) := by decide +kernel
theorem dq_MO_miss_118 : decode (fx_cc mq_MO_miss) 118 = .ok (.iaload, 1) := by decide +kernel
theorem dq_MO_miss_119 : decode (fx_cc mq_MO_miss) 119 = .ok (.iconst 1, 1) := by decide +kernel
theorem dq_MO_miss_120 : decode (fx_cc mq_MO_miss) 120 = .ok (.iadd, 1) := by decide +kernel
theorem dq_MO_miss_121 : decode (fx_cc mq_MO_miss) 121 = .ok (.iastore, 1) := by decide +kernel
theorem dq_MO_miss_122 : decode (fx_cc mq_MO_miss) 122 = .ok (.aload_n 0, 1) := by decide +kernel
theorem dq_MO_miss_123 : decode (fx_cc mq_MO_miss) 123 = .ok (.getfield 75, 3) := by decide +kernel
theorem dq_MO_miss_126 : decode (fx_cc mq_MO_miss) 126 = .ok (.iload_n 1, 1) := by decide +kernel
theorem dq_MO_miss_127 : decode (fx_cc mq_MO_miss) 127 = .ok (.iaload, 1) := by decide +kernel
theorem dq_MO_miss_128 : decode (fx_cc mq_MO_miss) 128 = .ok (.bipush 7, 2) := by decide +kernel
theorem dq_MO_miss_130 : decode (fx_cc mq_MO_miss) 130 = .ok (.if_icmp .ne 8, 3) := by decide +kernel
theorem dq_MO_miss_133 : decode (fx_cc mq_MO_miss) 133 = .ok (.aload_n 0, 1) := by decide +kernel
theorem dq_MO_miss_134 : decode (fx_cc mq_MO_miss) 134 = .ok (.iload_n 1, 1) := by decide +kernel
theorem dq_MO_miss_135 : decode (fx_cc mq_MO_miss) 135 = .ok (.invokevirtual 197, 3) := by decide +kernel
theorem dq_MO_miss_138 : decode (fx_cc mq_MO_miss) 138 = .ok (.iinc 1 1, 3) := by decide +kernel
theorem dq_MO_miss_141 : decode (fx_cc mq_MO_miss) 141 = .ok (.goto (-139), 3) := by decide +kernel
theorem dq_MO_miss_144 : decode (fx_cc mq_MO_miss) 144 = .ok (.return_, 1) := by decide +kernel
theorem dq_MO_lies_0 : decode (fx_cc mq_MO_lies) 0 = .ok (.bipush 7, 2) := by decide +kernel
theorem dq_MO_lies_2 : decode (fx_cc mq_MO_lies) 2 = .ok (.iload_n 1, 1) := by decide +kernel
theorem dq_MO_lies_3 : decode (fx_cc mq_MO_lies) 3 = .ok (.imul, 1) := by decide +kernel
theorem dq_MO_lies_4 : decode (fx_cc mq_MO_lies) 4 = .ok (.iload_n 2, 1) := by decide +kernel
theorem dq_MO_lies_5 : decode (fx_cc mq_MO_lies) 5 = .ok (.iadd, 1) := by decide +kernel
theorem dq_MO_lies_6 : decode (fx_cc mq_MO_lies) 6 = .ok (.istore_n 3, 1) := by decide +kernel
theorem dq_MO_lies_7 : decode (fx_cc mq_MO_lies) 7 = .ok (.aload_n 0, 1) := by decide +kernel
theorem dq_MO_lies_8 : decode (fx_cc mq_MO_lies) 8 = .ok (.getfield 141, 3) := by decide +kernel
theorem dq_MO_lies_11 : decode (fx_cc mq_MO_lies) 11 = .ok (.aload_n 0, 1) := by decide +kernel
theorem dq_MO_lies_12 : decode (fx_cc mq_MO_lies) 12 = .ok (.getfield 78, 3) := by decide +kernel
theorem dq_MO_lies_15 : decode (fx_cc mq_MO_lies) 15 = .ok (.iload_n 3, 1) := by decide +kernel
theorem dq_MO_lies_16 : decode (fx_cc mq_MO_lies) 16 = .ok (.iaload, 1) := by decide +kernel
theorem dq_MO_lies_17 : decode (fx_cc mq_MO_lies) 17 = .ok (.if_icmp .lt 70, 3) := by decide +kernel
theorem dq_MO_lies_20 : decode (fx_cc mq_MO_lies) 20 = .ok (.aload_n 0, 1) := by decide +kernel
theorem dq_MO_lies_21 : decode (fx_cc mq_MO_lies) 21 = .ok (.getfield 147, 3) := by decide +kernel
theorem dq_MO_lies_24 : decode (fx_cc mq_MO_lies) 24 = .ok (.aload_n 0, 1) := by decide +kernel
theorem dq_MO_lies_25 : decode (fx_cc mq_MO_lies) 25 = .ok (.getfield 81, 3) := by decide +kernel
theorem dq_MO_lies_28 : decode (fx_cc mq_MO_lies) 28 = .ok (.iload_n 3, 1) := by decide +kernel
theorem dq_MO_lies_29 : decode (fx_cc mq_MO_lies) 29 = .ok (.iaload, 1) := by decide +kernel
theorem dq_MO_lies_30 : decode (fx_cc mq_MO_lies) 30 = .ok (.if_icmp .lt 57, 3) := by decide +kernel
theorem dq_MO_lies_33 : decode (fx_cc mq_MO_lies) 33 = .ok (.aload_n 0, 1) := by decide +kernel
theorem dq_MO_lies_34 : decode (fx_cc mq_MO_lies) 34 = .ok (.getfield 141, 3) := by decide +kernel
theorem dq_MO_lies_37 : decode (fx_cc mq_MO_lies) 37 = .ok (.aload_n 0, 1) := by decide +kernel
theorem dq_MO_lies_38 : decode (fx_cc mq_MO_lies) 38 = .ok (.getfield 144, 3) := by decide +kernel
theorem dq_MO_lies_41 : decode (fx_cc mq_MO_lies) 41 = .ok (.iadd, 1) := by decide +kernel
theorem dq_MO_lies_42 : decode (fx_cc mq_MO_lies) 42 = .ok (.aload_n 0, 1) := by decide +kernel
theorem dq_MO_lies_43 : decode (fx_cc mq_MO_lies) 43 = .ok (.getfield 78, 3) := by decide +kernel
theorem dq_MO_lies_46 : decode (fx_cc mq_MO_lies) 46 = .ok (.iload_n 3, 1) := by decide +kernel
theorem dq_MO_lies_47 : decode (fx_cc mq_MO_lies) 47 = .ok (.iaload, 1) := by decide +kernel
theorem dq_MO_lies_48 : decode (fx_cc mq_MO_lies) 48 = .ok (.aload_n 0, 1) := by decide +kernel
theorem dq_MO_lies_49 : decode (fx_cc mq_MO_lies) 49 = .ok (.getfield 84, 3) := by decide +kernel
theorem dq_MO_lies_52 : decode (fx_cc mq_MO_lies) 52 = .ok (.iload_n 3, 1) := by decide +kernel
theorem dq_MO_lies_53 : decode (fx_cc mq_MO_lies) 53 = .ok (.iaload, 1) := by decide +kernel
theorem dq_MO_lies_54 : decode (fx_cc mq_MO_lies) 54 = .ok (.iadd, 1) := by decide +kernel
theorem dq_MO_lies_55 : decode (fx_cc mq_MO_lies) 55 = .ok (.if_icmp .gt 32, 3) := by decide +kernel
theorem dq_MO_lies_58 : decode (fx_cc mq_MO_lies) 58 = .ok (.aload_n 0, 1) := by decide +kernel
theorem dq_MO_lies_59 : decode (fx_cc mq_MO_lies) 59 = .ok (.getfield 147, 3) := by decide +kernel
theorem dq_MO_lies_62 : decode (fx_cc mq_MO_lies) 62 = .ok (.aload_n 0, 1) := by decide +kernel
theorem dq_MO_lies_63 : decode (fx_cc mq_MO_lies) 63 = .ok (.getfield 150, 3) := by decide +kernel
theorem dq_MO_lies_66 : decode (fx_cc mq_MO_lies) 66 = .ok (.iadd, 1) := by decide +kernel
theorem dq_MO_lies_67 : decode (fx_cc mq_MO_lies) 67 = .ok (.aload_n 0, 1) := by decide +kernel
theorem dq_MO_lies_68 : decode (fx_cc mq_MO_lies) 68 = .ok (.getfield 81, 3) := by decide +kernel
theorem dq_MO_lies_71 : decode (fx_cc mq_MO_lies) 71 = .ok (.iload_n 3, 1) := by decide +kernel
theorem dq_MO_lies_72 : decode (fx_cc mq_MO_lies) 72 = .ok (.iaload, 1) := by decide +kernel
theorem dq_MO_lies_73 : decode (fx_cc mq_MO_lies) 73 = .ok (.aload_n 0, 1) := by decide +kernel
theorem dq_MO_lies_74 : decode (fx_cc mq_MO_lies) 74 = .ok (.getfield 87, 3) := by decide +kernel
theorem dq_MO_lies_77 : decode (fx_cc mq_MO_lies) 77 = .ok (.iload_n 3, 1) := by decide +kernel
theorem dq_MO_lies_78 : decode (fx_cc mq_MO_lies) 78 = .ok (.iaload, 1) := by decide +kernel
theorem dq_MO_lies_79 : decode (fx_cc mq_MO_lies) 79 = .ok (.iadd, 1) := by decide +kernel
theorem dq_MO_lies_80 : decode (fx_cc mq_MO_lies) 80 = .ok (.if_icmp .gt 7, 3) := by decide +kernel
theorem dq_MO_lies_83 : decode (fx_cc mq_MO_lies) 83 = .ok (.iconst 1, 1) := by decide +kernel
theorem dq_MO_lies_84 : decode (fx_cc mq_MO_lies) 84 = .ok (.goto 4, 3) := by decide +kernel
theorem dq_MO_lies_87 : decode (fx_cc mq_MO_lies) 87 = .ok (.iconst 0, 1) := by decide +kernel
theorem dq_MO_lies_88 : decode (fx_cc mq_MO_lies) 88 = .ok (.ireturn, 1) := by decide +kernel
theorem dq_MO_join_0 : decode (fx_cc mq_MO_join) 0 = .ok (.iconst 0, 1) := by decide +kernel
theorem dq_MO_join_1 : decode (fx_cc mq_MO_join) 1 = .ok (.istore_n 2, 1) := by decide +kernel
theorem dq_MO_join_2 : decode (fx_cc mq_MO_join) 2 = .ok (.iconst 0, 1) := by decide +kernel
theorem dq_MO_join_3 : decode (fx_cc mq_MO_join) 3 = .ok (.istore_n 3, 1) := by decide +kernel
theorem dq_MO_join_4 : decode (fx_cc mq_MO_join) 4 = .ok (.ldc 186, 2) := by decide +kernel
theorem dq_MO_join_6 : decode (fx_cc mq_MO_join) 6 = .ok (.istore 4, 2) := by decide +kernel
theorem dq_MO_join_8 : decode (fx_cc mq_MO_join) 8 = .ok (.bipush 7, 2) := by decide +kernel
theorem dq_MO_join_10 : decode (fx_cc mq_MO_join) 10 = .ok (.iload_n 1, 1) := by decide +kernel
theorem dq_MO_join_11 : decode (fx_cc mq_MO_join) 11 = .ok (.imul, 1) := by decide +kernel
theorem dq_MO_join_12 : decode (fx_cc mq_MO_join) 12 = .ok (.istore 5, 2) := by decide +kernel
theorem dq_MO_join_14 : decode (fx_cc mq_MO_join) 14 = .ok (.iload 5, 2) := by decide +kernel
theorem dq_MO_join_16 : decode (fx_cc mq_MO_join) 16 = .ok (.bipush 7, 2) := by decide +kernel
theorem dq_MO_join_18 : decode (fx_cc mq_MO_join) 18 = .ok (.iload_n 1, 1) := by decide +kernel
theorem dq_MO_join_19 : decode (fx_cc mq_MO_join) 19 = .ok (.imul, 1) := by decide +kernel
theorem dq_MO_join_20 : decode (fx_cc mq_MO_join) 20 = .ok (.bipush 7, 2) := by decide +kernel
theorem dq_MO_join_22 : decode (fx_cc mq_MO_join) 22 = .ok (.iadd, 1) := by decide +kernel
theorem dq_MO_join_23 : decode (fx_cc mq_MO_join) 23 = .ok (.if_icmp .ge 104, 3) := by decide +kernel
theorem dq_MO_join_26 : decode (fx_cc mq_MO_join) 26 = .ok (.iload 5, 2) := by decide +kernel
theorem dq_MO_join_28 : decode (fx_cc mq_MO_join) 28 = .ok (.iconst 1, 1) := by decide +kernel
theorem dq_MO_join_29 : decode (fx_cc mq_MO_join) 29 = .ok (.iadd, 1) := by decide +kernel
theorem dq_MO_join_30 : decode (fx_cc mq_MO_join) 30 = .ok (.istore 6, 2) := by decide +kernel
theorem dq_MO_join_32 : decode (fx_cc mq_MO_join) 32 = .ok (.iload 6, 2) := by decide +kernel
theorem dq_MO_join_34 : decode (fx_cc mq_MO_join) 34 = .ok (.bipush 7, 2) := by decide +kernel
theorem dq_MO_join_36 : decode (fx_cc mq_MO_join) 36 = .ok (.iload_n 1, 1) := by decide +kernel
theorem dq_MO_join_37 : decode (fx_cc mq_MO_join) 37 = .ok (.imul, 1) := by decide +kernel
theorem dq_MO_join_38 : decode (fx_cc mq_MO_join) 38 = .ok (.bipush 7, 2) := by decide +kernel
theorem dq_MO_join_40 : decode (fx_cc mq_MO_join) 40 = .ok (.iadd, 1) := by decide +kernel
theorem dq_MO_join_41 : decode (fx_cc mq_MO_join) 41 = .ok (.if_icmp .ge 80, 3) := by decide +kernel
theorem dq_MO_join_44 : decode (fx_cc mq_MO_join) 44 = .ok (.aload_n 0, 1) := by decide +kernel
theorem dq_MO_join_45 : decode (fx_cc mq_MO_join) 45 = .ok (.iload 5, 2) := by decide +kernel
theorem dq_MO_join_47 : decode (fx_cc mq_MO_join) 47 = .ok (.iload 6, 2) := by decide +kernel
theorem dq_MO_join_49 : decode (fx_cc mq_MO_join) 49 = .ok (.invokevirtual 187, 3) := by decide +kernel
theorem dq_MO_join_52 : decode (fx_cc mq_MO_join) 52 = .ok (.aload_n 0, 1) := by decide +kernel
theorem dq_MO_join_53 : decode (fx_cc mq_MO_join) 53 = .ok (.iload 5, 2) := by decide +kernel
theorem dq_MO_join_55 : decode (fx_cc mq_MO_join) 55 = .ok (.iload 6, 2) := by decide +kernel
theorem dq_MO_join_57 : decode (fx_cc mq_MO_join) 57 = .ok (.invokevirtual 191, 3) := by decide +kernel
theorem dq_MO_join_60 : decode (fx_cc mq_MO_join) 60 = .ok (.imul, 1) := by decide +kernel
theorem dq_MO_join_61 : decode (fx_cc mq_MO_join) 61 = .ok (.aload_n 0, 1) := by decide +kernel
theorem dq_MO_join_62 : decode (fx_cc mq_MO_join) 62 = .ok (.getfield 84, 3) := by decide +kernel
theorem dq_MO_join_65 : decode (fx_cc mq_MO_join) 65 = .ok (.iload 5, 2) := by decide +kernel
theorem dq_MO_join_67 : decode (fx_cc mq_MO_join) 67 = .ok (.iaload, 1) := by decide +kernel
theorem dq_MO_join_68 : decode (fx_cc mq_MO_join) 68 = .ok (.aload_n 0, 1) := by decide +kernel
theorem dq_MO_join_69 : decode (fx_cc mq_MO_join) 69 = .ok (.getfield 87, 3) := by decide +kernel
theorem dq_MO_join_72 : decode (fx_cc mq_MO_join) 72 = .ok (.iload 5, 2) := by decide +kernel
theorem dq_MO_join_74 : decode (fx_cc mq_MO_join) 74 = .ok (.iaload, 1) := by decide +kernel
end
section
/-! ===== a row for each instruction ===== -/
theorem dq_MO_join_75 : decode (fx_cc mq_MO_join) 75 = .ok (.imul, 1) := by decide +kernel
theorem dq_MO_join_76 : decode (fx_cc mq_MO_join) 76 = .ok (.isub, 1) := by decide +kernel
theorem dq_MO_join_77 : decode (fx_cc mq_MO_join) 77 = .ok (.aload_n 0, 1) := by decide +kernel
theorem dq_MO_join_78 : decode (fx_cc mq_MO_join) 78 = .ok (.getfield 84, 3) := by decide +kernel
theorem dq_MO_join_81 : decode (fx_cc mq_MO_join) 81 = .ok (.iload 6, 2) := by decide +kernel
theorem dq_MO_join_83 : decode (fx_cc mq_MO_join) 83 = .ok (.iaload, 1) := by decide +kernel
theorem dq_MO_join_84 : decode (fx_cc mq_MO_join) 84 = .ok (.aload_n 0, 1) := by decide +kernel
theorem dq_MO_join_85 : decode (fx_cc mq_MO_join) 85 = .ok (.getfield 87, 3) := by decide +kernel
theorem dq_MO_join_88 : decode (fx_cc mq_MO_join) 88 = .ok (.iload 6, 2) := by decide +kernel
theorem dq_MO_join_90 : decode (fx_cc mq_MO_join) 90 = .ok (.iaload, 1) := by decide +kernel
theorem dq_MO_join_91 : decode (fx_cc mq_MO_join) 91 = .ok (.imul, 1) := by decide +kernel
theorem dq_MO_join_92 : decode (fx_cc mq_MO_join) 92 = .ok (.isub, 1) := by decide +kernel
theorem dq_MO_join_93 : decode (fx_cc mq_MO_join) 93 = .ok (.istore 7, 2) := by decide +kernel
theorem dq_MO_join_95 : decode (fx_cc mq_MO_join) 95 = .ok (.iload 7, 2) := by decide +kernel
theorem dq_MO_join_97 : decode (fx_cc mq_MO_join) 97 = .ok (.iload 4, 2) := by decide +kernel
theorem dq_MO_join_99 : decode (fx_cc mq_MO_join) 99 = .ok (.if_icmp .lt 6, 3) := by decide +kernel
theorem dq_MO_join_102 : decode (fx_cc mq_MO_join) 102 = .ok (.goto 13, 3) := by decide +kernel
theorem dq_MO_join_105 : decode (fx_cc mq_MO_join) 105 = .ok (.iload 7, 2) := by decide +kernel
theorem dq_MO_join_107 : decode (fx_cc mq_MO_join) 107 = .ok (.istore 4, 2) := by decide +kernel
theorem dq_MO_join_109 : decode (fx_cc mq_MO_join) 109 = .ok (.iload 5, 2) := by decide +kernel
theorem dq_MO_join_111 : decode (fx_cc mq_MO_join) 111 = .ok (.istore_n 2, 1) := by decide +kernel
theorem dq_MO_join_112 : decode (fx_cc mq_MO_join) 112 = .ok (.iload 6, 2) := by decide +kernel
theorem dq_MO_join_114 : decode (fx_cc mq_MO_join) 114 = .ok (.istore_n 3, 1) := by decide +kernel
theorem dq_MO_join_115 : decode (fx_cc mq_MO_join) 115 = .ok (.iinc 6 1, 3) := by decide +kernel
theorem dq_MO_join_118 : decode (fx_cc mq_MO_join) 118 = .ok (.goto (-86), 3) := by decide +kernel
theorem dq_MO_join_121 : decode (fx_cc mq_MO_join) 121 = .ok (.iinc 5 1, 3) := by decide +kernel
theorem dq_MO_join_124 : decode (fx_cc mq_MO_join) 124 = .ok (.goto (-110), 3) := by decide +kernel
theorem dq_MO_join_127 : decode (fx_cc mq_MO_join) 127 = .ok (.aload_n 0, 1) := by decide +kernel
theorem dq_MO_join_128 : decode (fx_cc mq_MO_join) 128 = .ok (.iload_n 2, 1) := by decide +kernel
theorem dq_MO_join_129 : decode (fx_cc mq_MO_join) 129 = .ok (.iload_n 3, 1) := by decide +kernel
theorem dq_MO_join_130 : decode (fx_cc mq_MO_join) 130 = .ok (.invokevirtual 187, 3) := by decide +kernel
theorem dq_MO_join_133 : decode (fx_cc mq_MO_join) 133 = .ok (.istore 5, 2) := by decide +kernel
theorem dq_MO_join_135 : decode (fx_cc mq_MO_join) 135 = .ok (.aload_n 0, 1) := by decide +kernel
theorem dq_MO_join_136 : decode (fx_cc mq_MO_join) 136 = .ok (.iload_n 2, 1) := by decide +kernel
theorem dq_MO_join_137 : decode (fx_cc mq_MO_join) 137 = .ok (.iload_n 3, 1) := by decide +kernel
theorem dq_MO_join_138 : decode (fx_cc mq_MO_join) 138 = .ok (.invokevirtual 191, 3) := by decide +kernel
theorem dq_MO_join_141 : decode (fx_cc mq_MO_join) 141 = .ok (.istore 6, 2) := by decide +kernel
theorem dq_MO_join_143 : decode (fx_cc mq_MO_join) 143 = .ok (.aload_n 0, 1) := by decide +kernel
theorem dq_MO_join_144 : decode (fx_cc mq_MO_join) 144 = .ok (.getfield 78, 3) := by decide +kernel
theorem dq_MO_join_147 : decode (fx_cc mq_MO_join) 147 = .ok (.iload_n 2, 1) := by decide +kernel
theorem dq_MO_join_148 : decode (fx_cc mq_MO_join) 148 = .ok (.aload_n 0, 1) := by decide +kernel
theorem dq_MO_join_149 : decode (fx_cc mq_MO_join) 149 = .ok (.getfield 78, 3) := by decide +kernel
theorem dq_MO_join_152 : decode (fx_cc mq_MO_join) 152 = .ok (.iload_n 2, 1) := by decide +kernel
theorem dq_MO_join_153 : decode (fx_cc mq_MO_join) 153 = .ok (.iaload, 1) := by decide +kernel
theorem dq_MO_join_154 : decode (fx_cc mq_MO_join) 154 = .ok (.aload_n 0, 1) := by decide +kernel
theorem dq_MO_join_155 : decode (fx_cc mq_MO_join) 155 = .ok (.getfield 78, 3) := by decide +kernel
theorem dq_MO_join_158 : decode (fx_cc mq_MO_join) 158 = .ok (.iload_n 3, 1) := by decide +kernel
theorem dq_MO_join_159 : decode (fx_cc mq_MO_join) 159 = .ok (.iaload, 1) := by decide +kernel
theorem dq_MO_join_160 : decode (fx_cc mq_MO_join) 160 = .ok (.if_icmp .ge 12, 3) := by decide +kernel
theorem dq_MO_join_163 : decode (fx_cc mq_MO_join) 163 = .ok (.aload_n 0, 1) := by decide +kernel
theorem dq_MO_join_164 : decode (fx_cc mq_MO_join) 164 = .ok (.getfield 78, 3) := by decide +kernel
theorem dq_MO_join_167 : decode (fx_cc mq_MO_join) 167 = .ok (.iload_n 2, 1) := by decide +kernel
theorem dq_MO_join_168 : decode (fx_cc mq_MO_join) 168 = .ok (.iaload, 1) := by decide +kernel
theorem dq_MO_join_169 : decode (fx_cc mq_MO_join) 169 = .ok (.goto 9, 3) := by decide +kernel
theorem dq_MO_join_172 : decode (fx_cc mq_MO_join) 172 = .ok (.aload_n 0, 1) := by decide +kernel
theorem dq_MO_join_173 : decode (fx_cc mq_MO_join) 173 = .ok (.getfield 78, 3) := by decide +kernel
theorem dq_MO_join_176 : decode (fx_cc mq_MO_join) 176 = .ok (.iload_n 3, 1) := by decide +kernel
theorem dq_MO_join_177 : decode (fx_cc mq_MO_join) 177 = .ok (.iaload, 1) := by decide +kernel
theorem dq_MO_join_178 : decode (fx_cc mq_MO_join) 178 = .ok (.iastore, 1) := by decide +kernel
theorem dq_MO_join_179 : decode (fx_cc mq_MO_join) 179 = .ok (.aload_n 0, 1) := by decide +kernel
theorem dq_MO_join_180 : decode (fx_cc mq_MO_join) 180 = .ok (.getfield 81, 3) := by decide +kernel
theorem dq_MO_join_183 : decode (fx_cc mq_MO_join) 183 = .ok (.iload_n 2, 1) := by decide +kernel
theorem dq_MO_join_184 : decode (fx_cc mq_MO_join) 184 = .ok (.aload_n 0, 1) := by decide +kernel
theorem dq_MO_join_185 : decode (fx_cc mq_MO_join) 185 = .ok (.getfield 81, 3) := by decide +kernel
theorem dq_MO_join_188 : decode (fx_cc mq_MO_join) 188 = .ok (.iload_n 2, 1) := by decide +kernel
theorem dq_MO_join_189 : decode (fx_cc mq_MO_join) 189 = .ok (.iaload, 1) := by decide +kernel
theorem dq_MO_join_190 : decode (fx_cc mq_MO_join) 190 = .ok (.aload_n 0, 1) := by decide +kernel
theorem dq_MO_join_191 : decode (fx_cc mq_MO_join) 191 = .ok (.getfield 81, 3) := by decide +kernel
theorem dq_MO_join_194 : decode (fx_cc mq_MO_join) 194 = .ok (.iload_n 3, 1) := by decide +kernel
theorem dq_MO_join_195 : decode (fx_cc mq_MO_join) 195 = .ok (.iaload, 1) := by decide +kernel
theorem dq_MO_join_196 : decode (fx_cc mq_MO_join) 196 = .ok (.if_icmp .ge 12, 3) := by decide +kernel
theorem dq_MO_join_199 : decode (fx_cc mq_MO_join) 199 = .ok (.aload_n 0, 1) := by decide +kernel
theorem dq_MO_join_200 : decode (fx_cc mq_MO_join) 200 = .ok (.getfield 81, 3) := by decide +kernel
theorem dq_MO_join_203 : decode (fx_cc mq_MO_join) 203 = .ok (.iload_n 2, 1) := by decide +kernel
theorem dq_MO_join_204 : decode (fx_cc mq_MO_join) 204 = .ok (.iaload, 1) := by decide +kernel
theorem dq_MO_join_205 : decode (fx_cc mq_MO_join) 205 = .ok (.goto 9, 3) := by decide +kernel
theorem dq_MO_join_208 : decode (fx_cc mq_MO_join) 208 = .ok (.aload_n 0, 1) := by decide +kernel
theorem dq_MO_join_209 : decode (fx_cc mq_MO_join) 209 = .ok (.getfield 81, 3) := by decide +kernel
theorem dq_MO_join_212 : decode (fx_cc mq_MO_join) 212 = .ok (.iload_n 3, 1) := by decide +kernel
theorem dq_MO_join_213 : decode (fx_cc mq_MO_join) 213 = .ok (.iaload, 1) := by decide +kernel
theorem dq_MO_join_214 : decode (fx_cc mq_MO_join) 214 = .ok (.iastore, 1) := by decide +kernel
theorem dq_MO_join_215 : decode (fx_cc mq_MO_join) 215 = .ok (.aload_n 0, 1) := by decide +kernel
theorem dq_MO_join_216 : decode (fx_cc mq_MO_join) 216 = .ok (.getfield 84, 3) := by decide +kernel
theorem dq_MO_join_219 : decode (fx_cc mq_MO_join) 219 = .ok (.iload_n 2, 1) := by decide +kernel
theorem dq_MO_join_220 : decode (fx_cc mq_MO_join) 220 = .ok (.iload 5, 2) := by decide +kernel
theorem dq_MO_join_222 : decode (fx_cc mq_MO_join) 222 = .ok (.iastore, 1) := by decide +kernel
theorem dq_MO_join_223 : decode (fx_cc mq_MO_join) 223 = .ok (.aload_n 0, 1) := by decide +kernel
theorem dq_MO_join_224 : decode (fx_cc mq_MO_join) 224 = .ok (.getfield 87, 3) := by decide +kernel
theorem dq_MO_join_227 : decode (fx_cc mq_MO_join) 227 = .ok (.iload_n 2, 1) := by decide +kernel
theorem dq_MO_join_228 : decode (fx_cc mq_MO_join) 228 = .ok (.iload 6, 2) := by decide +kernel
theorem dq_MO_join_230 : decode (fx_cc mq_MO_join) 230 = .ok (.iastore, 1) := by decide +kernel
theorem dq_MO_join_231 : decode (fx_cc mq_MO_join) 231 = .ok (.aload_n 0, 1) := by decide +kernel
theorem dq_MO_join_232 : decode (fx_cc mq_MO_join) 232 = .ok (.getfield 75, 3) := by decide +kernel
theorem dq_MO_join_235 : decode (fx_cc mq_MO_join) 235 = .ok (.iload_n 1, 1) := by decide +kernel
theorem dq_MO_join_236 : decode (fx_cc mq_MO_join) 236 = .ok (.bipush 6, 2) := by decide +kernel
theorem dq_MO_join_238 : decode (fx_cc mq_MO_join) 238 = .ok (.iastore, 1) := by decide +kernel
theorem dq_MO_join_239 : decode (fx_cc mq_MO_join) 239 = .ok (.iload_n 3, 1) := by decide +kernel
theorem dq_MO_join_240 : decode (fx_cc mq_MO_join) 240 = .ok (.istore 7, 2) := by decide +kernel
theorem dq_MO_join_242 : decode (fx_cc mq_MO_join) 242 = .ok (.iload 7, 2) := by decide +kernel
theorem dq_MO_join_244 : decode (fx_cc mq_MO_join) 244 = .ok (.bipush 7, 2) := by decide +kernel
theorem dq_MO_join_246 : decode (fx_cc mq_MO_join) 246 = .ok (.iload_n 1, 1) := by decide +kernel
theorem dq_MO_join_247 : decode (fx_cc mq_MO_join) 247 = .ok (.imul, 1) := by decide +kernel
theorem dq_MO_join_248 : decode (fx_cc mq_MO_join) 248 = .ok (.bipush 6, 2) := by decide +kernel
theorem dq_MO_join_250 : decode (fx_cc mq_MO_join) 250 = .ok (.iadd, 1) := by decide +kernel
theorem dq_MO_join_251 : decode (fx_cc mq_MO_join) 251 = .ok (.if_icmp .ge 73, 3) := by decide +kernel
theorem dq_MO_join_254 : decode (fx_cc mq_MO_join) 254 = .ok (.aload_n 0, 1) := by decide +kernel
theorem dq_MO_join_255 : decode (fx_cc mq_MO_join) 255 = .ok (.getfield 78, 3) := by decide +kernel
theorem dq_MO_join_258 : decode (fx_cc mq_MO_join) 258 = .ok (.iload 7, 2) := by decide +kernel
theorem dq_MO_join_260 : decode (fx_cc mq_MO_join) 260 = .ok (.aload_n 0, 1) := by decide +kernel
theorem dq_MO_join_261 : decode (fx_cc mq_MO_join) 261 = .ok (.getfield 78, 3) := by decide +kernel
theorem dq_MO_join_264 : decode (fx_cc mq_MO_join) 264 = .ok (.iload 7, 2) := by decide +kernel
theorem dq_MO_join_266 : decode (fx_cc mq_MO_join) 266 = .ok (.iconst 1, 1) := by decide +kernel
theorem dq_MO_join_267 : decode (fx_cc mq_MO_join) 267 = .ok (.iadd, 1) := by decide +kernel
theorem dq_MO_join_268 : decode (fx_cc mq_MO_join) 268 = .ok (.iaload, 1) := by decide +kernel
theorem dq_MO_join_269 : decode (fx_cc mq_MO_join) 269 = .ok (.iastore, 1) := by decide +kernel
theorem dq_MO_join_270 : decode (fx_cc mq_MO_join) 270 = .ok (.aload_n 0, 1) := by decide +kernel
theorem dq_MO_join_271 : decode (fx_cc mq_MO_join) 271 = .ok (.getfield 81, 3) := by decide +kernel
theorem dq_MO_join_274 : decode (fx_cc mq_MO_join) 274 = .ok (.iload 7, 2) := by decide +kernel
theorem dq_MO_join_276 : decode (fx_cc mq_MO_join) 276 = .ok (.aload_n 0, 1) := by decide +kernel
theorem dq_MO_join_277 : decode (fx_cc mq_MO_join) 277 = .ok (.getfield 81, 3) := by decide +kernel
theorem dq_MO_join_280 : decode (fx_cc mq_MO_join) 280 = .ok (.iload 7, 2) := by decide +kernel
theorem dq_MO_join_282 : decode (fx_cc mq_MO_join) 282 = .ok (.iconst 1, 1) := by decide +kernel
theorem dq_MO_join_283 : decode (fx_cc mq_MO_join) 283 = .ok (.iadd, 1) := by decide +kernel
theorem dq_MO_join_284 : decode (fx_cc mq_MO_join) 284 = .ok (.iaload, 1) := by decide +kernel
theorem dq_MO_join_285 : decode (fx_cc mq_MO_join) 285 = .ok (.iastore, 1) := by decide +kernel
theorem dq_MO_join_286 : decode (fx_cc mq_MO_join) 286 = .ok (.aload_n 0, 1) := by decide +kernel
theorem dq_MO_join_287 : decode (fx_cc mq_MO_join) 287 = .ok (.getfield 84, 3) := by decide +kernel
theorem dq_MO_join_290 : decode (fx_cc mq_MO_join) 290 = .ok (.iload 7, 2) := by decide +kernel
theorem dq_MO_join_292 : decode (fx_cc mq_MO_join) 292 = .ok (.aload_n 0, 1) := by decide +kernel
theorem dq_MO_join_293 : decode (fx_cc mq_MO_join) 293 = .ok (.getfield 84, 3) := by decide +kernel
theorem dq_MO_join_296 : decode (fx_cc mq_MO_join) 296 = .ok (.iload 7, 2) := by decide +kernel
theorem dq_MO_join_298 : decode (fx_cc mq_MO_join) 298 = .ok (.iconst 1, 1) := by decide +kernel
theorem dq_MO_join_299 : decode (fx_cc mq_MO_join) 299 = .ok (.iadd, 1) := by decide +kernel
theorem dq_MO_join_300 : decode (fx_cc mq_MO_join) 300 = .ok (.iaload, 1) := by decide +kernel
theorem dq_MO_join_301 : decode (fx_cc mq_MO_join) 301 = .ok (.iastore, 1) := by decide +kernel
theorem dq_MO_join_302 : decode (fx_cc mq_MO_join) 302 = .ok (.aload_n 0, 1) := by decide +kernel
theorem dq_MO_join_303 : decode (fx_cc mq_MO_join) 303 = .ok (.getfield 87, 3) := by decide +kernel
theorem dq_MO_join_306 : decode (fx_cc mq_MO_join) 306 = .ok (.iload 7, 2) := by decide +kernel
theorem dq_MO_join_308 : decode (fx_cc mq_MO_join) 308 = .ok (.aload_n 0, 1) := by decide +kernel
theorem dq_MO_join_309 : decode (fx_cc mq_MO_join) 309 = .ok (.getfield 87, 3) := by decide +kernel
theorem dq_MO_join_312 : decode (fx_cc mq_MO_join) 312 = .ok (.iload 7, 2) := by decide +kernel
theorem dq_MO_join_314 : decode (fx_cc mq_MO_join) 314 = .ok (.iconst 1, 1) := by decide +kernel
theorem dq_MO_join_315 : decode (fx_cc mq_MO_join) 315 = .ok (.iadd, 1) := by decide +kernel
theorem dq_MO_join_316 : decode (fx_cc mq_MO_join) 316 = .ok (.iaload, 1) := by decide +kernel
theorem dq_MO_join_317 : decode (fx_cc mq_MO_join) 317 = .ok (.iastore, 1) := by decide +kernel
theorem dq_MO_join_318 : decode (fx_cc mq_MO_join) 318 = .ok (.iinc 7 1, 3) := by decide +kernel
theorem dq_MO_join_321 : decode (fx_cc mq_MO_join) 321 = .ok (.goto (-79), 3) := by decide +kernel
theorem dq_MO_join_324 : decode (fx_cc mq_MO_join) 324 = .ok (.return_, 1) := by decide +kernel
theorem dq_MO_hullWide_0 : decode (fx_cc mq_MO_hullWide) 0 = .ok (.aload_n 0, 1) := by decide +kernel
theorem dq_MO_hullWide_1 : decode (fx_cc mq_MO_hullWide) 1 = .ok (.getfield 78, 3) := by decide +kernel
theorem dq_MO_hullWide_4 : decode (fx_cc mq_MO_hullWide) 4 = .ok (.iload_n 1, 1) := by decide +kernel
theorem dq_MO_hullWide_5 : decode (fx_cc mq_MO_hullWide) 5 = .ok (.iaload, 1) := by decide +kernel
theorem dq_MO_hullWide_6 : decode (fx_cc mq_MO_hullWide) 6 = .ok (.aload_n 0, 1) := by decide +kernel
theorem dq_MO_hullWide_7 : decode (fx_cc mq_MO_hullWide) 7 = .ok (.getfield 78, 3) := by decide +kernel
theorem dq_MO_hullWide_10 : decode (fx_cc mq_MO_hullWide) 10 = .ok (.iload_n 2, 1) := by decide +kernel
theorem dq_MO_hullWide_11 : decode (fx_cc mq_MO_hullWide) 11 = .ok (.iaload, 1) := by decide +kernel
theorem dq_MO_hullWide_12 : decode (fx_cc mq_MO_hullWide) 12 = .ok (.if_icmp .ge 12, 3) := by decide +kernel
theorem dq_MO_hullWide_15 : decode (fx_cc mq_MO_hullWide) 15 = .ok (.aload_n 0, 1) := by decide +kernel
theorem dq_MO_hullWide_16 : decode (fx_cc mq_MO_hullWide) 16 = .ok (.getfield 78, 3) := by decide +kernel
theorem dq_MO_hullWide_19 : decode (fx_cc mq_MO_hullWide) 19 = .ok (.iload_n 1, 1) := by decide +kernel
theorem dq_MO_hullWide_20 : decode (fx_cc mq_MO_hullWide) 20 = .ok (.iaload, 1) := by decide +kernel
theorem dq_MO_hullWide_21 : decode (fx_cc mq_MO_hullWide) 21 = .ok (.goto 9, 3) := by decide +kernel
theorem dq_MO_hullWide_24 : decode (fx_cc mq_MO_hullWide) 24 = .ok (.aload_n 0, 1) := by decide +kernel
theorem dq_MO_hullWide_25 : decode (fx_cc mq_MO_hullWide) 25 = .ok (.getfield 78, 3) := by decide +kernel
theorem dq_MO_hullWide_28 : decode (fx_cc mq_MO_hullWide) 28 = .ok (.iload_n 2, 1) := by decide +kernel
theorem dq_MO_hullWide_29 : decode (fx_cc mq_MO_hullWide) 29 = .ok (.iaload, 1) := by decide +kernel
theorem dq_MO_hullWide_30 : decode (fx_cc mq_MO_hullWide) 30 = .ok (.istore_n 3, 1) := by decide +kernel
theorem dq_MO_hullWide_31 : decode (fx_cc mq_MO_hullWide) 31 = .ok (.aload_n 0, 1) := by decide +kernel
theorem dq_MO_hullWide_32 : decode (fx_cc mq_MO_hullWide) 32 = .ok (.getfield 78, 3) := by decide +kernel
theorem dq_MO_hullWide_35 : decode (fx_cc mq_MO_hullWide) 35 = .ok (.iload_n 1, 1) := by decide +kernel
theorem dq_MO_hullWide_36 : decode (fx_cc mq_MO_hullWide) 36 = .ok (.iaload, 1) := by decide +kernel
theorem dq_MO_hullWide_37 : decode (fx_cc mq_MO_hullWide) 37 = .ok (.aload_n 0, 1) := by decide +kernel
theorem dq_MO_hullWide_38 : decode (fx_cc mq_MO_hullWide) 38 = .ok (.getfield 84, 3) := by decide +kernel
theorem dq_MO_hullWide_41 : decode (fx_cc mq_MO_hullWide) 41 = .ok (.iload_n 1, 1) := by decide +kernel
theorem dq_MO_hullWide_42 : decode (fx_cc mq_MO_hullWide) 42 = .ok (.iaload, 1) := by decide +kernel
theorem dq_MO_hullWide_43 : decode (fx_cc mq_MO_hullWide) 43 = .ok (.iadd, 1) := by decide +kernel
theorem dq_MO_hullWide_44 : decode (fx_cc mq_MO_hullWide) 44 = .ok (.aload_n 0, 1) := by decide +kernel
theorem dq_MO_hullWide_45 : decode (fx_cc mq_MO_hullWide) 45 = .ok (.getfield 78, 3) := by decide +kernel
theorem dq_MO_hullWide_48 : decode (fx_cc mq_MO_hullWide) 48 = .ok (.iload_n 2, 1) := by decide +kernel
theorem dq_MO_hullWide_49 : decode (fx_cc mq_MO_hullWide) 49 = .ok (.iaload, 1) := by decide +kernel
theorem dq_MO_hullWide_50 : decode (fx_cc mq_MO_hullWide) 50 = .ok (.aload_n 0, 1) := by decide +kernel
theorem dq_MO_hullWide_51 : decode (fx_cc mq_MO_hullWide) 51 = .ok (.getfield 84, 3) := by decide +kernel
theorem dq_MO_hullWide_54 : decode (fx_cc mq_MO_hullWide) 54 = .ok (.iload_n 2, 1) := by decide +kernel
theorem dq_MO_hullWide_55 : decode (fx_cc mq_MO_hullWide) 55 = .ok (.iaload, 1) := by decide +kernel
theorem dq_MO_hullWide_56 : decode (fx_cc mq_MO_hullWide) 56 = .ok (.iadd, 1) := by decide +kernel
theorem dq_MO_hullWide_57 : decode (fx_cc mq_MO_hullWide) 57 = .ok (.if_icmp .le 19, 3) := by decide +kernel
theorem dq_MO_hullWide_60 : decode (fx_cc mq_MO_hullWide) 60 = .ok (.aload_n 0, 1) := by decide +kernel
theorem dq_MO_hullWide_61 : decode (fx_cc mq_MO_hullWide) 61 = .ok (.getfield 78, 3) := by decide +kernel
theorem dq_MO_hullWide_64 : decode (fx_cc mq_MO_hullWide) 64 = .ok (.iload_n 1, 1) := by decide +kernel
theorem dq_MO_hullWide_65 : decode (fx_cc mq_MO_hullWide) 65 = .ok (.iaload, 1) := by decide +kernel
theorem dq_MO_hullWide_66 : decode (fx_cc mq_MO_hullWide) 66 = .ok (.aload_n 0, 1) := by decide +kernel
theorem dq_MO_hullWide_67 : decode (fx_cc mq_MO_hullWide) 67 = .ok (.getfield 84, 3) := by decide +kernel
theorem dq_MO_hullWide_70 : decode (fx_cc mq_MO_hullWide) 70 = .ok (.iload_n 1, 1) := by decide +kernel
theorem dq_MO_hullWide_71 : decode (fx_cc mq_MO_hullWide) 71 = .ok (.iaload, 1) := by decide +kernel
theorem dq_MO_hullWide_72 : decode (fx_cc mq_MO_hullWide) 72 = .ok (.iadd, 1) := by decide +kernel
theorem dq_MO_hullWide_73 : decode (fx_cc mq_MO_hullWide) 73 = .ok (.goto 16, 3) := by decide +kernel
theorem dq_MO_hullWide_76 : decode (fx_cc mq_MO_hullWide) 76 = .ok (.aload_n 0, 1) := by decide +kernel
theorem dq_MO_hullWide_77 : decode (fx_cc mq_MO_hullWide) 77 = .ok (.getfield 78, 3) := by decide +kernel
theorem dq_MO_hullWide_80 : decode (fx_cc mq_MO_hullWide) 80 = .ok (.iload_n 2, 1) := by decide +kernel
theorem dq_MO_hullWide_81 : decode (fx_cc mq_MO_hullWide) 81 = .ok (.iaload, 1) := by decide +kernel
theorem dq_MO_hullWide_82 : decode (fx_cc mq_MO_hullWide) 82 = .ok (.aload_n 0, 1) := by decide +kernel
theorem dq_MO_hullWide_83 : decode (fx_cc mq_MO_hullWide) 83 = .ok (.getfield 84, 3) := by decide +kernel
theorem dq_MO_hullWide_86 : decode (fx_cc mq_MO_hullWide) 86 = .ok (.iload_n 2, 1) := by decide +kernel
theorem dq_MO_hullWide_87 : decode (fx_cc mq_MO_hullWide) 87 = .ok (.iaload, 1) := by decide +kernel
theorem dq_MO_hullWide_88 : decode (fx_cc mq_MO_hullWide) 88 = .ok (.iadd, 1) := by decide +kernel
theorem dq_MO_hullWide_89 : decode (fx_cc mq_MO_hullWide) 89 = .ok (.istore 4, 2) := by decide +kernel
theorem dq_MO_hullWide_91 : decode (fx_cc mq_MO_hullWide) 91 = .ok (.iload 4, 2) := by decide +kernel
theorem dq_MO_hullWide_93 : decode (fx_cc mq_MO_hullWide) 93 = .ok (.iload_n 3, 1) := by decide +kernel
theorem dq_MO_hullWide_94 : decode (fx_cc mq_MO_hullWide) 94 = .ok (.isub, 1) := by decide +kernel
theorem dq_MO_hullWide_95 : decode (fx_cc mq_MO_hullWide) 95 = .ok (.ireturn, 1) := by decide +kernel
theorem dq_MO_hullHigh_0 : decode (fx_cc mq_MO_hullHigh) 0 = .ok (.aload_n 0, 1) := by decide +kernel
theorem dq_MO_hullHigh_1 : decode (fx_cc mq_MO_hullHigh) 1 = .ok (.getfield 81, 3) := by decide +kernel
theorem dq_MO_hullHigh_4 : decode (fx_cc mq_MO_hullHigh) 4 = .ok (.iload_n 1, 1) := by decide +kernel
theorem dq_MO_hullHigh_5 : decode (fx_cc mq_MO_hullHigh) 5 = .ok (.iaload, 1) := by decide +kernel
theorem dq_MO_hullHigh_6 : decode (fx_cc mq_MO_hullHigh) 6 = .ok (.aload_n 0, 1) := by decide +kernel
theorem dq_MO_hullHigh_7 : decode (fx_cc mq_MO_hullHigh) 7 = .ok (.getfield 81, 3) := by decide +kernel
theorem dq_MO_hullHigh_10 : decode (fx_cc mq_MO_hullHigh) 10 = .ok (.iload_n 2, 1) := by decide +kernel
theorem dq_MO_hullHigh_11 : decode (fx_cc mq_MO_hullHigh) 11 = .ok (.iaload, 1) := by decide +kernel
theorem dq_MO_hullHigh_12 : decode (fx_cc mq_MO_hullHigh) 12 = .ok (.if_icmp .ge 12, 3) := by decide +kernel
theorem dq_MO_hullHigh_15 : decode (fx_cc mq_MO_hullHigh) 15 = .ok (.aload_n 0, 1) := by decide +kernel
theorem dq_MO_hullHigh_16 : decode (fx_cc mq_MO_hullHigh) 16 = .ok (.getfield 81, 3) := by decide +kernel
theorem dq_MO_hullHigh_19 : decode (fx_cc mq_MO_hullHigh) 19 = .ok (.iload_n 1, 1) := by decide +kernel
theorem dq_MO_hullHigh_20 : decode (fx_cc mq_MO_hullHigh) 20 = .ok (.iaload, 1) := by decide +kernel
theorem dq_MO_hullHigh_21 : decode (fx_cc mq_MO_hullHigh) 21 = .ok (.goto 9, 3) := by decide +kernel
theorem dq_MO_hullHigh_24 : decode (fx_cc mq_MO_hullHigh) 24 = .ok (.aload_n 0, 1) := by decide +kernel
theorem dq_MO_hullHigh_25 : decode (fx_cc mq_MO_hullHigh) 25 = .ok (.getfield 81, 3) := by decide +kernel
theorem dq_MO_hullHigh_28 : decode (fx_cc mq_MO_hullHigh) 28 = .ok (.iload_n 2, 1) := by decide +kernel
theorem dq_MO_hullHigh_29 : decode (fx_cc mq_MO_hullHigh) 29 = .ok (.iaload, 1) := by decide +kernel
theorem dq_MO_hullHigh_30 : decode (fx_cc mq_MO_hullHigh) 30 = .ok (.istore_n 3, 1) := by decide +kernel
theorem dq_MO_hullHigh_31 : decode (fx_cc mq_MO_hullHigh) 31 = .ok (.aload_n 0, 1) := by decide +kernel
theorem dq_MO_hullHigh_32 : decode (fx_cc mq_MO_hullHigh) 32 = .ok (.getfield 81, 3) := by decide +kernel
theorem dq_MO_hullHigh_35 : decode (fx_cc mq_MO_hullHigh) 35 = .ok (.iload_n 1, 1) := by decide +kernel
theorem dq_MO_hullHigh_36 : decode (fx_cc mq_MO_hullHigh) 36 = .ok (.iaload, 1) := by decide +kernel
theorem dq_MO_hullHigh_37 : decode (fx_cc mq_MO_hullHigh) 37 = .ok (.aload_n 0, 1) := by decide +kernel
theorem dq_MO_hullHigh_38 : decode (fx_cc mq_MO_hullHigh) 38 = .ok (.getfield 87, 3) := by decide +kernel
theorem dq_MO_hullHigh_41 : decode (fx_cc mq_MO_hullHigh) 41 = .ok (.iload_n 1, 1) := by decide +kernel
theorem dq_MO_hullHigh_42 : decode (fx_cc mq_MO_hullHigh) 42 = .ok (.iaload, 1) := by decide +kernel
theorem dq_MO_hullHigh_43 : decode (fx_cc mq_MO_hullHigh) 43 = .ok (.iadd, 1) := by decide +kernel
theorem dq_MO_hullHigh_44 : decode (fx_cc mq_MO_hullHigh) 44 = .ok (.aload_n 0, 1) := by decide +kernel
theorem dq_MO_hullHigh_45 : decode (fx_cc mq_MO_hullHigh) 45 = .ok (.getfield 81, 3) := by decide +kernel
theorem dq_MO_hullHigh_48 : decode (fx_cc mq_MO_hullHigh) 48 = .ok (.iload_n 2, 1) := by decide +kernel
theorem dq_MO_hullHigh_49 : decode (fx_cc mq_MO_hullHigh) 49 = .ok (.iaload, 1) := by decide +kernel
theorem dq_MO_hullHigh_50 : decode (fx_cc mq_MO_hullHigh) 50 = .ok (.aload_n 0, 1) := by decide +kernel
theorem dq_MO_hullHigh_51 : decode (fx_cc mq_MO_hullHigh) 51 = .ok (.getfield 87, 3) := by decide +kernel
theorem dq_MO_hullHigh_54 : decode (fx_cc mq_MO_hullHigh) 54 = .ok (.iload_n 2, 1) := by decide +kernel
theorem dq_MO_hullHigh_55 : decode (fx_cc mq_MO_hullHigh) 55 = .ok (.iaload, 1) := by decide +kernel
theorem dq_MO_hullHigh_56 : decode (fx_cc mq_MO_hullHigh) 56 = .ok (.iadd, 1) := by decide +kernel
theorem dq_MO_hullHigh_57 : decode (fx_cc mq_MO_hullHigh) 57 = .ok (.if_icmp .le 19, 3) := by decide +kernel
theorem dq_MO_hullHigh_60 : decode (fx_cc mq_MO_hullHigh) 60 = .ok (.aload_n 0, 1) := by decide +kernel
theorem dq_MO_hullHigh_61 : decode (fx_cc mq_MO_hullHigh) 61 = .ok (.getfield 81, 3) := by decide +kernel
theorem dq_MO_hullHigh_64 : decode (fx_cc mq_MO_hullHigh) 64 = .ok (.iload_n 1, 1) := by decide +kernel
theorem dq_MO_hullHigh_65 : decode (fx_cc mq_MO_hullHigh) 65 = .ok (.iaload, 1) := by decide +kernel
theorem dq_MO_hullHigh_66 : decode (fx_cc mq_MO_hullHigh) 66 = .ok (.aload_n 0, 1) := by decide +kernel
theorem dq_MO_hullHigh_67 : decode (fx_cc mq_MO_hullHigh) 67 = .ok (.getfield 87, 3) := by decide +kernel
theorem dq_MO_hullHigh_70 : decode (fx_cc mq_MO_hullHigh) 70 = .ok (.iload_n 1, 1) := by decide +kernel
theorem dq_MO_hullHigh_71 : decode (fx_cc mq_MO_hullHigh) 71 = .ok (.iaload, 1) := by decide +kernel
theorem dq_MO_hullHigh_72 : decode (fx_cc mq_MO_hullHigh) 72 = .ok (.iadd, 1) := by decide +kernel
theorem dq_MO_hullHigh_73 : decode (fx_cc mq_MO_hullHigh) 73 = .ok (.goto 16, 3) := by decide +kernel
theorem dq_MO_hullHigh_76 : decode (fx_cc mq_MO_hullHigh) 76 = .ok (.aload_n 0, 1) := by decide +kernel
theorem dq_MO_hullHigh_77 : decode (fx_cc mq_MO_hullHigh) 77 = .ok (.getfield 81, 3) := by decide +kernel
theorem dq_MO_hullHigh_80 : decode (fx_cc mq_MO_hullHigh) 80 = .ok (.iload_n 2, 1) := by decide +kernel
theorem dq_MO_hullHigh_81 : decode (fx_cc mq_MO_hullHigh) 81 = .ok (.iaload, 1) := by decide +kernel
theorem dq_MO_hullHigh_82 : decode (fx_cc mq_MO_hullHigh) 82 = .ok (.aload_n 0, 1) := by decide +kernel
theorem dq_MO_hullHigh_83 : decode (fx_cc mq_MO_hullHigh) 83 = .ok (.getfield 87, 3) := by decide +kernel
theorem dq_MO_hullHigh_86 : decode (fx_cc mq_MO_hullHigh) 86 = .ok (.iload_n 2, 1) := by decide +kernel
theorem dq_MO_hullHigh_87 : decode (fx_cc mq_MO_hullHigh) 87 = .ok (.iaload, 1) := by decide +kernel
theorem dq_MO_hullHigh_88 : decode (fx_cc mq_MO_hullHigh) 88 = .ok (.iadd, 1) := by decide +kernel
theorem dq_MO_hullHigh_89 : decode (fx_cc mq_MO_hullHigh) 89 = .ok (.istore 4, 2) := by decide +kernel
theorem dq_MO_hullHigh_91 : decode (fx_cc mq_MO_hullHigh) 91 = .ok (.iload 4, 2) := by decide +kernel
theorem dq_MO_hullHigh_93 : decode (fx_cc mq_MO_hullHigh) 93 = .ok (.iload_n 3, 1) := by decide +kernel
theorem dq_MO_hullHigh_94 : decode (fx_cc mq_MO_hullHigh) 94 = .ok (.isub, 1) := by decide +kernel
theorem dq_MO_hullHigh_95 : decode (fx_cc mq_MO_hullHigh) 95 = .ok (.ireturn, 1) := by decide +kernel
theorem dq_MO_findStep_0 : decode (fx_cc mq_MO_findStep) 0 = .ok (.iconst 0, 1) := by decide +kernel
theorem dq_MO_findStep_1 : decode (fx_cc mq_MO_findStep) 1 = .ok (.istore_n 1, 1) := by decide +kernel
theorem dq_MO_findStep_2 : decode (fx_cc mq_MO_findStep) 2 = .ok (.iload_n 1, 1) := by decide +kernel
theorem dq_MO_findStep_3 : decode (fx_cc mq_MO_findStep) 3 = .ok (.ifCond .ne 110, 3) := by decide +kernel
theorem dq_MO_findStep_6 : decode (fx_cc mq_MO_findStep) 6 = .ok (.aload_n 0, 1) := by decide +kernel
theorem dq_MO_findStep_7 : decode (fx_cc mq_MO_findStep) 7 = .ok (.getfield 219, 3) := by decide +kernel
theorem dq_MO_findStep_10 : decode (fx_cc mq_MO_findStep) 10 = .ok (.aload_n 0, 1) := by decide +kernel
theorem dq_MO_findStep_11 : decode (fx_cc mq_MO_findStep) 11 = .ok (.getfield 75, 3) := by decide +kernel
theorem dq_MO_findStep_14 : decode (fx_cc mq_MO_findStep) 14 = .ok (.aload_n 0, 1) := by decide +kernel
theorem dq_MO_findStep_15 : decode (fx_cc mq_MO_findStep) 15 = .ok (.getfield 68, 3) := by decide +kernel
theorem dq_MO_findStep_18 : decode (fx_cc mq_MO_findStep) 18 = .ok (.iaload, 1) := by decide +kernel
theorem dq_MO_findStep_19 : decode (fx_cc mq_MO_findStep) 19 = .ok (.if_icmp .ge 94, 3) := by decide +kernel
theorem dq_MO_findStep_22 : decode (fx_cc mq_MO_findStep) 22 = .ok (.aload_n 0, 1) := by decide +kernel
theorem dq_MO_findStep_23 : decode (fx_cc mq_MO_findStep) 23 = .ok (.getfield 222, 3) := by decide +kernel
theorem dq_MO_findStep_26 : decode (fx_cc mq_MO_findStep) 26 = .ok (.ifCond .ne 7, 3) := by decide +kernel
theorem dq_MO_findStep_29 : decode (fx_cc mq_MO_findStep) 29 = .ok (.iconst 1, 1) := by decide +kernel
theorem dq_MO_findStep_30 : decode (fx_cc mq_MO_findStep) 30 = .ok (.goto 4, 3) := by decide +kernel
theorem dq_MO_findStep_33 : decode (fx_cc mq_MO_findStep) 33 = .ok (.iconst 0, 1) := by decide +kernel
theorem dq_MO_findStep_34 : decode (fx_cc mq_MO_findStep) 34 = .ok (.istore_n 1, 1) := by decide +kernel
theorem dq_MO_findStep_35 : decode (fx_cc mq_MO_findStep) 35 = .ok (.iload_n 1, 1) := by decide +kernel
theorem dq_MO_findStep_36 : decode (fx_cc mq_MO_findStep) 36 = .ok (.ifCond .ne 52, 3) := by decide +kernel
theorem dq_MO_findStep_39 : decode (fx_cc mq_MO_findStep) 39 = .ok (.aload_n 0, 1) := by decide +kernel
theorem dq_MO_findStep_40 : decode (fx_cc mq_MO_findStep) 40 = .ok (.getfield 222, 3) := by decide +kernel
theorem dq_MO_findStep_43 : decode (fx_cc mq_MO_findStep) 43 = .ok (.bipush 10, 2) := by decide +kernel
theorem dq_MO_findStep_45 : decode (fx_cc mq_MO_findStep) 45 = .ok (.if_icmp .gt 43, 3) := by decide +kernel
theorem dq_MO_findStep_48 : decode (fx_cc mq_MO_findStep) 48 = .ok (.aload_n 0, 1) := by decide +kernel
theorem dq_MO_findStep_49 : decode (fx_cc mq_MO_findStep) 49 = .ok (.aload_n 0, 1) := by decide +kernel
theorem dq_MO_findStep_50 : decode (fx_cc mq_MO_findStep) 50 = .ok (.getfield 222, 3) := by decide +kernel
theorem dq_MO_findStep_53 : decode (fx_cc mq_MO_findStep) 53 = .ok (.iconst 1, 1) := by decide +kernel
theorem dq_MO_findStep_54 : decode (fx_cc mq_MO_findStep) 54 = .ok (.isub, 1) := by decide +kernel
theorem dq_MO_findStep_55 : decode (fx_cc mq_MO_findStep) 55 = .ok (.invokevirtual 232, 3) := by decide +kernel
theorem dq_MO_findStep_58 : decode (fx_cc mq_MO_findStep) 58 = .ok (.aload_n 0, 1) := by decide +kernel
theorem dq_MO_findStep_59 : decode (fx_cc mq_MO_findStep) 59 = .ok (.getfield 144, 3) := by decide +kernel
theorem dq_MO_findStep_62 : decode (fx_cc mq_MO_findStep) 62 = .ok (.ifCond .le 7, 3) := by decide +kernel
theorem dq_MO_findStep_65 : decode (fx_cc mq_MO_findStep) 65 = .ok (.iconst 1, 1) := by decide +kernel
theorem dq_MO_findStep_66 : decode (fx_cc mq_MO_findStep) 66 = .ok (.goto 4, 3) := by decide +kernel
theorem dq_MO_findStep_69 : decode (fx_cc mq_MO_findStep) 69 = .ok (.iconst 0, 1) := by decide +kernel
theorem dq_MO_findStep_70 : decode (fx_cc mq_MO_findStep) 70 = .ok (.istore_n 1, 1) := by decide +kernel
theorem dq_MO_findStep_71 : decode (fx_cc mq_MO_findStep) 71 = .ok (.iload_n 1, 1) := by decide +kernel
theorem dq_MO_findStep_72 : decode (fx_cc mq_MO_findStep) 72 = .ok (.ifCond .ne (-37), 3) := by decide +kernel
theorem dq_MO_findStep_75 : decode (fx_cc mq_MO_findStep) 75 = .ok (.aload_n 0, 1) := by decide +kernel
theorem dq_MO_findStep_76 : decode (fx_cc mq_MO_findStep) 76 = .ok (.dup, 1) := by decide +kernel
theorem dq_MO_findStep_77 : decode (fx_cc mq_MO_findStep) 77 = .ok (.getfield 222, 3) := by decide +kernel
theorem dq_MO_findStep_80 : decode (fx_cc mq_MO_findStep) 80 = .ok (.iconst 1, 1) := by decide +kernel
theorem dq_MO_findStep_81 : decode (fx_cc mq_MO_findStep) 81 = .ok (.iadd, 1) := by decide +kernel
theorem dq_MO_findStep_82 : decode (fx_cc mq_MO_findStep) 82 = .ok (.putfield 222, 3) := by decide +kernel
theorem dq_MO_findStep_85 : decode (fx_cc mq_MO_findStep) 85 = .ok (.goto (-50), 3) := by decide +kernel
theorem dq_MO_findStep_88 : decode (fx_cc mq_MO_findStep) 88 = .ok (.iload_n 1, 1) := by decide +kernel
theorem dq_MO_findStep_89 : decode (fx_cc mq_MO_findStep) 89 = .ok (.ifCond .eq 6, 3) := by decide +kernel
theorem dq_MO_findStep_92 : decode (fx_cc mq_MO_findStep) 92 = .ok (.goto (-90), 3) := by decide +kernel
theorem dq_MO_findStep_95 : decode (fx_cc mq_MO_findStep) 95 = .ok (.aload_n 0, 1) := by decide +kernel
theorem dq_MO_findStep_96 : decode (fx_cc mq_MO_findStep) 96 = .ok (.dup, 1) := by decide +kernel
theorem dq_MO_findStep_97 : decode (fx_cc mq_MO_findStep) 97 = .ok (.getfield 219, 3) := by decide +kernel
theorem dq_MO_findStep_100 : decode (fx_cc mq_MO_findStep) 100 = .ok (.iconst 1, 1) := by decide +kernel
theorem dq_MO_findStep_101 : decode (fx_cc mq_MO_findStep) 101 = .ok (.iadd, 1) := by decide +kernel
theorem dq_MO_findStep_102 : decode (fx_cc mq_MO_findStep) 102 = .ok (.putfield 219, 3) := by decide +kernel
theorem dq_MO_findStep_105 : decode (fx_cc mq_MO_findStep) 105 = .ok (.aload_n 0, 1) := by decide +kernel
theorem dq_MO_findStep_106 : decode (fx_cc mq_MO_findStep) 106 = .ok (.iconst 0, 1) := by decide +kernel
theorem dq_MO_findStep_107 : decode (fx_cc mq_MO_findStep) 107 = .ok (.putfield 222, 3) := by decide +kernel
theorem dq_MO_findStep_110 : decode (fx_cc mq_MO_findStep) 110 = .ok (.goto (-108), 3) := by decide +kernel
theorem dq_MO_findStep_113 : decode (fx_cc mq_MO_findStep) 113 = .ok (.iload_n 1, 1) := by decide +kernel
theorem dq_MO_findStep_114 : decode (fx_cc mq_MO_findStep) 114 = .ok (.ifCond .eq 4, 3) := by decide +kernel
theorem dq_MO_findStep_117 : decode (fx_cc mq_MO_findStep) 117 = .ok (.return_, 1) := by decide +kernel
theorem dq_MO_findStep_118 : decode (fx_cc mq_MO_findStep) 118 = .ok (.aload_n 0, 1) := by decide +kernel
theorem dq_MO_findStep_119 : decode (fx_cc mq_MO_findStep) 119 = .ok (.getfield 75, 3) := by decide +kernel
theorem dq_MO_findStep_122 : decode (fx_cc mq_MO_findStep) 122 = .ok (.aload_n 0, 1) := by decide +kernel
theorem dq_MO_findStep_123 : decode (fx_cc mq_MO_findStep) 123 = .ok (.getfield 68, 3) := by decide +kernel
theorem dq_MO_findStep_126 : decode (fx_cc mq_MO_findStep) 126 = .ok (.iconst 0, 1) := by decide +kernel
theorem dq_MO_findStep_127 : decode (fx_cc mq_MO_findStep) 127 = .ok (.iastore, 1) := by decide +kernel
theorem dq_MO_findStep_128 : decode (fx_cc mq_MO_findStep) 128 = .ok (.aload_n 0, 1) := by decide +kernel
theorem dq_MO_findStep_129 : decode (fx_cc mq_MO_findStep) 129 = .ok (.iconst 2, 1) := by decide +kernel
theorem dq_MO_findStep_130 : decode (fx_cc mq_MO_findStep) 130 = .ok (.putfield 216, 3) := by decide +kernel
theorem dq_MO_findStep_133 : decode (fx_cc mq_MO_findStep) 133 = .ok (.return_, 1) := by decide +kernel
theorem dq_MO_meet_0 : decode (fx_cc mq_MO_meet) 0 = .ok (.aload_n 0, 1) := by decide +kernel
theorem dq_MO_meet_1 : decode (fx_cc mq_MO_meet) 1 = .ok (.bipush 20, 2) := by decide +kernel
theorem dq_MO_meet_3 : decode (fx_cc mq_MO_meet) 3 = .ok (.iload_n 1, 1) := by decide +kernel
theorem dq_MO_meet_4 : decode (fx_cc mq_MO_meet) 4 = .ok (.invokevirtual 201, 3) := by decide +kernel
theorem dq_MO_meet_7 : decode (fx_cc mq_MO_meet) 7 = .ok (.istore_n 2, 1) := by decide +kernel
theorem dq_MO_meet_8 : decode (fx_cc mq_MO_meet) 8 = .ok (.aload_n 0, 1) := by decide +kernel
theorem dq_MO_meet_9 : decode (fx_cc mq_MO_meet) 9 = .ok (.iconst 0, 1) := by decide +kernel
theorem dq_MO_meet_10 : decode (fx_cc mq_MO_meet) 10 = .ok (.putfield 144, 3) := by decide +kernel
theorem dq_MO_meet_13 : decode (fx_cc mq_MO_meet) 13 = .ok (.iload_n 2, 1) := by decide +kernel
theorem dq_MO_meet_14 : decode (fx_cc mq_MO_meet) 14 = .ok (.ifCond .lt 14, 3) := by decide +kernel
theorem dq_MO_meet_17 : decode (fx_cc mq_MO_meet) 17 = .ok (.aload_n 0, 1) := by decide +kernel
theorem dq_MO_meet_18 : decode (fx_cc mq_MO_meet) 18 = .ok (.iload_n 2, 1) := by decide +kernel
theorem dq_MO_meet_19 : decode (fx_cc mq_MO_meet) 19 = .ok (.bipush 20, 2) := by decide +kernel
theorem dq_MO_meet_21 : decode (fx_cc mq_MO_meet) 21 = .ok (.isub, 1) := by decide +kernel
theorem dq_MO_meet_22 : decode (fx_cc mq_MO_meet) 22 = .ok (.invokevirtual 207, 3) := by decide +kernel
theorem dq_MO_meet_25 : decode (fx_cc mq_MO_meet) 25 = .ok (.ifCond .eq 4, 3) := by decide +kernel
theorem dq_MO_meet_28 : decode (fx_cc mq_MO_meet) 28 = .ok (.return_, 1) := by decide +kernel
theorem dq_MO_meet_29 : decode (fx_cc mq_MO_meet) 29 = .ok (.aload_n 0, 1) := by decide +kernel
theorem dq_MO_meet_30 : decode (fx_cc mq_MO_meet) 30 = .ok (.iload_n 2, 1) := by decide +kernel
theorem dq_MO_meet_31 : decode (fx_cc mq_MO_meet) 31 = .ok (.invokevirtual 204, 3) := by decide +kernel
theorem dq_MO_meet_34 : decode (fx_cc mq_MO_meet) 34 = .ok (.aload_n 0, 1) := by decide +kernel
theorem dq_MO_meet_35 : decode (fx_cc mq_MO_meet) 35 = .ok (.getfield 144, 3) := by decide +kernel
theorem dq_MO_meet_38 : decode (fx_cc mq_MO_meet) 38 = .ok (.ifCond .ne 4, 3) := by decide +kernel
theorem dq_MO_meet_41 : decode (fx_cc mq_MO_meet) 41 = .ok (.return_, 1) := by decide +kernel
theorem dq_MO_meet_42 : decode (fx_cc mq_MO_meet) 42 = .ok (.bipush 7, 2) := by decide +kernel
theorem dq_MO_meet_44 : decode (fx_cc mq_MO_meet) 44 = .ok (.aload_n 0, 1) := by decide +kernel
theorem dq_MO_meet_45 : decode (fx_cc mq_MO_meet) 45 = .ok (.getfield 68, 3) := by decide +kernel
theorem dq_MO_meet_48 : decode (fx_cc mq_MO_meet) 48 = .ok (.imul, 1) := by decide +kernel
theorem dq_MO_meet_49 : decode (fx_cc mq_MO_meet) 49 = .ok (.aload_n 0, 1) := by decide +kernel
theorem dq_MO_meet_50 : decode (fx_cc mq_MO_meet) 50 = .ok (.getfield 219, 3) := by decide +kernel
theorem dq_MO_meet_53 : decode (fx_cc mq_MO_meet) 53 = .ok (.iadd, 1) := by decide +kernel
theorem dq_MO_meet_54 : decode (fx_cc mq_MO_meet) 54 = .ok (.istore_n 3, 1) := by decide +kernel
theorem dq_MO_meet_55 : decode (fx_cc mq_MO_meet) 55 = .ok (.aload_n 0, 1) := by decide +kernel
theorem dq_MO_meet_56 : decode (fx_cc mq_MO_meet) 56 = .ok (.aload_n 0, 1) := by decide +kernel
theorem dq_MO_meet_57 : decode (fx_cc mq_MO_meet) 57 = .ok (.getfield 78, 3) := by decide +kernel
theorem dq_MO_meet_60 : decode (fx_cc mq_MO_meet) 60 = .ok (.iload_n 3, 1) := by decide +kernel
theorem dq_MO_meet_61 : decode (fx_cc mq_MO_meet) 61 = .ok (.iaload, 1) := by decide +kernel
theorem dq_MO_meet_62 : decode (fx_cc mq_MO_meet) 62 = .ok (.aload_n 0, 1) := by decide +kernel
theorem dq_MO_meet_63 : decode (fx_cc mq_MO_meet) 63 = .ok (.getfield 81, 3) := by decide +kernel
theorem dq_MO_meet_66 : decode (fx_cc mq_MO_meet) 66 = .ok (.iload_n 3, 1) := by decide +kernel
theorem dq_MO_meet_67 : decode (fx_cc mq_MO_meet) 67 = .ok (.iaload, 1) := by decide +kernel
theorem dq_MO_meet_68 : decode (fx_cc mq_MO_meet) 68 = .ok (.aload_n 0, 1) := by decide +kernel
theorem dq_MO_meet_69 : decode (fx_cc mq_MO_meet) 69 = .ok (.getfield 78, 3) := by decide +kernel
theorem dq_MO_meet_72 : decode (fx_cc mq_MO_meet) 72 = .ok (.iload_n 3, 1) := by decide +kernel
theorem dq_MO_meet_73 : decode (fx_cc mq_MO_meet) 73 = .ok (.iaload, 1) := by decide +kernel
theorem dq_MO_meet_74 : decode (fx_cc mq_MO_meet) 74 = .ok (.aload_n 0, 1) := by decide +kernel
theorem dq_MO_meet_75 : decode (fx_cc mq_MO_meet) 75 = .ok (.getfield 84, 3) := by decide +kernel
theorem dq_MO_meet_78 : decode (fx_cc mq_MO_meet) 78 = .ok (.iload_n 3, 1) := by decide +kernel
theorem dq_MO_meet_79 : decode (fx_cc mq_MO_meet) 79 = .ok (.iaload, 1) := by decide +kernel
theorem dq_MO_meet_80 : decode (fx_cc mq_MO_meet) 80 = .ok (.iadd, 1) := by decide +kernel
theorem dq_MO_meet_81 : decode (fx_cc mq_MO_meet) 81 = .ok (.aload_n 0, 1) := by decide +kernel
theorem dq_MO_meet_82 : decode (fx_cc mq_MO_meet) 82 = .ok (.getfield 81, 3) := by decide +kernel
theorem dq_MO_meet_85 : decode (fx_cc mq_MO_meet) 85 = .ok (.iload_n 3, 1) := by decide +kernel
theorem dq_MO_meet_86 : decode (fx_cc mq_MO_meet) 86 = .ok (.iaload, 1) := by decide +kernel
theorem dq_MO_meet_87 : decode (fx_cc mq_MO_meet) 87 = .ok (.aload_n 0, 1) := by decide +kernel
theorem dq_MO_meet_88 : decode (fx_cc mq_MO_meet) 88 = .ok (.getfield 87, 3) := by decide +kernel
theorem dq_MO_meet_91 : decode (fx_cc mq_MO_meet) 91 = .ok (.iload_n 3, 1) := by decide +kernel
theorem dq_MO_meet_92 : decode (fx_cc mq_MO_meet) 92 = .ok (.iaload, 1) := by decide +kernel
theorem dq_MO_meet_93 : decode (fx_cc mq_MO_meet) 93 = .ok (.iadd, 1) := by decide +kernel
theorem dq_MO_meet_94 : decode (fx_cc mq_MO_meet) 94 = .ok (.invokevirtual 174, 3) := by decide +kernel
theorem dq_MO_meet_97 : decode (fx_cc mq_MO_meet) 97 = .ok (.return_, 1) := by decide +kernel
theorem dq_MO_make_0 : decode (fx_cc mq_MO_make) 0 = .ok (.aload_n 0, 1) := by decide +kernel
theorem dq_MO_make_1 : decode (fx_cc mq_MO_make) 1 = .ok (.getfield 222, 3) := by decide +kernel
theorem dq_MO_make_4 : decode (fx_cc mq_MO_make) 4 = .ok (.ifCond .ne 100, 3) := by decide +kernel
theorem dq_MO_make_7 : decode (fx_cc mq_MO_make) 7 = .ok (.bipush 7, 2) := by decide +kernel
theorem dq_MO_make_9 : decode (fx_cc mq_MO_make) 9 = .ok (.aload_n 0, 1) := by decide +kernel
theorem dq_MO_make_10 : decode (fx_cc mq_MO_make) 10 = .ok (.getfield 68, 3) := by decide +kernel
theorem dq_MO_make_13 : decode (fx_cc mq_MO_make) 13 = .ok (.imul, 1) := by decide +kernel
theorem dq_MO_make_14 : decode (fx_cc mq_MO_make) 14 = .ok (.aload_n 0, 1) := by decide +kernel
theorem dq_MO_make_15 : decode (fx_cc mq_MO_make) 15 = .ok (.getfield 219, 3) := by decide +kernel
theorem dq_MO_make_18 : decode (fx_cc mq_MO_make) 18 = .ok (.iadd, 1) := by decide +kernel
theorem dq_MO_make_19 : decode (fx_cc mq_MO_make) 19 = .ok (.istore_n 1, 1) := by decide +kernel
theorem dq_MO_make_20 : decode (fx_cc mq_MO_make) 20 = .ok (.aload_n 0, 1) := by decide +kernel
theorem dq_MO_make_21 : decode (fx_cc mq_MO_make) 21 = .ok (.getfield 81, 3) := by decide +kernel
theorem dq_MO_make_24 : decode (fx_cc mq_MO_make) 24 = .ok (.iload_n 1, 1) := by decide +kernel
theorem dq_MO_make_25 : decode (fx_cc mq_MO_make) 25 = .ok (.iaload, 1) := by decide +kernel
theorem dq_MO_make_26 : decode (fx_cc mq_MO_make) 26 = .ok (.istore_n 2, 1) := by decide +kernel
theorem dq_MO_make_27 : decode (fx_cc mq_MO_make) 27 = .ok (.iload_n 2, 1) := by decide +kernel
theorem dq_MO_make_28 : decode (fx_cc mq_MO_make) 28 = .ok (.aload_n 0, 1) := by decide +kernel
theorem dq_MO_make_29 : decode (fx_cc mq_MO_make) 29 = .ok (.getfield 81, 3) := by decide +kernel
theorem dq_MO_make_32 : decode (fx_cc mq_MO_make) 32 = .ok (.iload_n 1, 1) := by decide +kernel
theorem dq_MO_make_33 : decode (fx_cc mq_MO_make) 33 = .ok (.iaload, 1) := by decide +kernel
theorem dq_MO_make_34 : decode (fx_cc mq_MO_make) 34 = .ok (.aload_n 0, 1) := by decide +kernel
theorem dq_MO_make_35 : decode (fx_cc mq_MO_make) 35 = .ok (.getfield 87, 3) := by decide +kernel
theorem dq_MO_make_38 : decode (fx_cc mq_MO_make) 38 = .ok (.iload_n 1, 1) := by decide +kernel
theorem dq_MO_make_39 : decode (fx_cc mq_MO_make) 39 = .ok (.iaload, 1) := by decide +kernel
theorem dq_MO_make_40 : decode (fx_cc mq_MO_make) 40 = .ok (.iadd, 1) := by decide +kernel
theorem dq_MO_make_41 : decode (fx_cc mq_MO_make) 41 = .ok (.if_icmp .ge 60, 3) := by decide +kernel
theorem dq_MO_make_44 : decode (fx_cc mq_MO_make) 44 = .ok (.aload_n 0, 1) := by decide +kernel
theorem dq_MO_make_45 : decode (fx_cc mq_MO_make) 45 = .ok (.getfield 78, 3) := by decide +kernel
theorem dq_MO_make_48 : decode (fx_cc mq_MO_make) 48 = .ok (.iload_n 1, 1) := by decide +kernel
theorem dq_MO_make_49 : decode (fx_cc mq_MO_make) 49 = .ok (.iaload, 1) := by decide +kernel
theorem dq_MO_make_50 : decode (fx_cc mq_MO_make) 50 = .ok (.istore_n 3, 1) := by decide +kernel
theorem dq_MO_make_51 : decode (fx_cc mq_MO_make) 51 = .ok (.iload_n 3, 1) := by decide +kernel
theorem dq_MO_make_52 : decode (fx_cc mq_MO_make) 52 = .ok (.aload_n 0, 1) := by decide +kernel
theorem dq_MO_make_53 : decode (fx_cc mq_MO_make) 53 = .ok (.getfield 78, 3) := by decide +kernel
theorem dq_MO_make_56 : decode (fx_cc mq_MO_make) 56 = .ok (.iload_n 1, 1) := by decide +kernel
theorem dq_MO_make_57 : decode (fx_cc mq_MO_make) 57 = .ok (.iaload, 1) := by decide +kernel
theorem dq_MO_make_58 : decode (fx_cc mq_MO_make) 58 = .ok (.aload_n 0, 1) := by decide +kernel
theorem dq_MO_make_59 : decode (fx_cc mq_MO_make) 59 = .ok (.getfield 84, 3) := by decide +kernel
theorem dq_MO_make_62 : decode (fx_cc mq_MO_make) 62 = .ok (.iload_n 1, 1) := by decide +kernel
theorem dq_MO_make_63 : decode (fx_cc mq_MO_make) 63 = .ok (.iaload, 1) := by decide +kernel
theorem dq_MO_make_64 : decode (fx_cc mq_MO_make) 64 = .ok (.iadd, 1) := by decide +kernel
theorem dq_MO_make_65 : decode (fx_cc mq_MO_make) 65 = .ok (.if_icmp .ge 30, 3) := by decide +kernel
theorem dq_MO_make_68 : decode (fx_cc mq_MO_make) 68 = .ok (.aload_n 0, 1) := by decide +kernel
theorem dq_MO_make_69 : decode (fx_cc mq_MO_make) 69 = .ok (.getfield 72, 3) := by decide +kernel
theorem dq_MO_make_72 : decode (fx_cc mq_MO_make) 72 = .ok (.sipush 200, 3) := by decide +kernel
theorem dq_MO_make_75 : decode (fx_cc mq_MO_make) 75 = .ok (.aload_n 0, 1) := by decide +kernel
theorem dq_MO_make_76 : decode (fx_cc mq_MO_make) 76 = .ok (.getfield 68, 3) := by decide +kernel
theorem dq_MO_make_79 : decode (fx_cc mq_MO_make) 79 = .ok (.imul, 1) := by decide +kernel
theorem dq_MO_make_80 : decode (fx_cc mq_MO_make) 80 = .ok (.bipush 20, 2) := by decide +kernel
theorem dq_MO_make_82 : decode (fx_cc mq_MO_make) 82 = .ok (.iload_n 2, 1) := by decide +kernel
theorem dq_MO_make_83 : decode (fx_cc mq_MO_make) 83 = .ok (.imul, 1) := by decide +kernel
theorem dq_MO_make_84 : decode (fx_cc mq_MO_make) 84 = .ok (.iadd, 1) := by decide +kernel
theorem dq_MO_make_85 : decode (fx_cc mq_MO_make) 85 = .ok (.iload_n 3, 1) := by decide +kernel
theorem dq_MO_make_86 : decode (fx_cc mq_MO_make) 86 = .ok (.iadd, 1) := by decide +kernel
theorem dq_MO_make_87 : decode (fx_cc mq_MO_make) 87 = .ok (.iconst 0, 1) := by decide +kernel
theorem dq_MO_make_88 : decode (fx_cc mq_MO_make) 88 = .ok (.iastore, 1) := by decide +kernel
theorem dq_MO_make_89 : decode (fx_cc mq_MO_make) 89 = .ok (.iinc 3 1, 3) := by decide +kernel
theorem dq_MO_make_92 : decode (fx_cc mq_MO_make) 92 = .ok (.goto (-41), 3) := by decide +kernel
theorem dq_MO_make_95 : decode (fx_cc mq_MO_make) 95 = .ok (.iinc 2 1, 3) := by decide +kernel
theorem dq_MO_make_98 : decode (fx_cc mq_MO_make) 98 = .ok (.goto (-71), 3) := by decide +kernel
theorem dq_MO_make_101 : decode (fx_cc mq_MO_make) 101 = .ok (.goto 29, 3) := by decide +kernel
theorem dq_MO_make_104 : decode (fx_cc mq_MO_make) 104 = .ok (.aload_n 0, 1) := by decide +kernel
theorem dq_MO_make_105 : decode (fx_cc mq_MO_make) 105 = .ok (.aload_n 0, 1) := by decide +kernel
theorem dq_MO_make_106 : decode (fx_cc mq_MO_make) 106 = .ok (.getfield 222, 3) := by decide +kernel
theorem dq_MO_make_109 : decode (fx_cc mq_MO_make) 109 = .ok (.iconst 1, 1) := by decide +kernel
theorem dq_MO_make_110 : decode (fx_cc mq_MO_make) 110 = .ok (.isub, 1) := by decide +kernel
theorem dq_MO_make_111 : decode (fx_cc mq_MO_make) 111 = .ok (.invokevirtual 232, 3) := by decide +kernel
theorem dq_MO_make_114 : decode (fx_cc mq_MO_make) 114 = .ok (.aload_n 0, 1) := by decide +kernel
theorem dq_MO_make_115 : decode (fx_cc mq_MO_make) 115 = .ok (.aload_n 0, 1) := by decide +kernel
theorem dq_MO_make_116 : decode (fx_cc mq_MO_make) 116 = .ok (.bipush 20, 2) := by decide +kernel
theorem dq_MO_make_118 : decode (fx_cc mq_MO_make) 118 = .ok (.aload_n 0, 1) := by decide +kernel
theorem dq_MO_make_119 : decode (fx_cc mq_MO_make) 119 = .ok (.getfield 222, 3) := by decide +kernel
theorem dq_MO_make_122 : decode (fx_cc mq_MO_make) 122 = .ok (.iconst 1, 1) := by decide +kernel
theorem dq_MO_make_123 : decode (fx_cc mq_MO_make) 123 = .ok (.isub, 1) := by decide +kernel
theorem dq_MO_make_124 : decode (fx_cc mq_MO_make) 124 = .ok (.invokevirtual 201, 3) := by decide +kernel
theorem dq_MO_make_127 : decode (fx_cc mq_MO_make) 127 = .ok (.invokevirtual 235, 3) := by decide +kernel
theorem dq_MO_make_130 : decode (fx_cc mq_MO_make) 130 = .ok (.aload_n 0, 1) := by decide +kernel
theorem dq_MO_make_131 : decode (fx_cc mq_MO_make) 131 = .ok (.dup, 1) := by decide +kernel
theorem dq_MO_make_132 : decode (fx_cc mq_MO_make) 132 = .ok (.getfield 222, 3) := by decide +kernel
theorem dq_MO_make_135 : decode (fx_cc mq_MO_make) 135 = .ok (.iconst 1, 1) := by decide +kernel
theorem dq_MO_make_136 : decode (fx_cc mq_MO_make) 136 = .ok (.iadd, 1) := by decide +kernel
theorem dq_MO_make_137 : decode (fx_cc mq_MO_make) 137 = .ok (.putfield 222, 3) := by decide +kernel
theorem dq_MO_make_140 : decode (fx_cc mq_MO_make) 140 = .ok (.aload_n 0, 1) := by decide +kernel
theorem dq_MO_make_141 : decode (fx_cc mq_MO_make) 141 = .ok (.invokevirtual 238, 3) := by decide +kernel
theorem dq_MO_make_144 : decode (fx_cc mq_MO_make) 144 = .ok (.return_, 1) := by decide +kernel
theorem dq_MO_paint_0 : decode (fx_cc mq_MO_paint) 0 = .ok (.aload_n 0, 1) := by decide +kernel
theorem dq_MO_paint_1 : decode (fx_cc mq_MO_paint) 1 = .ok (.getfield 147, 3) := by decide +kernel
theorem dq_MO_paint_4 : decode (fx_cc mq_MO_paint) 4 = .ok (.istore_n 2, 1) := by decide +kernel
theorem dq_MO_paint_5 : decode (fx_cc mq_MO_paint) 5 = .ok (.iload_n 2, 1) := by decide +kernel
theorem dq_MO_paint_6 : decode (fx_cc mq_MO_paint) 6 = .ok (.aload_n 0, 1) := by decide +kernel
theorem dq_MO_paint_7 : decode (fx_cc mq_MO_paint) 7 = .ok (.getfield 147, 3) := by decide +kernel
theorem dq_MO_paint_10 : decode (fx_cc mq_MO_paint) 10 = .ok (.aload_n 0, 1) := by decide +kernel
theorem dq_MO_paint_11 : decode (fx_cc mq_MO_paint) 11 = .ok (.getfield 150, 3) := by decide +kernel
theorem dq_MO_paint_14 : decode (fx_cc mq_MO_paint) 14 = .ok (.iadd, 1) := by decide +kernel
theorem dq_MO_paint_15 : decode (fx_cc mq_MO_paint) 15 = .ok (.if_icmp .ge 80, 3) := by decide +kernel
theorem dq_MO_paint_18 : decode (fx_cc mq_MO_paint) 18 = .ok (.aload_n 0, 1) := by decide +kernel
theorem dq_MO_paint_19 : decode (fx_cc mq_MO_paint) 19 = .ok (.getfield 141, 3) := by decide +kernel
theorem dq_MO_paint_22 : decode (fx_cc mq_MO_paint) 22 = .ok (.istore_n 3, 1) := by decide +kernel
theorem dq_MO_paint_23 : decode (fx_cc mq_MO_paint) 23 = .ok (.iload_n 3, 1) := by decide +kernel
theorem dq_MO_paint_24 : decode (fx_cc mq_MO_paint) 24 = .ok (.aload_n 0, 1) := by decide +kernel
theorem dq_MO_paint_25 : decode (fx_cc mq_MO_paint) 25 = .ok (.getfield 141, 3) := by decide +kernel
theorem dq_MO_paint_28 : decode (fx_cc mq_MO_paint) 28 = .ok (.aload_n 0, 1) := by decide +kernel
theorem dq_MO_paint_29 : decode (fx_cc mq_MO_paint) 29 = .ok (.getfield 144, 3) := by decide +kernel
theorem dq_MO_paint_32 : decode (fx_cc mq_MO_paint) 32 = .ok (.iadd, 1) := by decide +kernel
theorem dq_MO_paint_33 : decode (fx_cc mq_MO_paint) 33 = .ok (.if_icmp .ge 56, 3) := by decide +kernel
theorem dq_MO_paint_36 : decode (fx_cc mq_MO_paint) 36 = .ok (.sipush 200, 3) := by decide +kernel
theorem dq_MO_paint_39 : decode (fx_cc mq_MO_paint) 39 = .ok (.aload_n 0, 1) := by decide +kernel
theorem dq_MO_paint_40 : decode (fx_cc mq_MO_paint) 40 = .ok (.getfield 68, 3) := by decide +kernel
theorem dq_MO_paint_43 : decode (fx_cc mq_MO_paint) 43 = .ok (.imul, 1) := by decide +kernel
theorem dq_MO_paint_44 : decode (fx_cc mq_MO_paint) 44 = .ok (.bipush 20, 2) := by decide +kernel
theorem dq_MO_paint_46 : decode (fx_cc mq_MO_paint) 46 = .ok (.iload_n 2, 1) := by decide +kernel
theorem dq_MO_paint_47 : decode (fx_cc mq_MO_paint) 47 = .ok (.imul, 1) := by decide +kernel
theorem dq_MO_paint_48 : decode (fx_cc mq_MO_paint) 48 = .ok (.iadd, 1) := by decide +kernel
theorem dq_MO_paint_49 : decode (fx_cc mq_MO_paint) 49 = .ok (.iload_n 3, 1) := by decide +kernel
theorem dq_MO_paint_50 : decode (fx_cc mq_MO_paint) 50 = .ok (.iadd, 1) := by decide +kernel
theorem dq_MO_paint_51 : decode (fx_cc mq_MO_paint) 51 = .ok (.istore 4, 2) := by decide +kernel
theorem dq_MO_paint_53 : decode (fx_cc mq_MO_paint) 53 = .ok (.aload_n 0, 1) := by decide +kernel
theorem dq_MO_paint_54 : decode (fx_cc mq_MO_paint) 54 = .ok (.getfield 72, 3) := by decide +kernel
theorem dq_MO_paint_57 : decode (fx_cc mq_MO_paint) 57 = .ok (.iload 4, 2) := by decide +kernel
theorem dq_MO_paint_59 : decode (fx_cc mq_MO_paint) 59 = .ok (.aload_n 0, 1) := by decide +kernel
theorem dq_MO_paint_60 : decode (fx_cc mq_MO_paint) 60 = .ok (.iload_n 1, 1) := by decide +kernel
theorem dq_MO_paint_61 : decode (fx_cc mq_MO_paint) 61 = .ok (.iload_n 3, 1) := by decide +kernel
theorem dq_MO_paint_62 : decode (fx_cc mq_MO_paint) 62 = .ok (.iload_n 2, 1) := by decide +kernel
theorem dq_MO_paint_63 : decode (fx_cc mq_MO_paint) 63 = .ok (.invokevirtual 225, 3) := by decide +kernel
theorem dq_MO_paint_66 : decode (fx_cc mq_MO_paint) 66 = .ok (.aload_n 0, 1) := by decide +kernel
theorem dq_MO_paint_67 : decode (fx_cc mq_MO_paint) 67 = .ok (.getfield 72, 3) := by decide +kernel
theorem dq_MO_paint_70 : decode (fx_cc mq_MO_paint) 70 = .ok (.iload 4, 2) := by decide +kernel
theorem dq_MO_paint_72 : decode (fx_cc mq_MO_paint) 72 = .ok (.iaload, 1) := by decide +kernel
theorem dq_MO_paint_73 : decode (fx_cc mq_MO_paint) 73 = .ok (.aload_n 0, 1) := by decide +kernel
theorem dq_MO_paint_74 : decode (fx_cc mq_MO_paint) 74 = .ok (.getfield 41, 3) := by decide +kernel
theorem dq_MO_paint_77 : decode (fx_cc mq_MO_paint) 77 = .ok (.iload_n 1, 1) := by decide +kernel
theorem dq_MO_paint_78 : decode (fx_cc mq_MO_paint) 78 = .ok (.iaload, 1) := by decide +kernel
theorem dq_MO_paint_79 : decode (fx_cc mq_MO_paint) 79 = .ok (.invokestatic 229, 3) := by decide +kernel
theorem dq_MO_paint_82 : decode (fx_cc mq_MO_paint) 82 = .ok (.iastore, 1) := by decide +kernel
theorem dq_MO_paint_83 : decode (fx_cc mq_MO_paint) 83 = .ok (.iinc 3 1, 3) := by decide +kernel
theorem dq_MO_paint_86 : decode (fx_cc mq_MO_paint) 86 = .ok (.goto (-63), 3) := by decide +kernel
theorem dq_MO_paint_89 : decode (fx_cc mq_MO_paint) 89 = .ok (.iinc 2 1, 3) := by decide +kernel
theorem dq_MO_paint_92 : decode (fx_cc mq_MO_paint) 92 = .ok (.goto (-87), 3) := by decide +kernel
theorem dq_MO_paint_95 : decode (fx_cc mq_MO_paint) 95 = .ok (.return_, 1) := by decide +kernel
theorem dq_MO_pixelOf_0 : decode (fx_cc mq_MO_pixelOf) 0 = .ok (.aload_n 0, 1) := by decide +kernel
theorem dq_MO_pixelOf_1 : decode (fx_cc mq_MO_pixelOf) 1 = .ok (.getfield 59, 3) := by decide +kernel
theorem dq_MO_pixelOf_4 : decode (fx_cc mq_MO_pixelOf) 4 = .ok (.bipush 96, 2) := by decide +kernel
theorem dq_MO_pixelOf_6 : decode (fx_cc mq_MO_pixelOf) 6 = .ok (.iload_n 1, 1) := by decide +kernel
theorem dq_MO_pixelOf_7 : decode (fx_cc mq_MO_pixelOf) 7 = .ok (.imul, 1) := by decide +kernel
theorem dq_MO_pixelOf_8 : decode (fx_cc mq_MO_pixelOf) 8 = .ok (.aload_n 0, 1) := by decide +kernel
theorem dq_MO_pixelOf_9 : decode (fx_cc mq_MO_pixelOf) 9 = .ok (.getfield 17, 3) := by decide +kernel
theorem dq_MO_pixelOf_12 : decode (fx_cc mq_MO_pixelOf) 12 = .ok (.iload_n 1, 1) := by decide +kernel
theorem dq_MO_pixelOf_13 : decode (fx_cc mq_MO_pixelOf) 13 = .ok (.bipush 10, 2) := by decide +kernel
theorem dq_MO_pixelOf_15 : decode (fx_cc mq_MO_pixelOf) 15 = .ok (.irem, 1) := by decide +kernel
theorem dq_MO_pixelOf_16 : decode (fx_cc mq_MO_pixelOf) 16 = .ok (.iaload, 1) := by decide +kernel
theorem dq_MO_pixelOf_17 : decode (fx_cc mq_MO_pixelOf) 17 = .ok (.iload_n 3, 1) := by decide +kernel
theorem dq_MO_pixelOf_18 : decode (fx_cc mq_MO_pixelOf) 18 = .ok (.aload_n 0, 1) := by decide +kernel
theorem dq_MO_pixelOf_19 : decode (fx_cc mq_MO_pixelOf) 19 = .ok (.getfield 35, 3) := by decide +kernel
theorem dq_MO_pixelOf_22 : decode (fx_cc mq_MO_pixelOf) 22 = .ok (.iload_n 1, 1) := by decide +kernel
theorem dq_MO_pixelOf_23 : decode (fx_cc mq_MO_pixelOf) 23 = .ok (.iaload, 1) := by decide +kernel
theorem dq_MO_pixelOf_24 : decode (fx_cc mq_MO_pixelOf) 24 = .ok (.isub, 1) := by decide +kernel
theorem dq_MO_pixelOf_25 : decode (fx_cc mq_MO_pixelOf) 25 = .ok (.imul, 1) := by decide +kernel
theorem dq_MO_pixelOf_26 : decode (fx_cc mq_MO_pixelOf) 26 = .ok (.iadd, 1) := by decide +kernel
theorem dq_MO_pixelOf_27 : decode (fx_cc mq_MO_pixelOf) 27 = .ok (.iload_n 2, 1) := by decide +kernel
theorem dq_MO_pixelOf_28 : decode (fx_cc mq_MO_pixelOf) 28 = .ok (.iadd, 1) := by decide +kernel
theorem dq_MO_pixelOf_29 : decode (fx_cc mq_MO_pixelOf) 29 = .ok (.aload_n 0, 1) := by decide +kernel
theorem dq_MO_pixelOf_30 : decode (fx_cc mq_MO_pixelOf) 30 = .ok (.getfield 32, 3) := by decide +kernel
theorem dq_MO_pixelOf_33 : decode (fx_cc mq_MO_pixelOf) 33 = .ok (.iload_n 1, 1) := by decide +kernel
theorem dq_MO_pixelOf_34 : decode (fx_cc mq_MO_pixelOf) 34 = .ok (.iaload, 1) := by decide +kernel
theorem dq_MO_pixelOf_35 : decode (fx_cc mq_MO_pixelOf) 35 = .ok (.isub, 1) := by decide +kernel
theorem dq_MO_pixelOf_36 : decode (fx_cc mq_MO_pixelOf) 36 = .ok (.iaload, 1) := by decide +kernel
theorem dq_MO_pixelOf_37 : decode (fx_cc mq_MO_pixelOf) 37 = .ok (.ireturn, 1) := by decide +kernel
theorem dq_MO_mixed_0 : decode (fx_cc mq_MO_mixed) 0 = .ok (.iload_n 0, 1) := by decide +kernel
theorem dq_MO_mixed_1 : decode (fx_cc mq_MO_mixed) 1 = .ok (.iload_n 1, 1) := by decide +kernel
theorem dq_MO_mixed_2 : decode (fx_cc mq_MO_mixed) 2 = .ok (.iload_n 2, 1) := by decide +kernel
theorem dq_MO_mixed_3 : decode (fx_cc mq_MO_mixed) 3 = .ok (.bipush 11, 2) := by decide +kernel
theorem dq_MO_mixed_5 : decode (fx_cc mq_MO_mixed) 5 = .ok (.bipush 31, 2) := by decide +kernel
theorem dq_MO_mixed_7 : decode (fx_cc mq_MO_mixed) 7 = .ok (.invokestatic 182, 3) := by decide +kernel
theorem dq_MO_mixed_10 : decode (fx_cc mq_MO_mixed) 10 = .ok (.iload_n 0, 1) := by decide +kernel
theorem dq_MO_mixed_11 : decode (fx_cc mq_MO_mixed) 11 = .ok (.iload_n 1, 1) := by decide +kernel
theorem dq_MO_mixed_12 : decode (fx_cc mq_MO_mixed) 12 = .ok (.iload_n 2, 1) := by decide +kernel
theorem dq_MO_mixed_13 : decode (fx_cc mq_MO_mixed) 13 = .ok (.iconst 5, 1) := by decide +kernel
theorem dq_MO_mixed_14 : decode (fx_cc mq_MO_mixed) 14 = .ok (.bipush 63, 2) := by decide +kernel
theorem dq_MO_mixed_16 : decode (fx_cc mq_MO_mixed) 16 = .ok (.invokestatic 182, 3) := by decide +kernel
theorem dq_MO_mixed_19 : decode (fx_cc mq_MO_mixed) 19 = .ok (.ior, 1) := by decide +kernel
theorem dq_MO_mixed_20 : decode (fx_cc mq_MO_mixed) 20 = .ok (.iload_n 0, 1) := by decide +kernel
theorem dq_MO_mixed_21 : decode (fx_cc mq_MO_mixed) 21 = .ok (.iload_n 1, 1) := by decide +kernel
theorem dq_MO_mixed_22 : decode (fx_cc mq_MO_mixed) 22 = .ok (.iload_n 2, 1) := by decide +kernel
theorem dq_MO_mixed_23 : decode (fx_cc mq_MO_mixed) 23 = .ok (.iconst 0, 1) := by decide +kernel
theorem dq_MO_mixed_24 : decode (fx_cc mq_MO_mixed) 24 = .ok (.bipush 31, 2) := by decide +kernel
theorem dq_MO_mixed_26 : decode (fx_cc mq_MO_mixed) 26 = .ok (.invokestatic 182, 3) := by decide +kernel
theorem dq_MO_mixed_29 : decode (fx_cc mq_MO_mixed) 29 = .ok (.ior, 1) := by decide +kernel
theorem dq_MO_mixed_30 : decode (fx_cc mq_MO_mixed) 30 = .ok (.ireturn, 1) := by decide +kernel
theorem dq_MO_part_0 : decode (fx_cc mq_MO_part) 0 = .ok (.iload_n 2, 1) := by decide +kernel
theorem dq_MO_part_1 : decode (fx_cc mq_MO_part) 1 = .ok (.iload_n 0, 1) := by decide +kernel
theorem dq_MO_part_2 : decode (fx_cc mq_MO_part) 2 = .ok (.iload_n 3, 1) := by decide +kernel
theorem dq_MO_part_3 : decode (fx_cc mq_MO_part) 3 = .ok (.ishr, 1) := by decide +kernel
theorem dq_MO_part_4 : decode (fx_cc mq_MO_part) 4 = .ok (.iload 4, 2) := by decide +kernel
theorem dq_MO_part_6 : decode (fx_cc mq_MO_part) 6 = .ok (.iand, 1) := by decide +kernel
theorem dq_MO_part_7 : decode (fx_cc mq_MO_part) 7 = .ok (.imul, 1) := by decide +kernel
theorem dq_MO_part_8 : decode (fx_cc mq_MO_part) 8 = .ok (.bipush 16, 2) := by decide +kernel
theorem dq_MO_part_10 : decode (fx_cc mq_MO_part) 10 = .ok (.iload_n 2, 1) := by decide +kernel
theorem dq_MO_part_11 : decode (fx_cc mq_MO_part) 11 = .ok (.isub, 1) := by decide +kernel
theorem dq_MO_part_12 : decode (fx_cc mq_MO_part) 12 = .ok (.iload_n 1, 1) := by decide +kernel
theorem dq_MO_part_13 : decode (fx_cc mq_MO_part) 13 = .ok (.iload_n 3, 1) := by decide +kernel
theorem dq_MO_part_14 : decode (fx_cc mq_MO_part) 14 = .ok (.ishr, 1) := by decide +kernel
theorem dq_MO_part_15 : decode (fx_cc mq_MO_part) 15 = .ok (.iload 4, 2) := by decide +kernel
theorem dq_MO_part_17 : decode (fx_cc mq_MO_part) 17 = .ok (.iand, 1) := by decide +kernel
theorem dq_MO_part_18 : decode (fx_cc mq_MO_part) 18 = .ok (.imul, 1) := by decide +kernel
theorem dq_MO_part_19 : decode (fx_cc mq_MO_part) 19 = .ok (.iadd, 1) := by decide +kernel
theorem dq_MO_part_20 : decode (fx_cc mq_MO_part) 20 = .ok (.bipush 16, 2) := by decide +kernel
theorem dq_MO_part_22 : decode (fx_cc mq_MO_part) 22 = .ok (.idiv, 1) := by decide +kernel
theorem dq_MO_part_23 : decode (fx_cc mq_MO_part) 23 = .ok (.iload_n 3, 1) := by decide +kernel
theorem dq_MO_part_24 : decode (fx_cc mq_MO_part) 24 = .ok (.ishl, 1) := by decide +kernel
theorem dq_MO_part_25 : decode (fx_cc mq_MO_part) 25 = .ok (.ireturn, 1) := by decide +kernel
theorem dq_MO_scan_0 : decode (fx_cc mq_MO_scan) 0 = .ok (.aload_n 0, 1) := by decide +kernel
theorem dq_MO_scan_1 : decode (fx_cc mq_MO_scan) 1 = .ok (.iconst 0, 1) := by decide +kernel
theorem dq_MO_scan_2 : decode (fx_cc mq_MO_scan) 2 = .ok (.putfield 126, 3) := by decide +kernel
theorem dq_MO_scan_5 : decode (fx_cc mq_MO_scan) 5 = .ok (.aload_n 0, 1) := by decide +kernel
theorem dq_MO_scan_6 : decode (fx_cc mq_MO_scan) 6 = .ok (.getfield 256, 3) := by decide +kernel
theorem dq_MO_scan_9 : decode (fx_cc mq_MO_scan) 9 = .ok (.bipush 10, 2) := by decide +kernel
theorem dq_MO_scan_11 : decode (fx_cc mq_MO_scan) 11 = .ok (.if_icmp .ge 20, 3) := by decide +kernel
theorem dq_MO_scan_14 : decode (fx_cc mq_MO_scan) 14 = .ok (.aload_n 0, 1) := by decide +kernel
theorem dq_MO_scan_15 : decode (fx_cc mq_MO_scan) 15 = .ok (.dup, 1) := by decide +kernel
theorem dq_MO_scan_16 : decode (fx_cc mq_MO_scan) 16 = .ok (.getfield 256, 3) := by decide +kernel
theorem dq_MO_scan_19 : decode (fx_cc mq_MO_scan) 19 = .ok (.iconst 1, 1) := by decide +kernel
theorem dq_MO_scan_20 : decode (fx_cc mq_MO_scan) 20 = .ok (.iadd, 1) := by decide +kernel
theorem dq_MO_scan_21 : decode (fx_cc mq_MO_scan) 21 = .ok (.putfield 256, 3) := by decide +kernel
theorem dq_MO_scan_24 : decode (fx_cc mq_MO_scan) 24 = .ok (.aload_n 0, 1) := by decide +kernel
theorem dq_MO_scan_25 : decode (fx_cc mq_MO_scan) 25 = .ok (.getfield 256, 3) := by decide +kernel
theorem dq_MO_scan_28 : decode (fx_cc mq_MO_scan) 28 = .ok (.iconst 1, 1) := by decide +kernel
theorem dq_MO_scan_29 : decode (fx_cc mq_MO_scan) 29 = .ok (.isub, 1) := by decide +kernel
theorem dq_MO_scan_30 : decode (fx_cc mq_MO_scan) 30 = .ok (.ireturn, 1) := by decide +kernel
theorem dq_MO_scan_31 : decode (fx_cc mq_MO_scan) 31 = .ok (.aload_n 0, 1) := by decide +kernel
theorem dq_MO_scan_32 : decode (fx_cc mq_MO_scan) 32 = .ok (.iconst 0, 1) := by decide +kernel
theorem dq_MO_scan_33 : decode (fx_cc mq_MO_scan) 33 = .ok (.putfield 256, 3) := by decide +kernel
theorem dq_MO_scan_36 : decode (fx_cc mq_MO_scan) 36 = .ok (.aload_n 0, 1) := by decide +kernel
theorem dq_MO_scan_37 : decode (fx_cc mq_MO_scan) 37 = .ok (.invokevirtual 259, 3) := by decide +kernel
theorem dq_MO_scan_40 : decode (fx_cc mq_MO_scan) 40 = .ok (.aload_n 0, 1) := by decide +kernel
theorem dq_MO_scan_41 : decode (fx_cc mq_MO_scan) 41 = .ok (.getfield 216, 3) := by decide +kernel
theorem dq_MO_scan_44 : decode (fx_cc mq_MO_scan) 44 = .ok (.iconst 2, 1) := by decide +kernel
theorem dq_MO_scan_45 : decode (fx_cc mq_MO_scan) 45 = .ok (.if_icmp .ne 7, 3) := by decide +kernel
theorem dq_MO_scan_48 : decode (fx_cc mq_MO_scan) 48 = .ok (.aload_n 0, 1) := by decide +kernel
theorem dq_MO_scan_49 : decode (fx_cc mq_MO_scan) 49 = .ok (.invokevirtual 262, 3) := by decide +kernel
theorem dq_MO_scan_52 : decode (fx_cc mq_MO_scan) 52 = .ok (.iconst (-1), 1) := by decide +kernel
theorem dq_MO_scan_53 : decode (fx_cc mq_MO_scan) 53 = .ok (.ireturn, 1) := by decide +kernel
theorem dq_MO_look_0 : decode (fx_cc mq_MO_look) 0 = .ok (.sipush 200, 3) := by decide +kernel
theorem dq_MO_look_3 : decode (fx_cc mq_MO_look) 3 = .ok (.iconst 1, 1) := by decide +kernel
theorem dq_MO_look_4 : decode (fx_cc mq_MO_look) 4 = .ok (.aload_n 0, 1) := by decide +kernel
theorem dq_MO_look_5 : decode (fx_cc mq_MO_look) 5 = .ok (.getfield 68, 3) := by decide +kernel
theorem dq_MO_look_8 : decode (fx_cc mq_MO_look) 8 = .ok (.isub, 1) := by decide +kernel
theorem dq_MO_look_9 : decode (fx_cc mq_MO_look) 9 = .ok (.imul, 1) := by decide +kernel
theorem dq_MO_look_10 : decode (fx_cc mq_MO_look) 10 = .ok (.istore_n 1, 1) := by decide +kernel
theorem dq_MO_look_11 : decode (fx_cc mq_MO_look) 11 = .ok (.iconst 0, 1) := by decide +kernel
theorem dq_MO_look_12 : decode (fx_cc mq_MO_look) 12 = .ok (.istore_n 2, 1) := by decide +kernel
theorem dq_MO_look_13 : decode (fx_cc mq_MO_look) 13 = .ok (.iload_n 2, 1) := by decide +kernel
theorem dq_MO_look_14 : decode (fx_cc mq_MO_look) 14 = .ok (.sipush 200, 3) := by decide +kernel
theorem dq_MO_look_17 : decode (fx_cc mq_MO_look) 17 = .ok (.if_icmp .ge 23, 3) := by decide +kernel
theorem dq_MO_look_20 : decode (fx_cc mq_MO_look) 20 = .ok (.aload_n 0, 1) := by decide +kernel
theorem dq_MO_look_21 : decode (fx_cc mq_MO_look) 21 = .ok (.getfield 123, 3) := by decide +kernel
theorem dq_MO_look_24 : decode (fx_cc mq_MO_look) 24 = .ok (.iload_n 2, 1) := by decide +kernel
theorem dq_MO_look_25 : decode (fx_cc mq_MO_look) 25 = .ok (.aload_n 0, 1) := by decide +kernel
theorem dq_MO_look_26 : decode (fx_cc mq_MO_look) 26 = .ok (.getfield 72, 3) := by decide +kernel
theorem dq_MO_look_29 : decode (fx_cc mq_MO_look) 29 = .ok (.iload_n 1, 1) := by decide +kernel
theorem dq_MO_look_30 : decode (fx_cc mq_MO_look) 30 = .ok (.iload_n 2, 1) := by decide +kernel
theorem dq_MO_look_31 : decode (fx_cc mq_MO_look) 31 = .ok (.iadd, 1) := by decide +kernel
theorem dq_MO_look_32 : decode (fx_cc mq_MO_look) 32 = .ok (.iaload, 1) := by decide +kernel
theorem dq_MO_look_33 : decode (fx_cc mq_MO_look) 33 = .ok (.iastore, 1) := by decide +kernel
theorem dq_MO_look_34 : decode (fx_cc mq_MO_look) 34 = .ok (.iinc 2 1, 3) := by decide +kernel
theorem dq_MO_look_37 : decode (fx_cc mq_MO_look) 37 = .ok (.goto (-24), 3) := by decide +kernel
theorem dq_MO_look_40 : decode (fx_cc mq_MO_look) 40 = .ok (.iconst 0, 1) := by decide +kernel
theorem dq_MO_look_41 : decode (fx_cc mq_MO_look) 41 = .ok (.istore_n 2, 1) := by decide +kernel
theorem dq_MO_look_42 : decode (fx_cc mq_MO_look) 42 = .ok (.iload_n 2, 1) := by decide +kernel
theorem dq_MO_look_43 : decode (fx_cc mq_MO_look) 43 = .ok (.iconst 2, 1) := by decide +kernel
theorem dq_MO_look_44 : decode (fx_cc mq_MO_look) 44 = .ok (.if_icmp .ge 94, 3) := by decide +kernel
theorem dq_MO_look_47 : decode (fx_cc mq_MO_look) 47 = .ok (.iconst 0, 1) := by decide +kernel
theorem dq_MO_look_48 : decode (fx_cc mq_MO_look) 48 = .ok (.istore_n 3, 1) := by decide +kernel
theorem dq_MO_look_49 : decode (fx_cc mq_MO_look) 49 = .ok (.iload_n 3, 1) := by decide +kernel
theorem dq_MO_look_50 : decode (fx_cc mq_MO_look) 50 = .ok (.aload_n 0, 1) := by decide +kernel
theorem dq_MO_look_51 : decode (fx_cc mq_MO_look) 51 = .ok (.getfield 117, 3) := by decide +kernel
theorem dq_MO_look_54 : decode (fx_cc mq_MO_look) 54 = .ok (.iload_n 2, 1) := by decide +kernel
theorem dq_MO_look_55 : decode (fx_cc mq_MO_look) 55 = .ok (.iaload, 1) := by decide +kernel
theorem dq_MO_look_56 : decode (fx_cc mq_MO_look) 56 = .ok (.if_icmp .ge 76, 3) := by decide +kernel
theorem dq_MO_look_59 : decode (fx_cc mq_MO_look) 59 = .ok (.iconst 0, 1) := by decide +kernel
theorem dq_MO_look_60 : decode (fx_cc mq_MO_look) 60 = .ok (.istore 4, 2) := by decide +kernel
theorem dq_MO_look_62 : decode (fx_cc mq_MO_look) 62 = .ok (.iload 4, 2) := by decide +kernel
theorem dq_MO_look_64 : decode (fx_cc mq_MO_look) 64 = .ok (.aload_n 0, 1) := by decide +kernel
theorem dq_MO_look_65 : decode (fx_cc mq_MO_look) 65 = .ok (.getfield 114, 3) := by decide +kernel
theorem dq_MO_look_68 : decode (fx_cc mq_MO_look) 68 = .ok (.iload_n 2, 1) := by decide +kernel
theorem dq_MO_look_69 : decode (fx_cc mq_MO_look) 69 = .ok (.iaload, 1) := by decide +kernel
theorem dq_MO_look_70 : decode (fx_cc mq_MO_look) 70 = .ok (.if_icmp .ge 56, 3) := by decide +kernel
theorem dq_MO_look_73 : decode (fx_cc mq_MO_look) 73 = .ok (.aload_n 0, 1) := by decide +kernel
theorem dq_MO_look_74 : decode (fx_cc mq_MO_look) 74 = .ok (.getfield 123, 3) := by decide +kernel
theorem dq_MO_look_77 : decode (fx_cc mq_MO_look) 77 = .ok (.bipush 20, 2) := by decide +kernel
theorem dq_MO_look_79 : decode (fx_cc mq_MO_look) 79 = .ok (.aload_n 0, 1) := by decide +kernel
theorem dq_MO_look_80 : decode (fx_cc mq_MO_look) 80 = .ok (.getfield 111, 3) := by decide +kernel
theorem dq_MO_look_83 : decode (fx_cc mq_MO_look) 83 = .ok (.iload_n 2, 1) := by decide +kernel
theorem dq_MO_look_84 : decode (fx_cc mq_MO_look) 84 = .ok (.iaload, 1) := by decide +kernel
theorem dq_MO_look_85 : decode (fx_cc mq_MO_look) 85 = .ok (.iload_n 3, 1) := by decide +kernel
theorem dq_MO_look_86 : decode (fx_cc mq_MO_look) 86 = .ok (.iadd, 1) := by decide +kernel
theorem dq_MO_look_87 : decode (fx_cc mq_MO_look) 87 = .ok (.imul, 1) := by decide +kernel
theorem dq_MO_look_88 : decode (fx_cc mq_MO_look) 88 = .ok (.aload_n 0, 1) := by decide +kernel
theorem dq_MO_look_89 : decode (fx_cc mq_MO_look) 89 = .ok (.getfield 108, 3) := by decide +kernel
theorem dq_MO_look_92 : decode (fx_cc mq_MO_look) 92 = .ok (.iload_n 2, 1) := by decide +kernel
theorem dq_MO_look_93 : decode (fx_cc mq_MO_look) 93 = .ok (.iaload, 1) := by decide +kernel
theorem dq_MO_look_94 : decode (fx_cc mq_MO_look) 94 = .ok (.iadd, 1) := by decide +kernel
theorem dq_MO_look_95 : decode (fx_cc mq_MO_look) 95 = .ok (.iload 4, 2) := by decide +kernel
theorem dq_MO_look_97 : decode (fx_cc mq_MO_look) 97 = .ok (.iadd, 1) := by decide +kernel
theorem dq_MO_look_98 : decode (fx_cc mq_MO_look) 98 = .ok (.aload_n 0, 1) := by decide +kernel
theorem dq_MO_look_99 : decode (fx_cc mq_MO_look) 99 = .ok (.getfield 120, 3) := by decide +kernel
theorem dq_MO_look_102 : decode (fx_cc mq_MO_look) 102 = .ok (.bipush 24, 2) := by decide +kernel
theorem dq_MO_look_104 : decode (fx_cc mq_MO_look) 104 = .ok (.iload_n 2, 1) := by decide +kernel
theorem dq_MO_look_105 : decode (fx_cc mq_MO_look) 105 = .ok (.imul, 1) := by decide +kernel
theorem dq_MO_look_106 : decode (fx_cc mq_MO_look) 106 = .ok (.aload_n 0, 1) := by decide +kernel
theorem dq_MO_look_107 : decode (fx_cc mq_MO_look) 107 = .ok (.getfield 114, 3) := by decide +kernel
theorem dq_MO_look_110 : decode (fx_cc mq_MO_look) 110 = .ok (.iload_n 2, 1) := by decide +kernel
theorem dq_MO_look_111 : decode (fx_cc mq_MO_look) 111 = .ok (.iaload, 1) := by decide +kernel
theorem dq_MO_look_112 : decode (fx_cc mq_MO_look) 112 = .ok (.iload_n 3, 1) := by decide +kernel
theorem dq_MO_look_113 : decode (fx_cc mq_MO_look) 113 = .ok (.imul, 1) := by decide +kernel
theorem dq_MO_look_114 : decode (fx_cc mq_MO_look) 114 = .ok (.iadd, 1) := by decide +kernel
theorem dq_MO_look_115 : decode (fx_cc mq_MO_look) 115 = .ok (.iload 4, 2) := by decide +kernel
theorem dq_MO_look_117 : decode (fx_cc mq_MO_look) 117 = .ok (.iadd, 1) := by decide +kernel
theorem dq_MO_look_118 : decode (fx_cc mq_MO_look) 118 = .ok (.iaload, 1) := by decide +kernel
theorem dq_MO_look_119 : decode (fx_cc mq_MO_look) 119 = .ok (.iastore, 1) := by decide +kernel
theorem dq_MO_look_120 : decode (fx_cc mq_MO_look) 120 = .ok (.iinc 4 1, 3) := by decide +kernel
theorem dq_MO_look_123 : decode (fx_cc mq_MO_look) 123 = .ok (.goto (-61), 3) := by decide +kernel
theorem dq_MO_look_126 : decode (fx_cc mq_MO_look) 126 = .ok (.iinc 3 1, 3) := by decide +kernel
theorem dq_MO_look_129 : decode (fx_cc mq_MO_look) 129 = .ok (.goto (-80), 3) := by decide +kernel
theorem dq_MO_look_132 : decode (fx_cc mq_MO_look) 132 = .ok (.iinc 2 1, 3) := by decide +kernel
theorem dq_MO_look_135 : decode (fx_cc mq_MO_look) 135 = .ok (.goto (-93), 3) := by decide +kernel
theorem dq_MO_look_138 : decode (fx_cc mq_MO_look) 138 = .ok (.aload_n 0, 1) := by decide +kernel
theorem dq_MO_look_139 : decode (fx_cc mq_MO_look) 139 = .ok (.aload_n 0, 1) := by decide +kernel
theorem dq_MO_look_140 : decode (fx_cc mq_MO_look) 140 = .ok (.getfield 247, 3) := by decide +kernel
theorem dq_MO_look_143 : decode (fx_cc mq_MO_look) 143 = .ok (.putfield 250, 3) := by decide +kernel
theorem dq_MO_look_146 : decode (fx_cc mq_MO_look) 146 = .ok (.aload_n 0, 1) := by decide +kernel
theorem dq_MO_look_147 : decode (fx_cc mq_MO_look) 147 = .ok (.dup, 1) := by decide +kernel
theorem dq_MO_look_148 : decode (fx_cc mq_MO_look) 148 = .ok (.getfield 253, 3) := by decide +kernel
theorem dq_MO_look_151 : decode (fx_cc mq_MO_look) 151 = .ok (.iconst 1, 1) := by decide +kernel
theorem dq_MO_look_152 : decode (fx_cc mq_MO_look) 152 = .ok (.iadd, 1) := by decide +kernel
theorem dq_MO_look_153 : decode (fx_cc mq_MO_look) 153 = .ok (.putfield 253, 3) := by decide +kernel
theorem dq_MO_look_156 : decode (fx_cc mq_MO_look) 156 = .ok (.return_, 1) := by decide +kernel
theorem dq_MO_change_0 : decode (fx_cc mq_MO_change) 0 = .ok (.aload_n 0, 1) := by decide +kernel
theorem dq_MO_change_1 : decode (fx_cc mq_MO_change) 1 = .ok (.iconst 1, 1) := by decide +kernel
theorem dq_MO_change_2 : decode (fx_cc mq_MO_change) 2 = .ok (.aload_n 0, 1) := by decide +kernel
theorem dq_MO_change_3 : decode (fx_cc mq_MO_change) 3 = .ok (.getfield 68, 3) := by decide +kernel
theorem dq_MO_change_6 : decode (fx_cc mq_MO_change) 6 = .ok (.isub, 1) := by decide +kernel
theorem dq_MO_change_7 : decode (fx_cc mq_MO_change) 7 = .ok (.putfield 68, 3) := by decide +kernel
theorem dq_MO_change_10 : decode (fx_cc mq_MO_change) 10 = .ok (.iconst 0, 1) := by decide +kernel
theorem dq_MO_change_11 : decode (fx_cc mq_MO_change) 11 = .ok (.istore_n 1, 1) := by decide +kernel
theorem dq_MO_change_12 : decode (fx_cc mq_MO_change) 12 = .ok (.iload_n 1, 1) := by decide +kernel
theorem dq_MO_change_13 : decode (fx_cc mq_MO_change) 13 = .ok (.iconst 2, 1) := by decide +kernel
theorem dq_MO_change_14 : decode (fx_cc mq_MO_change) 14 = .ok (.if_icmp .ge 155, 3) := by decide +kernel
theorem dq_MO_change_17 : decode (fx_cc mq_MO_change) 17 = .ok (.aload_n 0, 1) := by decide +kernel
theorem dq_MO_change_18 : decode (fx_cc mq_MO_change) 18 = .ok (.getfield 114, 3) := by decide +kernel
theorem dq_MO_change_21 : decode (fx_cc mq_MO_change) 21 = .ok (.iload_n 1, 1) := by decide +kernel
theorem dq_MO_change_22 : decode (fx_cc mq_MO_change) 22 = .ok (.iconst 0, 1) := by decide +kernel
theorem dq_MO_change_23 : decode (fx_cc mq_MO_change) 23 = .ok (.iastore, 1) := by decide +kernel
theorem dq_MO_change_24 : decode (fx_cc mq_MO_change) 24 = .ok (.aload_n 0, 1) := by decide +kernel
theorem dq_MO_change_25 : decode (fx_cc mq_MO_change) 25 = .ok (.getfield 117, 3) := by decide +kernel
theorem dq_MO_change_28 : decode (fx_cc mq_MO_change) 28 = .ok (.iload_n 1, 1) := by decide +kernel
theorem dq_MO_change_29 : decode (fx_cc mq_MO_change) 29 = .ok (.iconst 0, 1) := by decide +kernel
theorem dq_MO_change_30 : decode (fx_cc mq_MO_change) 30 = .ok (.iastore, 1) := by decide +kernel
theorem dq_MO_change_31 : decode (fx_cc mq_MO_change) 31 = .ok (.aload_n 0, 1) := by decide +kernel
theorem dq_MO_change_32 : decode (fx_cc mq_MO_change) 32 = .ok (.getfield 90, 3) := by decide +kernel
theorem dq_MO_change_35 : decode (fx_cc mq_MO_change) 35 = .ok (.iload_n 1, 1) := by decide +kernel
theorem dq_MO_change_36 : decode (fx_cc mq_MO_change) 36 = .ok (.iaload, 1) := by decide +kernel
theorem dq_MO_change_37 : decode (fx_cc mq_MO_change) 37 = .ok (.ifCond .ge 6, 3) := by decide +kernel
theorem dq_MO_change_40 : decode (fx_cc mq_MO_change) 40 = .ok (.goto 123, 3) := by decide +kernel
theorem dq_MO_change_43 : decode (fx_cc mq_MO_change) 43 = .ok (.aload_n 0, 1) := by decide +kernel
theorem dq_MO_change_44 : decode (fx_cc mq_MO_change) 44 = .ok (.bipush 20, 2) := by decide +kernel
theorem dq_MO_change_46 : decode (fx_cc mq_MO_change) 46 = .ok (.aload_n 0, 1) := by decide +kernel
theorem dq_MO_change_47 : decode (fx_cc mq_MO_change) 47 = .ok (.getfield 90, 3) := by decide +kernel
theorem dq_MO_change_50 : decode (fx_cc mq_MO_change) 50 = .ok (.iload_n 1, 1) := by decide +kernel
theorem dq_MO_change_51 : decode (fx_cc mq_MO_change) 51 = .ok (.iaload, 1) := by decide +kernel
theorem dq_MO_change_52 : decode (fx_cc mq_MO_change) 52 = .ok (.iadd, 1) := by decide +kernel
theorem dq_MO_change_53 : decode (fx_cc mq_MO_change) 53 = .ok (.invokevirtual 204, 3) := by decide +kernel
theorem dq_MO_change_56 : decode (fx_cc mq_MO_change) 56 = .ok (.aload_n 0, 1) := by decide +kernel
theorem dq_MO_change_57 : decode (fx_cc mq_MO_change) 57 = .ok (.getfield 108, 3) := by decide +kernel
theorem dq_MO_change_60 : decode (fx_cc mq_MO_change) 60 = .ok (.iload_n 1, 1) := by decide +kernel
theorem dq_MO_change_61 : decode (fx_cc mq_MO_change) 61 = .ok (.aload_n 0, 1) := by decide +kernel
theorem dq_MO_change_62 : decode (fx_cc mq_MO_change) 62 = .ok (.getfield 141, 3) := by decide +kernel
theorem dq_MO_change_65 : decode (fx_cc mq_MO_change) 65 = .ok (.iastore, 1) := by decide +kernel
theorem dq_MO_change_66 : decode (fx_cc mq_MO_change) 66 = .ok (.aload_n 0, 1) := by decide +kernel
theorem dq_MO_change_67 : decode (fx_cc mq_MO_change) 67 = .ok (.getfield 111, 3) := by decide +kernel
theorem dq_MO_change_70 : decode (fx_cc mq_MO_change) 70 = .ok (.iload_n 1, 1) := by decide +kernel
theorem dq_MO_change_71 : decode (fx_cc mq_MO_change) 71 = .ok (.aload_n 0, 1) := by decide +kernel
theorem dq_MO_change_72 : decode (fx_cc mq_MO_change) 72 = .ok (.getfield 147, 3) := by decide +kernel
theorem dq_MO_change_75 : decode (fx_cc mq_MO_change) 75 = .ok (.iastore, 1) := by decide +kernel
theorem dq_MO_change_76 : decode (fx_cc mq_MO_change) 76 = .ok (.aload_n 0, 1) := by decide +kernel
theorem dq_MO_change_77 : decode (fx_cc mq_MO_change) 77 = .ok (.getfield 114, 3) := by decide +kernel
theorem dq_MO_change_80 : decode (fx_cc mq_MO_change) 80 = .ok (.iload_n 1, 1) := by decide +kernel
theorem dq_MO_change_81 : decode (fx_cc mq_MO_change) 81 = .ok (.aload_n 0, 1) := by decide +kernel
theorem dq_MO_change_82 : decode (fx_cc mq_MO_change) 82 = .ok (.getfield 144, 3) := by decide +kernel
theorem dq_MO_change_85 : decode (fx_cc mq_MO_change) 85 = .ok (.iastore, 1) := by decide +kernel
theorem dq_MO_change_86 : decode (fx_cc mq_MO_change) 86 = .ok (.aload_n 0, 1) := by decide +kernel
theorem dq_MO_change_87 : decode (fx_cc mq_MO_change) 87 = .ok (.getfield 117, 3) := by decide +kernel
theorem dq_MO_change_90 : decode (fx_cc mq_MO_change) 90 = .ok (.iload_n 1, 1) := by decide +kernel
theorem dq_MO_change_91 : decode (fx_cc mq_MO_change) 91 = .ok (.aload_n 0, 1) := by decide +kernel
theorem dq_MO_change_92 : decode (fx_cc mq_MO_change) 92 = .ok (.getfield 150, 3) := by decide +kernel
theorem dq_MO_change_95 : decode (fx_cc mq_MO_change) 95 = .ok (.iastore, 1) := by decide +kernel
theorem dq_MO_change_96 : decode (fx_cc mq_MO_change) 96 = .ok (.iconst 0, 1) := by decide +kernel
theorem dq_MO_change_97 : decode (fx_cc mq_MO_change) 97 = .ok (.istore_n 2, 1) := by decide +kernel
theorem dq_MO_change_98 : decode (fx_cc mq_MO_change) 98 = .ok (.iload_n 2, 1) := by decide +kernel
theorem dq_MO_change_99 : decode (fx_cc mq_MO_change) 99 = .ok (.aload_n 0, 1) := by decide +kernel
theorem dq_MO_change_100 : decode (fx_cc mq_MO_change) 100 = .ok (.getfield 144, 3) := by decide +kernel
theorem dq_MO_change_103 : decode (fx_cc mq_MO_change) 103 = .ok (.aload_n 0, 1) := by decide +kernel
theorem dq_MO_change_104 : decode (fx_cc mq_MO_change) 104 = .ok (.getfield 150, 3) := by decide +kernel
theorem dq_MO_change_107 : decode (fx_cc mq_MO_change) 107 = .ok (.imul, 1) := by decide +kernel
theorem dq_MO_change_108 : decode (fx_cc mq_MO_change) 108 = .ok (.if_icmp .ge 55, 3) := by decide +kernel
theorem dq_MO_change_111 : decode (fx_cc mq_MO_change) 111 = .ok (.aload_n 0, 1) := by decide +kernel
theorem dq_MO_change_112 : decode (fx_cc mq_MO_change) 112 = .ok (.getfield 120, 3) := by decide +kernel
theorem dq_MO_change_115 : decode (fx_cc mq_MO_change) 115 = .ok (.bipush 24, 2) := by decide +kernel
theorem dq_MO_change_117 : decode (fx_cc mq_MO_change) 117 = .ok (.iload_n 1, 1) := by decide +kernel
theorem dq_MO_change_118 : decode (fx_cc mq_MO_change) 118 = .ok (.imul, 1) := by decide +kernel
theorem dq_MO_change_119 : decode (fx_cc mq_MO_change) 119 = .ok (.iload_n 2, 1) := by decide +kernel
theorem dq_MO_change_120 : decode (fx_cc mq_MO_change) 120 = .ok (.iadd, 1) := by decide +kernel
theorem dq_MO_change_121 : decode (fx_cc mq_MO_change) 121 = .ok (.aload_n 0, 1) := by decide +kernel
theorem dq_MO_change_122 : decode (fx_cc mq_MO_change) 122 = .ok (.bipush 20, 2) := by decide +kernel
theorem dq_MO_change_124 : decode (fx_cc mq_MO_change) 124 = .ok (.aload_n 0, 1) := by decide +kernel
theorem dq_MO_change_125 : decode (fx_cc mq_MO_change) 125 = .ok (.getfield 90, 3) := by decide +kernel
theorem dq_MO_change_128 : decode (fx_cc mq_MO_change) 128 = .ok (.iload_n 1, 1) := by decide +kernel
theorem dq_MO_change_129 : decode (fx_cc mq_MO_change) 129 = .ok (.iaload, 1) := by decide +kernel
theorem dq_MO_change_130 : decode (fx_cc mq_MO_change) 130 = .ok (.iadd, 1) := by decide +kernel
theorem dq_MO_change_131 : decode (fx_cc mq_MO_change) 131 = .ok (.aload_n 0, 1) := by decide +kernel
theorem dq_MO_change_132 : decode (fx_cc mq_MO_change) 132 = .ok (.getfield 141, 3) := by decide +kernel
theorem dq_MO_change_135 : decode (fx_cc mq_MO_change) 135 = .ok (.iload_n 2, 1) := by decide +kernel
theorem dq_MO_change_136 : decode (fx_cc mq_MO_change) 136 = .ok (.aload_n 0, 1) := by decide +kernel
theorem dq_MO_change_137 : decode (fx_cc mq_MO_change) 137 = .ok (.getfield 144, 3) := by decide +kernel
theorem dq_MO_change_140 : decode (fx_cc mq_MO_change) 140 = .ok (.irem, 1) := by decide +kernel
theorem dq_MO_change_141 : decode (fx_cc mq_MO_change) 141 = .ok (.iadd, 1) := by decide +kernel
theorem dq_MO_change_142 : decode (fx_cc mq_MO_change) 142 = .ok (.aload_n 0, 1) := by decide +kernel
theorem dq_MO_change_143 : decode (fx_cc mq_MO_change) 143 = .ok (.getfield 147, 3) := by decide +kernel
theorem dq_MO_change_146 : decode (fx_cc mq_MO_change) 146 = .ok (.iload_n 2, 1) := by decide +kernel
theorem dq_MO_change_147 : decode (fx_cc mq_MO_change) 147 = .ok (.aload_n 0, 1) := by decide +kernel
theorem dq_MO_change_148 : decode (fx_cc mq_MO_change) 148 = .ok (.getfield 144, 3) := by decide +kernel
theorem dq_MO_change_151 : decode (fx_cc mq_MO_change) 151 = .ok (.idiv, 1) := by decide +kernel
theorem dq_MO_change_152 : decode (fx_cc mq_MO_change) 152 = .ok (.iadd, 1) := by decide +kernel
theorem dq_MO_change_153 : decode (fx_cc mq_MO_change) 153 = .ok (.invokevirtual 225, 3) := by decide +kernel
theorem dq_MO_change_156 : decode (fx_cc mq_MO_change) 156 = .ok (.iastore, 1) := by decide +kernel
theorem dq_MO_change_157 : decode (fx_cc mq_MO_change) 157 = .ok (.iinc 2 1, 3) := by decide +kernel
theorem dq_MO_change_160 : decode (fx_cc mq_MO_change) 160 = .ok (.goto (-62), 3) := by decide +kernel
theorem dq_MO_change_163 : decode (fx_cc mq_MO_change) 163 = .ok (.iinc 1 1, 3) := by decide +kernel
theorem dq_MO_change_166 : decode (fx_cc mq_MO_change) 166 = .ok (.goto (-154), 3) := by decide +kernel
theorem dq_MO_change_169 : decode (fx_cc mq_MO_change) 169 = .ok (.aload_n 0, 1) := by decide +kernel
theorem dq_MO_change_170 : decode (fx_cc mq_MO_change) 170 = .ok (.aload_n 0, 1) := by decide +kernel
theorem dq_MO_change_171 : decode (fx_cc mq_MO_change) 171 = .ok (.getfield 167, 3) := by decide +kernel
theorem dq_MO_change_174 : decode (fx_cc mq_MO_change) 174 = .ok (.putfield 247, 3) := by decide +kernel
theorem dq_MO_change_177 : decode (fx_cc mq_MO_change) 177 = .ok (.aload_n 0, 1) := by decide +kernel
theorem dq_MO_change_178 : decode (fx_cc mq_MO_change) 178 = .ok (.iconst 0, 1) := by decide +kernel
theorem dq_MO_change_179 : decode (fx_cc mq_MO_change) 179 = .ok (.putfield 216, 3) := by decide +kernel
theorem dq_MO_change_182 : decode (fx_cc mq_MO_change) 182 = .ok (.return_, 1) := by decide +kernel
theorem dq_MO_state_0 : decode (fx_cc mq_MO_state) 0 = .ok (.aload_n 0, 1) := by decide +kernel
theorem dq_MO_state_1 : decode (fx_cc mq_MO_state) 1 = .ok (.iconst 0, 1) := by decide +kernel
theorem dq_MO_state_2 : decode (fx_cc mq_MO_state) 2 = .ok (.putfield 126, 3) := by decide +kernel
theorem dq_MO_state_5 : decode (fx_cc mq_MO_state) 5 = .ok (.aload_n 0, 1) := by decide +kernel
theorem dq_MO_state_6 : decode (fx_cc mq_MO_state) 6 = .ok (.getfield 216, 3) := by decide +kernel
theorem dq_MO_state_9 : decode (fx_cc mq_MO_state) 9 = .ok (.ireturn, 1) := by decide +kernel
theorem dq_MO_seen_0 : decode (fx_cc mq_MO_seen) 0 = .ok (.aload_n 0, 1) := by decide +kernel
theorem dq_MO_seen_1 : decode (fx_cc mq_MO_seen) 1 = .ok (.iconst 0, 1) := by decide +kernel
theorem dq_MO_seen_2 : decode (fx_cc mq_MO_seen) 2 = .ok (.putfield 126, 3) := by decide +kernel
theorem dq_MO_seen_5 : decode (fx_cc mq_MO_seen) 5 = .ok (.iload_n 1, 1) := by decide +kernel
theorem dq_MO_seen_6 : decode (fx_cc mq_MO_seen) 6 = .ok (.iload_n 2, 1) := by decide +kernel
theorem dq_MO_seen_7 : decode (fx_cc mq_MO_seen) 7 = .ok (.invokestatic 265, 3) := by decide +kernel
theorem dq_MO_seen_10 : decode (fx_cc mq_MO_seen) 10 = .ok (.ifCond .eq 17, 3) := by decide +kernel
theorem dq_MO_seen_13 : decode (fx_cc mq_MO_seen) 13 = .ok (.aload_n 0, 1) := by decide +kernel
theorem dq_MO_seen_14 : decode (fx_cc mq_MO_seen) 14 = .ok (.getfield 123, 3) := by decide +kernel
theorem dq_MO_seen_17 : decode (fx_cc mq_MO_seen) 17 = .ok (.bipush 20, 2) := by decide +kernel
theorem dq_MO_seen_19 : decode (fx_cc mq_MO_seen) 19 = .ok (.iload_n 2, 1) := by decide +kernel
theorem dq_MO_seen_20 : decode (fx_cc mq_MO_seen) 20 = .ok (.imul, 1) := by decide +kernel
theorem dq_MO_seen_21 : decode (fx_cc mq_MO_seen) 21 = .ok (.iload_n 1, 1) := by decide +kernel
theorem dq_MO_seen_22 : decode (fx_cc mq_MO_seen) 22 = .ok (.iadd, 1) := by decide +kernel
theorem dq_MO_seen_23 : decode (fx_cc mq_MO_seen) 23 = .ok (.iaload, 1) := by decide +kernel
theorem dq_MO_seen_24 : decode (fx_cc mq_MO_seen) 24 = .ok (.goto 4, 3) := by decide +kernel
theorem dq_MO_seen_27 : decode (fx_cc mq_MO_seen) 27 = .ok (.iconst (-1), 1) := by decide +kernel
theorem dq_MO_seen_28 : decode (fx_cc mq_MO_seen) 28 = .ok (.ireturn, 1) := by decide +kernel
theorem dq_MO_isPixel_0 : decode (fx_cc mq_MO_isPixel) 0 = .ok (.iload_n 0, 1) := by decide +kernel
theorem dq_MO_isPixel_1 : decode (fx_cc mq_MO_isPixel) 1 = .ok (.ifCond .lt 23, 3) := by decide +kernel
theorem dq_MO_isPixel_4 : decode (fx_cc mq_MO_isPixel) 4 = .ok (.iload_n 0, 1) := by decide +kernel
theorem dq_MO_isPixel_5 : decode (fx_cc mq_MO_isPixel) 5 = .ok (.bipush 20, 2) := by decide +kernel
theorem dq_MO_isPixel_7 : decode (fx_cc mq_MO_isPixel) 7 = .ok (.if_icmp .ge 17, 3) := by decide +kernel
theorem dq_MO_isPixel_10 : decode (fx_cc mq_MO_isPixel) 10 = .ok (.iload_n 1, 1) := by decide +kernel
theorem dq_MO_isPixel_11 : decode (fx_cc mq_MO_isPixel) 11 = .ok (.ifCond .lt 13, 3) := by decide +kernel
theorem dq_MO_isPixel_14 : decode (fx_cc mq_MO_isPixel) 14 = .ok (.iload_n 1, 1) := by decide +kernel
theorem dq_MO_isPixel_15 : decode (fx_cc mq_MO_isPixel) 15 = .ok (.bipush 10, 2) := by decide +kernel
theorem dq_MO_isPixel_17 : decode (fx_cc mq_MO_isPixel) 17 = .ok (.if_icmp .ge 7, 3) := by decide +kernel
theorem dq_MO_isPixel_20 : decode (fx_cc mq_MO_isPixel) 20 = .ok (.iconst 1, 1) := by decide +kernel
theorem dq_MO_isPixel_21 : decode (fx_cc mq_MO_isPixel) 21 = .ok (.goto 4, 3) := by decide +kernel
theorem dq_MO_isPixel_24 : decode (fx_cc mq_MO_isPixel) 24 = .ok (.iconst 0, 1) := by decide +kernel
theorem dq_MO_isPixel_25 : decode (fx_cc mq_MO_isPixel) 25 = .ok (.ireturn, 1) := by decide +kernel
theorem dq_MO_wanted_0 : decode (fx_cc mq_MO_wanted) 0 = .ok (.aload_n 0, 1) := by decide +kernel
theorem dq_MO_wanted_1 : decode (fx_cc mq_MO_wanted) 1 = .ok (.iconst 0, 1) := by decide +kernel
theorem dq_MO_wanted_2 : decode (fx_cc mq_MO_wanted) 2 = .ok (.putfield 126, 3) := by decide +kernel
theorem dq_MO_wanted_5 : decode (fx_cc mq_MO_wanted) 5 = .ok (.iload_n 1, 1) := by decide +kernel
theorem dq_MO_wanted_6 : decode (fx_cc mq_MO_wanted) 6 = .ok (.iload_n 2, 1) := by decide +kernel
theorem dq_MO_wanted_7 : decode (fx_cc mq_MO_wanted) 7 = .ok (.invokestatic 265, 3) := by decide +kernel
theorem dq_MO_wanted_10 : decode (fx_cc mq_MO_wanted) 10 = .ok (.ifCond .ne 5, 3) := by decide +kernel
theorem dq_MO_wanted_13 : decode (fx_cc mq_MO_wanted) 13 = .ok (.iconst (-1), 1) := by decide +kernel
theorem dq_MO_wanted_14 : decode (fx_cc mq_MO_wanted) 14 = .ok (.ireturn, 1) := by decide +kernel
end
section
/-! ===== a row for each instruction ===== -/
theorem dq_MO_wanted_15 : decode (fx_cc mq_MO_wanted) 15 = .ok (.iconst 0, 1) := by decide +kernel
theorem dq_MO_wanted_16 : decode (fx_cc mq_MO_wanted) 16 = .ok (.istore_n 3, 1) := by decide +kernel
theorem dq_MO_wanted_17 : decode (fx_cc mq_MO_wanted) 17 = .ok (.iconst 0, 1) := by decide +kernel
theorem dq_MO_wanted_18 : decode (fx_cc mq_MO_wanted) 18 = .ok (.istore 4, 2) := by decide +kernel
theorem dq_MO_wanted_20 : decode (fx_cc mq_MO_wanted) 20 = .ok (.iload 4, 2) := by decide +kernel
theorem dq_MO_wanted_22 : decode (fx_cc mq_MO_wanted) 22 = .ok (.bipush 10, 2) := by decide +kernel
theorem dq_MO_wanted_24 : decode (fx_cc mq_MO_wanted) 24 = .ok (.if_icmp .ge 94, 3) := by decide +kernel
theorem dq_MO_wanted_27 : decode (fx_cc mq_MO_wanted) 27 = .ok (.aload_n 0, 1) := by decide +kernel
theorem dq_MO_wanted_28 : decode (fx_cc mq_MO_wanted) 28 = .ok (.bipush 10, 2) := by decide +kernel
theorem dq_MO_wanted_30 : decode (fx_cc mq_MO_wanted) 30 = .ok (.iload 4, 2) := by decide +kernel
theorem dq_MO_wanted_32 : decode (fx_cc mq_MO_wanted) 32 = .ok (.invokevirtual 201, 3) := by decide +kernel
theorem dq_MO_wanted_35 : decode (fx_cc mq_MO_wanted) 35 = .ok (.istore 5, 2) := by decide +kernel
theorem dq_MO_wanted_37 : decode (fx_cc mq_MO_wanted) 37 = .ok (.iload 5, 2) := by decide +kernel
theorem dq_MO_wanted_39 : decode (fx_cc mq_MO_wanted) 39 = .ok (.ifCond .ge 5, 3) := by decide +kernel
theorem dq_MO_wanted_42 : decode (fx_cc mq_MO_wanted) 42 = .ok (.iload_n 3, 1) := by decide +kernel
theorem dq_MO_wanted_43 : decode (fx_cc mq_MO_wanted) 43 = .ok (.ireturn, 1) := by decide +kernel
theorem dq_MO_wanted_44 : decode (fx_cc mq_MO_wanted) 44 = .ok (.aload_n 0, 1) := by decide +kernel
theorem dq_MO_wanted_45 : decode (fx_cc mq_MO_wanted) 45 = .ok (.iload 5, 2) := by decide +kernel
theorem dq_MO_wanted_47 : decode (fx_cc mq_MO_wanted) 47 = .ok (.invokevirtual 204, 3) := by decide +kernel
theorem dq_MO_wanted_50 : decode (fx_cc mq_MO_wanted) 50 = .ok (.iload_n 1, 1) := by decide +kernel
theorem dq_MO_wanted_51 : decode (fx_cc mq_MO_wanted) 51 = .ok (.aload_n 0, 1) := by decide +kernel
theorem dq_MO_wanted_52 : decode (fx_cc mq_MO_wanted) 52 = .ok (.getfield 141, 3) := by decide +kernel
theorem dq_MO_wanted_55 : decode (fx_cc mq_MO_wanted) 55 = .ok (.if_icmp .lt 57, 3) := by decide +kernel
theorem dq_MO_wanted_58 : decode (fx_cc mq_MO_wanted) 58 = .ok (.iload_n 1, 1) := by decide +kernel
theorem dq_MO_wanted_59 : decode (fx_cc mq_MO_wanted) 59 = .ok (.aload_n 0, 1) := by decide +kernel
theorem dq_MO_wanted_60 : decode (fx_cc mq_MO_wanted) 60 = .ok (.getfield 141, 3) := by decide +kernel
theorem dq_MO_wanted_63 : decode (fx_cc mq_MO_wanted) 63 = .ok (.aload_n 0, 1) := by decide +kernel
theorem dq_MO_wanted_64 : decode (fx_cc mq_MO_wanted) 64 = .ok (.getfield 144, 3) := by decide +kernel
theorem dq_MO_wanted_67 : decode (fx_cc mq_MO_wanted) 67 = .ok (.iadd, 1) := by decide +kernel
theorem dq_MO_wanted_68 : decode (fx_cc mq_MO_wanted) 68 = .ok (.if_icmp .ge 44, 3) := by decide +kernel
theorem dq_MO_wanted_71 : decode (fx_cc mq_MO_wanted) 71 = .ok (.iload_n 2, 1) := by decide +kernel
theorem dq_MO_wanted_72 : decode (fx_cc mq_MO_wanted) 72 = .ok (.aload_n 0, 1) := by decide +kernel
theorem dq_MO_wanted_73 : decode (fx_cc mq_MO_wanted) 73 = .ok (.getfield 147, 3) := by decide +kernel
theorem dq_MO_wanted_76 : decode (fx_cc mq_MO_wanted) 76 = .ok (.if_icmp .lt 36, 3) := by decide +kernel
theorem dq_MO_wanted_79 : decode (fx_cc mq_MO_wanted) 79 = .ok (.iload_n 2, 1) := by decide +kernel
theorem dq_MO_wanted_80 : decode (fx_cc mq_MO_wanted) 80 = .ok (.aload_n 0, 1) := by decide +kernel
theorem dq_MO_wanted_81 : decode (fx_cc mq_MO_wanted) 81 = .ok (.getfield 147, 3) := by decide +kernel
theorem dq_MO_wanted_84 : decode (fx_cc mq_MO_wanted) 84 = .ok (.aload_n 0, 1) := by decide +kernel
theorem dq_MO_wanted_85 : decode (fx_cc mq_MO_wanted) 85 = .ok (.getfield 150, 3) := by decide +kernel
theorem dq_MO_wanted_88 : decode (fx_cc mq_MO_wanted) 88 = .ok (.iadd, 1) := by decide +kernel
theorem dq_MO_wanted_89 : decode (fx_cc mq_MO_wanted) 89 = .ok (.if_icmp .ge 23, 3) := by decide +kernel
theorem dq_MO_wanted_92 : decode (fx_cc mq_MO_wanted) 92 = .ok (.aload_n 0, 1) := by decide +kernel
theorem dq_MO_wanted_93 : decode (fx_cc mq_MO_wanted) 93 = .ok (.iload 5, 2) := by decide +kernel
theorem dq_MO_wanted_95 : decode (fx_cc mq_MO_wanted) 95 = .ok (.iload_n 1, 1) := by decide +kernel
theorem dq_MO_wanted_96 : decode (fx_cc mq_MO_wanted) 96 = .ok (.iload_n 2, 1) := by decide +kernel
theorem dq_MO_wanted_97 : decode (fx_cc mq_MO_wanted) 97 = .ok (.invokevirtual 225, 3) := by decide +kernel
theorem dq_MO_wanted_100 : decode (fx_cc mq_MO_wanted) 100 = .ok (.iload_n 3, 1) := by decide +kernel
theorem dq_MO_wanted_101 : decode (fx_cc mq_MO_wanted) 101 = .ok (.aload_n 0, 1) := by decide +kernel
theorem dq_MO_wanted_102 : decode (fx_cc mq_MO_wanted) 102 = .ok (.getfield 41, 3) := by decide +kernel
theorem dq_MO_wanted_105 : decode (fx_cc mq_MO_wanted) 105 = .ok (.iload 5, 2) := by decide +kernel
theorem dq_MO_wanted_107 : decode (fx_cc mq_MO_wanted) 107 = .ok (.iaload, 1) := by decide +kernel
theorem dq_MO_wanted_108 : decode (fx_cc mq_MO_wanted) 108 = .ok (.invokestatic 229, 3) := by decide +kernel
theorem dq_MO_wanted_111 : decode (fx_cc mq_MO_wanted) 111 = .ok (.istore_n 3, 1) := by decide +kernel
theorem dq_MO_wanted_112 : decode (fx_cc mq_MO_wanted) 112 = .ok (.iinc 4 1, 3) := by decide +kernel
theorem dq_MO_wanted_115 : decode (fx_cc mq_MO_wanted) 115 = .ok (.goto (-95), 3) := by decide +kernel
theorem dq_MO_wanted_118 : decode (fx_cc mq_MO_wanted) 118 = .ok (.iload_n 3, 1) := by decide +kernel
theorem dq_MO_wanted_119 : decode (fx_cc mq_MO_wanted) 119 = .ok (.ireturn, 1) := by decide +kernel
theorem dq_MO_count_0 : decode (fx_cc mq_MO_count) 0 = .ok (.aload_n 0, 1) := by decide +kernel
theorem dq_MO_count_1 : decode (fx_cc mq_MO_count) 1 = .ok (.iconst 0, 1) := by decide +kernel
theorem dq_MO_count_2 : decode (fx_cc mq_MO_count) 2 = .ok (.putfield 126, 3) := by decide +kernel
theorem dq_MO_count_5 : decode (fx_cc mq_MO_count) 5 = .ok (.iload_n 1, 1) := by decide +kernel
theorem dq_MO_count_6 : decode (fx_cc mq_MO_count) 6 = .ok (.ifCond .ne 10, 3) := by decide +kernel
theorem dq_MO_count_9 : decode (fx_cc mq_MO_count) 9 = .ok (.aload_n 0, 1) := by decide +kernel
theorem dq_MO_count_10 : decode (fx_cc mq_MO_count) 10 = .ok (.getfield 253, 3) := by decide +kernel
theorem dq_MO_count_13 : decode (fx_cc mq_MO_count) 13 = .ok (.goto 28, 3) := by decide +kernel
theorem dq_MO_count_16 : decode (fx_cc mq_MO_count) 16 = .ok (.iload_n 1, 1) := by decide +kernel
theorem dq_MO_count_17 : decode (fx_cc mq_MO_count) 17 = .ok (.iconst 1, 1) := by decide +kernel
theorem dq_MO_count_18 : decode (fx_cc mq_MO_count) 18 = .ok (.if_icmp .ne 10, 3) := by decide +kernel
theorem dq_MO_count_21 : decode (fx_cc mq_MO_count) 21 = .ok (.aload_n 0, 1) := by decide +kernel
theorem dq_MO_count_22 : decode (fx_cc mq_MO_count) 22 = .ok (.getfield 250, 3) := by decide +kernel
theorem dq_MO_count_25 : decode (fx_cc mq_MO_count) 25 = .ok (.goto 16, 3) := by decide +kernel
theorem dq_MO_count_28 : decode (fx_cc mq_MO_count) 28 = .ok (.iload_n 1, 1) := by decide +kernel
theorem dq_MO_count_29 : decode (fx_cc mq_MO_count) 29 = .ok (.iconst 2, 1) := by decide +kernel
theorem dq_MO_count_30 : decode (fx_cc mq_MO_count) 30 = .ok (.if_icmp .ne 10, 3) := by decide +kernel
theorem dq_MO_count_33 : decode (fx_cc mq_MO_count) 33 = .ok (.aload_n 0, 1) := by decide +kernel
theorem dq_MO_count_34 : decode (fx_cc mq_MO_count) 34 = .ok (.getfield 167, 3) := by decide +kernel
theorem dq_MO_count_37 : decode (fx_cc mq_MO_count) 37 = .ok (.goto 4, 3) := by decide +kernel
theorem dq_MO_count_40 : decode (fx_cc mq_MO_count) 40 = .ok (.iconst (-1), 1) := by decide +kernel
theorem dq_MO_count_41 : decode (fx_cc mq_MO_count) 41 = .ok (.ireturn, 1) := by decide +kernel
theorem dq_MO_missed_0 : decode (fx_cc mq_MO_missed) 0 = .ok (.aload_n 0, 1) := by decide +kernel
theorem dq_MO_missed_1 : decode (fx_cc mq_MO_missed) 1 = .ok (.iconst 0, 1) := by decide +kernel
theorem dq_MO_missed_2 : decode (fx_cc mq_MO_missed) 2 = .ok (.putfield 126, 3) := by decide +kernel
theorem dq_MO_missed_5 : decode (fx_cc mq_MO_missed) 5 = .ok (.iload_n 1, 1) := by decide +kernel
theorem dq_MO_missed_6 : decode (fx_cc mq_MO_missed) 6 = .ok (.ifCond .lt 16, 3) := by decide +kernel
theorem dq_MO_missed_9 : decode (fx_cc mq_MO_missed) 9 = .ok (.iload_n 1, 1) := by decide +kernel
theorem dq_MO_missed_10 : decode (fx_cc mq_MO_missed) 10 = .ok (.aload_n 0, 1) := by decide +kernel
theorem dq_MO_missed_11 : decode (fx_cc mq_MO_missed) 11 = .ok (.getfield 75, 3) := by decide +kernel
theorem dq_MO_missed_14 : decode (fx_cc mq_MO_missed) 14 = .ok (.aload_n 0, 1) := by decide +kernel
theorem dq_MO_missed_15 : decode (fx_cc mq_MO_missed) 15 = .ok (.getfield 68, 3) := by decide +kernel
theorem dq_MO_missed_18 : decode (fx_cc mq_MO_missed) 18 = .ok (.iaload, 1) := by decide +kernel
theorem dq_MO_missed_19 : decode (fx_cc mq_MO_missed) 19 = .ok (.if_icmp .lt 5, 3) := by decide +kernel
theorem dq_MO_missed_22 : decode (fx_cc mq_MO_missed) 22 = .ok (.iconst (-1), 1) := by decide +kernel
theorem dq_MO_missed_23 : decode (fx_cc mq_MO_missed) 23 = .ok (.ireturn, 1) := by decide +kernel
theorem dq_MO_missed_24 : decode (fx_cc mq_MO_missed) 24 = .ok (.bipush 7, 2) := by decide +kernel
theorem dq_MO_missed_26 : decode (fx_cc mq_MO_missed) 26 = .ok (.aload_n 0, 1) := by decide +kernel
theorem dq_MO_missed_27 : decode (fx_cc mq_MO_missed) 27 = .ok (.getfield 68, 3) := by decide +kernel
theorem dq_MO_missed_30 : decode (fx_cc mq_MO_missed) 30 = .ok (.imul, 1) := by decide +kernel
theorem dq_MO_missed_31 : decode (fx_cc mq_MO_missed) 31 = .ok (.iload_n 1, 1) := by decide +kernel
theorem dq_MO_missed_32 : decode (fx_cc mq_MO_missed) 32 = .ok (.iadd, 1) := by decide +kernel
theorem dq_MO_missed_33 : decode (fx_cc mq_MO_missed) 33 = .ok (.istore_n 3, 1) := by decide +kernel
theorem dq_MO_missed_34 : decode (fx_cc mq_MO_missed) 34 = .ok (.iload_n 2, 1) := by decide +kernel
theorem dq_MO_missed_35 : decode (fx_cc mq_MO_missed) 35 = .ok (.ifCond .ne 12, 3) := by decide +kernel
theorem dq_MO_missed_38 : decode (fx_cc mq_MO_missed) 38 = .ok (.aload_n 0, 1) := by decide +kernel
theorem dq_MO_missed_39 : decode (fx_cc mq_MO_missed) 39 = .ok (.getfield 78, 3) := by decide +kernel
theorem dq_MO_missed_42 : decode (fx_cc mq_MO_missed) 42 = .ok (.iload_n 3, 1) := by decide +kernel
theorem dq_MO_missed_43 : decode (fx_cc mq_MO_missed) 43 = .ok (.iaload, 1) := by decide +kernel
theorem dq_MO_missed_44 : decode (fx_cc mq_MO_missed) 44 = .ok (.goto 46, 3) := by decide +kernel
theorem dq_MO_missed_47 : decode (fx_cc mq_MO_missed) 47 = .ok (.iload_n 2, 1) := by decide +kernel
theorem dq_MO_missed_48 : decode (fx_cc mq_MO_missed) 48 = .ok (.iconst 1, 1) := by decide +kernel
theorem dq_MO_missed_49 : decode (fx_cc mq_MO_missed) 49 = .ok (.if_icmp .ne 12, 3) := by decide +kernel
theorem dq_MO_missed_52 : decode (fx_cc mq_MO_missed) 52 = .ok (.aload_n 0, 1) := by decide +kernel
theorem dq_MO_missed_53 : decode (fx_cc mq_MO_missed) 53 = .ok (.getfield 81, 3) := by decide +kernel
theorem dq_MO_missed_56 : decode (fx_cc mq_MO_missed) 56 = .ok (.iload_n 3, 1) := by decide +kernel
theorem dq_MO_missed_57 : decode (fx_cc mq_MO_missed) 57 = .ok (.iaload, 1) := by decide +kernel
theorem dq_MO_missed_58 : decode (fx_cc mq_MO_missed) 58 = .ok (.goto 32, 3) := by decide +kernel
theorem dq_MO_missed_61 : decode (fx_cc mq_MO_missed) 61 = .ok (.iload_n 2, 1) := by decide +kernel
theorem dq_MO_missed_62 : decode (fx_cc mq_MO_missed) 62 = .ok (.iconst 2, 1) := by decide +kernel
theorem dq_MO_missed_63 : decode (fx_cc mq_MO_missed) 63 = .ok (.if_icmp .ne 12, 3) := by decide +kernel
theorem dq_MO_missed_66 : decode (fx_cc mq_MO_missed) 66 = .ok (.aload_n 0, 1) := by decide +kernel
theorem dq_MO_missed_67 : decode (fx_cc mq_MO_missed) 67 = .ok (.getfield 84, 3) := by decide +kernel
theorem dq_MO_missed_70 : decode (fx_cc mq_MO_missed) 70 = .ok (.iload_n 3, 1) := by decide +kernel
theorem dq_MO_missed_71 : decode (fx_cc mq_MO_missed) 71 = .ok (.iaload, 1) := by decide +kernel
theorem dq_MO_missed_72 : decode (fx_cc mq_MO_missed) 72 = .ok (.goto 18, 3) := by decide +kernel
theorem dq_MO_missed_75 : decode (fx_cc mq_MO_missed) 75 = .ok (.iload_n 2, 1) := by decide +kernel
theorem dq_MO_missed_76 : decode (fx_cc mq_MO_missed) 76 = .ok (.iconst 3, 1) := by decide +kernel
theorem dq_MO_missed_77 : decode (fx_cc mq_MO_missed) 77 = .ok (.if_icmp .ne 12, 3) := by decide +kernel
theorem dq_MO_missed_80 : decode (fx_cc mq_MO_missed) 80 = .ok (.aload_n 0, 1) := by decide +kernel
theorem dq_MO_missed_81 : decode (fx_cc mq_MO_missed) 81 = .ok (.getfield 87, 3) := by decide +kernel
theorem dq_MO_missed_84 : decode (fx_cc mq_MO_missed) 84 = .ok (.iload_n 3, 1) := by decide +kernel
theorem dq_MO_missed_85 : decode (fx_cc mq_MO_missed) 85 = .ok (.iaload, 1) := by decide +kernel
theorem dq_MO_missed_86 : decode (fx_cc mq_MO_missed) 86 = .ok (.goto 4, 3) := by decide +kernel
theorem dq_MO_missed_89 : decode (fx_cc mq_MO_missed) 89 = .ok (.iconst (-1), 1) := by decide +kernel
theorem dq_MO_missed_90 : decode (fx_cc mq_MO_missed) 90 = .ok (.ireturn, 1) := by decide +kernel
theorem dq_MO_plane_0 : decode (fx_cc mq_MO_plane) 0 = .ok (.aload_n 0, 1) := by decide +kernel
theorem dq_MO_plane_1 : decode (fx_cc mq_MO_plane) 1 = .ok (.iconst 0, 1) := by decide +kernel
theorem dq_MO_plane_2 : decode (fx_cc mq_MO_plane) 2 = .ok (.putfield 126, 3) := by decide +kernel
theorem dq_MO_plane_5 : decode (fx_cc mq_MO_plane) 5 = .ok (.iload_n 1, 1) := by decide +kernel
theorem dq_MO_plane_6 : decode (fx_cc mq_MO_plane) 6 = .ok (.ifCond .eq 8, 3) := by decide +kernel
theorem dq_MO_plane_9 : decode (fx_cc mq_MO_plane) 9 = .ok (.iload_n 1, 1) := by decide +kernel
theorem dq_MO_plane_10 : decode (fx_cc mq_MO_plane) 10 = .ok (.iconst 1, 1) := by decide +kernel
theorem dq_MO_plane_11 : decode (fx_cc mq_MO_plane) 11 = .ok (.if_icmp .ne 12, 3) := by decide +kernel
theorem dq_MO_plane_14 : decode (fx_cc mq_MO_plane) 14 = .ok (.aload_n 0, 1) := by decide +kernel
theorem dq_MO_plane_15 : decode (fx_cc mq_MO_plane) 15 = .ok (.getfield 90, 3) := by decide +kernel
theorem dq_MO_plane_18 : decode (fx_cc mq_MO_plane) 18 = .ok (.iload_n 1, 1) := by decide +kernel
theorem dq_MO_plane_19 : decode (fx_cc mq_MO_plane) 19 = .ok (.iaload, 1) := by decide +kernel
theorem dq_MO_plane_20 : decode (fx_cc mq_MO_plane) 20 = .ok (.goto 4, 3) := by decide +kernel
theorem dq_MO_plane_23 : decode (fx_cc mq_MO_plane) 23 = .ok (.iconst (-1), 1) := by decide +kernel
theorem dq_MO_plane_24 : decode (fx_cc mq_MO_plane) 24 = .ok (.ireturn, 1) := by decide +kernel
theorem dq_MO_free_0 : decode (fx_cc mq_MO_free) 0 = .ok (.aload_n 0, 1) := by decide +kernel
theorem dq_MO_free_1 : decode (fx_cc mq_MO_free) 1 = .ok (.iconst 0, 1) := by decide +kernel
theorem dq_MO_free_2 : decode (fx_cc mq_MO_free) 2 = .ok (.putfield 126, 3) := by decide +kernel
theorem dq_MO_free_5 : decode (fx_cc mq_MO_free) 5 = .ok (.aload_n 0, 1) := by decide +kernel
theorem dq_MO_free_6 : decode (fx_cc mq_MO_free) 6 = .ok (.invokevirtual 133, 3) := by decide +kernel
theorem dq_MO_free_9 : decode (fx_cc mq_MO_free) 9 = .ok (.ireturn, 1) := by decide +kernel
theorem dq_AR_fill_0 : decode (fx_cc mq_AR_fill) 0 = .ok (.iconst 0, 1) := by decide +kernel
theorem dq_AR_fill_1 : decode (fx_cc mq_AR_fill) 1 = .ok (.istore_n 2, 1) := by decide +kernel
theorem dq_AR_fill_2 : decode (fx_cc mq_AR_fill) 2 = .ok (.aload_n 0, 1) := by decide +kernel
theorem dq_AR_fill_3 : decode (fx_cc mq_AR_fill) 3 = .ok (.arraylength, 1) := by decide +kernel
theorem dq_AR_fill_4 : decode (fx_cc mq_AR_fill) 4 = .ok (.istore_n 3, 1) := by decide +kernel
theorem dq_AR_fill_5 : decode (fx_cc mq_AR_fill) 5 = .ok (.iload_n 2, 1) := by decide +kernel
theorem dq_AR_fill_6 : decode (fx_cc mq_AR_fill) 6 = .ok (.iload_n 3, 1) := by decide +kernel
theorem dq_AR_fill_7 : decode (fx_cc mq_AR_fill) 7 = .ok (.if_icmp .ge 13, 3) := by decide +kernel
theorem dq_AR_fill_10 : decode (fx_cc mq_AR_fill) 10 = .ok (.aload_n 0, 1) := by decide +kernel
theorem dq_AR_fill_11 : decode (fx_cc mq_AR_fill) 11 = .ok (.iload_n 2, 1) := by decide +kernel
theorem dq_AR_fill_12 : decode (fx_cc mq_AR_fill) 12 = .ok (.iload_n 1, 1) := by decide +kernel
theorem dq_AR_fill_13 : decode (fx_cc mq_AR_fill) 13 = .ok (.iastore, 1) := by decide +kernel
theorem dq_AR_fill_14 : decode (fx_cc mq_AR_fill) 14 = .ok (.iinc 2 1, 3) := by decide +kernel
theorem dq_AR_fill_17 : decode (fx_cc mq_AR_fill) 17 = .ok (.goto (-12), 3) := by decide +kernel
theorem dq_AR_fill_20 : decode (fx_cc mq_AR_fill) 20 = .ok (.return_, 1) := by decide +kernel
end
section
/-! ===== words of constants, of JDK members, of what is made ===== -/
theorem lk_LA_8 : Cond.classLink "FrameSwapperLaw" 8 "FrameSwapper" ∈ fx_tb := fx_m1 21 (by decide +kernel)
theorem lk_FS_7 : Cond.classLink "FrameSwapper" 7 "FrameSwapper$Desk" ∈ fx_tb := fx_m1 29 (by decide +kernel)
theorem lk_DE_9 : Cond.classLink "FrameSwapper$Desk" 9 "FrameSwapper$Picture" ∈ fx_tb := fx_m1 35 (by decide +kernel)
theorem lk_DE_17 : Cond.classLink "FrameSwapper$Desk" 17 "FrameSwapper$Pile" ∈ fx_tb := fx_m1 37 (by decide +kernel)
theorem lk_PL_9 : Cond.classLink "FrameSwapper$Pile" 9 "FrameSwapper$Picture" ∈ fx_tb := fx_m1 43 (by decide +kernel)
theorem lk_PI_15 : Cond.classLink "FrameSwapper$Picture" 15 "FrameSwapper$Rectangle" ∈ fx_tb := fx_m1 49 (by decide +kernel)
theorem lk_FS_16 : Cond.classLink "FrameSwapper" 16 "FrameSwapper$Composer" ∈ fx_tb := fx_m1 188 (by decide +kernel)
theorem lk_CO_9 : Cond.classLink "FrameSwapper$Composer" 9 "FrameSwapper$Pile" ∈ fx_tb := fx_m1 194 (by decide +kernel)
theorem lk_CO_18 : Cond.classLink "FrameSwapper$Composer" 18 "FrameSwapper$Planes" ∈ fx_tb := fx_m1 196 (by decide +kernel)
theorem lk_PN_15 : Cond.classLink "FrameSwapper$Planes" 15 "FrameSwapper$Rectangle" ∈ fx_tb := fx_m1 202 (by decide +kernel)
theorem lk_PN_22 : Cond.classLink "FrameSwapper$Planes" 22 "[[I" ∈ fx_tb := fx_m1 205 (by decide +kernel)
theorem lk_CO_29 : Cond.classLink "FrameSwapper$Composer" 29 "FrameSwapper$Rectangle" ∈ fx_tb := fx_m1 218 (by decide +kernel)
theorem lk_CO_35 : Cond.classLink "FrameSwapper$Composer" 35 "FrameSwapper$Memory" ∈ fx_tb := fx_m1 219 (by decide +kernel)
theorem lk_ME_15 : Cond.classLink "FrameSwapper$Memory" 15 "FrameSwapper$Misses" ∈ fx_tb := fx_m1 225 (by decide +kernel)
theorem lk_MI_9 : Cond.classLink "FrameSwapper$Misses" 9 "FrameSwapper$Rectangle" ∈ fx_tb := fx_m1 231 (by decide +kernel)
theorem lk_FS_23 : Cond.classLink "FrameSwapper" 23 "FrameSwapper$Beam" ∈ fx_tb := fx_m1 295 (by decide +kernel)
theorem lk_BE_9 : Cond.classLink "FrameSwapper$Beam" 9 "FrameSwapper$Planes" ∈ fx_tb := fx_m1 301 (by decide +kernel)
theorem lk_FS_30 : Cond.classLink "FrameSwapper" 30 "FrameSwapper$Rectangle" ∈ fx_tb := fx_m1 327 (by decide +kernel)
theorem lk_FS_37 : Cond.classLink "FrameSwapper" 37 "FrameSwapper$Picture" ∈ fx_tb := fx_m1 329 (by decide +kernel)
theorem lk_LA_13 : Cond.classLink "FrameSwapperLaw" 13 "java/lang/IllegalArgumentException" ∈ fx_tb := fx_m1 438 (by decide +kernel)
theorem lk_LA_15 : Cond.classLink "FrameSwapperLaw" 15 "java/lang/IllegalStateException" ∈ fx_tb := fx_m1 439 (by decide +kernel)
theorem lk_FS_254 : Cond.classLink "FrameSwapper" 254 "java/lang/IllegalArgumentException" ∈ fx_tb := fx_m1 450 (by decide +kernel)
theorem lk_FS_64 : Cond.classLink "FrameSwapper" 64 "java/lang/IllegalStateException" ∈ fx_tb := fx_m1 517 (by decide +kernel)
theorem lk_LA_33 : Cond.classLink "FrameSwapperLaw" 33 "java/lang/IndexOutOfBoundsException" ∈ fx_tb := fx_m1 604 (by decide +kernel)
theorem kq_FS_257 : Cond.constant "FrameSwapper" 257 65535 ∈ fx_tb := fx_m1 612 (by decide +kernel)
theorem lk_FS_126 : Cond.classLink "FrameSwapper" 126 "java/lang/IndexOutOfBoundsException" ∈ fx_tb := fx_m1 613 (by decide +kernel)
theorem lk_LA_51 : Cond.classLink "FrameSwapperLaw" 51 "FrameSwapperModel" ∈ fx_tb := fx_m1 796 (by decide +kernel)
theorem kq_MO_157 : Cond.constant "FrameSwapperModel" 157 65535 ∈ fx_tb := fx_m1 997 (by decide +kernel)
theorem kq_MO_186 : Cond.constant "FrameSwapperModel" 186 100000 ∈ fx_tb := fx_m1 1066 (by decide +kernel)
theorem kj_max : Cond.static Lib.Math.max.name ∈ fx_tb ∧ Cond.initialized "java/lang/Math" ∈ fx_tb ∧ Cond.code Lib.Math.max.name Lib.Math.max.code 2 (some .int) ∈ fx_tb := ⟨fx_m1 561 (by decide +kernel), fx_m1 18 (by decide +kernel), fx_m1 562 (by decide +kernel)⟩
theorem kj_min : Cond.static Lib.Math.min.name ∈ fx_tb ∧ Cond.initialized "java/lang/Math" ∈ fx_tb ∧ Cond.code Lib.Math.min.name Lib.Math.min.code 2 (some .int) ∈ fx_tb := ⟨fx_m1 558 (by decide +kernel), fx_m1 18 (by decide +kernel), fx_m1 559 (by decide +kernel)⟩
theorem kj_obj : Cond.instanceMethod Lib.objectInit ∈ fx_tb ∧ Cond.code Lib.objectInit ⟨#[0xb1]⟩ 1 none ∈ fx_tb := ⟨fx_m1 27 (by decide +kernel), fx_m1 28 (by decide +kernel)⟩
theorem kj_cp : Cond.native arraycopyName ∈ fx_tb ∧ Cond.static arraycopyName ∈ fx_tb ∧ Cond.initialized "java/lang/System" ∈ fx_tb := ⟨fx_m1 357 (by decide +kernel), fx_m1 356 (by decide +kernel), fx_m1 20 (by decide +kernel)⟩
theorem nw_FS : (∀ j, j < 5 → (fx_fk 0 j ≠ 2 → defaultValue (tq_FS j) = .int 0) ∧ (fx_fk 0 j = 2 → defaultValue (tq_FS j) = .null)) := by decide +kernel
theorem ko_FS : Cond.instantiable "FrameSwapper" 5 ∈ fx_tb := fx_m1 22 (by decide +kernel)
theorem nw_RE : (∀ j, j < 4 → (fx_fk 1 j ≠ 2 → defaultValue (tq_RE j) = .int 0) ∧ (fx_fk 1 j = 2 → defaultValue (tq_RE j) = .null)) := by decide +kernel
theorem ko_RE : Cond.instantiable "FrameSwapper$Rectangle" 4 ∈ fx_tb := fx_m1 50 (by decide +kernel)
theorem nw_PI : (∀ j, j < 11 → (fx_fk 2 j ≠ 2 → defaultValue (tq_PI j) = .int 0) ∧ (fx_fk 2 j = 2 → defaultValue (tq_PI j) = .null)) := by decide +kernel
theorem ko_PI : Cond.instantiable "FrameSwapper$Picture" 11 ∈ fx_tb := fx_m1 44 (by decide +kernel)
theorem nw_PL : (∀ j, j < 3 → (fx_fk 3 j ≠ 2 → defaultValue (tq_PL j) = .int 0) ∧ (fx_fk 3 j = 2 → defaultValue (tq_PL j) = .null)) := by decide +kernel
theorem ko_PL : Cond.instantiable "FrameSwapper$Pile" 3 ∈ fx_tb := fx_m1 38 (by decide +kernel)
theorem nw_DE : (∀ j, j < 7 → (fx_fk 4 j ≠ 2 → defaultValue (tq_DE j) = .int 0) ∧ (fx_fk 4 j = 2 → defaultValue (tq_DE j) = .null)) := by decide +kernel
theorem ko_DE : Cond.instantiable "FrameSwapper$Desk" 7 ∈ fx_tb := fx_m1 30 (by decide +kernel)
theorem nw_MI : (∀ j, j < 2 → (fx_fk 5 j ≠ 2 → defaultValue (tq_MI j) = .int 0) ∧ (fx_fk 5 j = 2 → defaultValue (tq_MI j) = .null)) := by decide +kernel
theorem ko_MI : Cond.instantiable "FrameSwapper$Misses" 2 ∈ fx_tb := fx_m1 226 (by decide +kernel)
theorem nw_ME : (∀ j, j < 2 → (fx_fk 6 j ≠ 2 → defaultValue (tq_ME j) = .int 0) ∧ (fx_fk 6 j = 2 → defaultValue (tq_ME j) = .null)) := by decide +kernel
theorem ko_ME : Cond.instantiable "FrameSwapper$Memory" 2 ∈ fx_tb := fx_m1 220 (by decide +kernel)
theorem nw_PN : (∀ j, j < 3 → (fx_fk 7 j ≠ 2 → defaultValue (tq_PN j) = .int 0) ∧ (fx_fk 7 j = 2 → defaultValue (tq_PN j) = .null)) := by decide +kernel
theorem ko_PN : Cond.instantiable "FrameSwapper$Planes" 3 ∈ fx_tb := fx_m1 197 (by decide +kernel)
theorem nw_CO : (∀ j, j < 11 → (fx_fk 8 j ≠ 2 → defaultValue (tq_CO j) = .int 0) ∧ (fx_fk 8 j = 2 → defaultValue (tq_CO j) = .null)) := by decide +kernel
theorem ko_CO : Cond.instantiable "FrameSwapper$Composer" 11 ∈ fx_tb := fx_m1 189 (by decide +kernel)
theorem nw_BE : (∀ j, j < 6 → (fx_fk 9 j ≠ 2 → defaultValue (tq_BE j) = .int 0) ∧ (fx_fk 9 j = 2 → defaultValue (tq_BE j) = .null)) := by decide +kernel
theorem ko_BE : Cond.instantiable "FrameSwapper$Beam" 6 ∈ fx_tb := fx_m1 296 (by decide +kernel)
theorem nw_MO : (∀ j, j < 52 → (fx_fk 10 j ≠ 2 → defaultValue (tq_MO j) = .int 0) ∧ (fx_fk 10 j = 2 → defaultValue (tq_MO j) = .null)) := by decide +kernel
theorem ko_MO : Cond.instantiable "FrameSwapperModel" 52 ∈ fx_tb := fx_m1 797 (by decide +kernel)
theorem ka_int : Cond.arrayClass .int ∈ fx_tb := fx_m1 84 (by decide +kernel)
theorem ka_boolean : Cond.arrayClass .boolean ∈ fx_tb := fx_m1 187 (by decide +kernel)
theorem ka_long : Cond.arrayClass .long ∈ fx_tb := fx_m1 1144 (by decide +kernel)
end
section
/-! ===== Math by names; FrameSwapper: the static numbers ===== -/
def jmax (x y : Int32) : Int32 := if x < y then y else x
def jmin (x y : Int32) : Int32 := if y < x then y else x
theorem fx_jmax {g : fx_G} {M : fx_M} {pc : Nat} {lv : List (Nat × Value)} {st : List Value} {h : fx_H} {Q : fx_O → fx_H → Prop} {mc ms : Nat} (ok : fx_ok g) {idx : Nat} {x y : Int32} (hlk : Cond.methodLink (fx_y M).cls idx Lib.Math.max.name ∈ fx_tb) (hst : Cond.static Lib.Math.max.name ∈ fx_tb) (hini : Cond.initialized "java/lang/Math" ∈ fx_tb) (hcd : Cond.code Lib.Math.max.name Lib.Math.max.code 2 (some .int) ∈ fx_tb) (hlev : 1 ≤ fx_lv M) (hlo : (st.map fun v => v.category).sum + 13 ≤ fx_lw M)
    (d : decode (fx_cc M) pc = .ok (.invokestatic idx, 3)) (K : fx_X g M (pc + 3) lv (.int (jmax x y) :: st) h Q mc ms) : fx_X g M pc lv (.int y :: .int x :: st) h Q mc ms := fx_mmax ok hlk hst hini hcd hlev hlo d K
theorem fx_jmin {g : fx_G} {M : fx_M} {pc : Nat} {lv : List (Nat × Value)} {st : List Value} {h : fx_H} {Q : fx_O → fx_H → Prop} {mc ms : Nat} (ok : fx_ok g) {idx : Nat} {x y : Int32} (hlk : Cond.methodLink (fx_y M).cls idx Lib.Math.min.name ∈ fx_tb) (hst : Cond.static Lib.Math.min.name ∈ fx_tb) (hini : Cond.initialized "java/lang/Math" ∈ fx_tb) (hcd : Cond.code Lib.Math.min.name Lib.Math.min.code 2 (some .int) ∈ fx_tb) (hlev : 1 ≤ fx_lv M) (hlo : (st.map fun v => v.category).sum + 13 ≤ fx_lw M)
    (d : decode (fx_cc M) pc = .ok (.invokestatic idx, 3)) (K : fx_X g M (pc + 3) lv (.int (jmin x y) :: st) h Q mc ms) : fx_X g M pc lv (.int y :: .int x :: st) h Q mc ms := fx_mmin ok hlk hst hini hcd hlev hlo d K
def jW (x lo hi : Int32) : Int32 := if ¬ x < lo ∧ ¬ hi < x then 1 else 0
theorem jW_b (x lo hi : Int32) : jW x lo hi = 0 ∨ jW x lo hi = 1 := by unfold jW; split <;> simp
set_option maxRecDepth 100000 in
set_option maxHeartbeats 4000000 in
theorem cq_isWithin {g : fx_G} (ok : fx_ok g) (h : fx_H) (x lo hi : Int32) : fx_C g mq_FS_isWithin [.int x, .int lo, .int hi] h (fx_is (some (jW x lo hi)) (h)) 0 0 := by
  refine fx_body (by decide +kernel) (Nat.le_of_ble_eq_true rfl) ?_
  show fx_X g mq_FS_isWithin 0 [(0, .int x), (1, .int lo), (2, .int hi)] [] h _ 0 0
  refine fx_iload_n 0 dq_FS_isWithin_0 rfl rfl ?_
  refine fx_iload_n 1 dq_FS_isWithin_1 rfl rfl ?_
  refine fx_icmp_lt (tgt := 14) dq_FS_isWithin_2 (by decide) (fun hc2 => ?_) (fun hc2 => ?_)
  · -- 2: jump
    refine fx_iconst (v := 0) dq_FS_isWithin_14 (by decide) ?_
    exact fx_zreturn rfl (by decide) dq_FS_isWithin_15 ⟨by simp [jW, hc2], rfl⟩
  · -- 2: fall
    refine fx_iload_n 0 dq_FS_isWithin_5 rfl rfl ?_
    refine fx_iload_n 2 dq_FS_isWithin_6 rfl rfl ?_
    refine fx_icmp_gt (tgt := 14) dq_FS_isWithin_7 (by decide) (fun hc7 => ?_) (fun hc7 => ?_)
    · -- 7: jump
      refine fx_iconst (v := 0) dq_FS_isWithin_14 (by decide) ?_
      exact fx_zreturn rfl (by decide) dq_FS_isWithin_15 ⟨by simp [jW, hc2, hc7], rfl⟩
    · -- 7: fall
      refine fx_iconst (v := 1) dq_FS_isWithin_10 (by decide) ?_
      refine fx_goto (tgt := 15) dq_FS_isWithin_11 (by decide) ?_
      exact fx_zreturn rfl (by decide) dq_FS_isWithin_15 ⟨by simp [jW, hc2, hc7], rfl⟩

set_option maxRecDepth 100000 in
set_option maxHeartbeats 4000000 in
theorem cq_isClient {g : fx_G} (ok : fx_ok g) (h : fx_H) (x : Int32) : fx_C g mq_FS_isClient [.int x] h (fx_is (some (jW x 0 3)) (h)) 0 0 := by
  refine fx_body (by decide +kernel) (Nat.le_of_ble_eq_true rfl) ?_
  show fx_X g mq_FS_isClient 0 [(0, .int x)] [] h _ 0 0
  refine fx_iload_n 0 dq_FS_isClient_0 rfl rfl ?_
  refine fx_iconst (v := 0) dq_FS_isClient_1 (by decide) ?_
  refine fx_iconst (v := 3) dq_FS_isClient_2 (by decide) ?_
  refine fx_Si3 ok sq_FS_48 (cq_isWithin ok _ _ _ _) (by decide) (Nat.le_of_ble_eq_true rfl) dq_FS_isClient_3 ?_
  exact fx_zreturn rfl (jW_b _ _ _) dq_FS_isClient_6 ⟨rfl, rfl⟩

set_option maxRecDepth 100000 in
set_option maxHeartbeats 4000000 in
theorem cq_isColor {g : fx_G} (ok : fx_ok g) (h : fx_H) (x : Int32) : fx_C g mq_FS_isColor [.int x] h (fx_is (some (jW x 0 65535)) (h)) 0 0 := by
  refine fx_body (by decide +kernel) (Nat.le_of_ble_eq_true rfl) ?_
  show fx_X g mq_FS_isColor 0 [(0, .int x)] [] h _ 0 0
  refine fx_iload_n 0 dq_FS_isColor_0 rfl rfl ?_
  refine fx_iconst (v := 0) dq_FS_isColor_1 (by decide) ?_
  refine fx_ldc_w ok kq_FS_257 dq_FS_isColor_2 ?_
  refine fx_Si3 ok sq_FS_48 (cq_isWithin ok _ _ _ _) (by decide) (Nat.le_of_ble_eq_true rfl) dq_FS_isColor_5 ?_
  exact fx_zreturn rfl (jW_b _ _ _) dq_FS_isColor_8 ⟨rfl, rfl⟩

set_option maxRecDepth 100000 in
set_option maxHeartbeats 4000000 in
theorem cq_isPlace {g : fx_G} (ok : fx_ok g) (h : fx_H) (x : Int32) : fx_C g mq_FS_isPlace [.int x] h (fx_is (some (jW x (-20) 30)) (h)) 0 0 := by
  refine fx_body (by decide +kernel) (Nat.le_of_ble_eq_true rfl) ?_
  show fx_X g mq_FS_isPlace 0 [(0, .int x)] [] h _ 0 0
  refine fx_iload_n 0 dq_FS_isPlace_0 rfl rfl ?_
  refine fx_bipush (v := -20) dq_FS_isPlace_1 (by decide) ?_
  refine fx_bipush (v := 30) dq_FS_isPlace_3 (by decide) ?_
  refine fx_Si3 ok sq_FS_48 (cq_isWithin ok _ _ _ _) (by decide) (Nat.le_of_ble_eq_true rfl) dq_FS_isPlace_5 ?_
  exact fx_zreturn rfl (jW_b _ _ _) dq_FS_isPlace_8 ⟨rfl, rfl⟩

def jA (x y c r : Int32) : Int32 := if jW x (-20) 30 = 0 ∨ jW y (-20) 30 = 0 ∨ jW c 0 30 = 0 ∨ jW r 0 30 = 0 then 0 else 1
set_option maxRecDepth 100000 in
set_option maxHeartbeats 4000000 in
theorem cq_isArea {g : fx_G} (ok : fx_ok g) (h : fx_H) (x y c r : Int32) : fx_C g mq_FS_isArea [.int x, .int y, .int c, .int r] h (fx_is (some (jA x y c r)) (h)) 0 0 := by
  refine fx_body (by decide +kernel) (Nat.le_of_ble_eq_true rfl) ?_
  show fx_X g mq_FS_isArea 0 [(0, .int x), (1, .int y), (2, .int c), (3, .int r)] [] h _ 0 0
  refine fx_iload_n 0 dq_FS_isArea_0 rfl rfl ?_
  refine fx_Si1 ok sq_FS_81 (cq_isPlace ok _ _) (by decide) (Nat.le_of_ble_eq_true rfl) dq_FS_isArea_1 ?_
  refine fx_if_eq (tgt := 38) dq_FS_isArea_4 (by decide) (fun hc4 => ?_) (fun hc4 => ?_)
  · -- 4: jump
    refine fx_iconst (v := 0) dq_FS_isArea_38 (by decide) ?_
    exact fx_zreturn rfl (by decide) dq_FS_isArea_39 ⟨by simp [jA, hc4], rfl⟩
  · -- 4: fall
    refine fx_iload_n 1 dq_FS_isArea_7 rfl rfl ?_
    refine fx_Si1 ok sq_FS_81 (cq_isPlace ok _ _) (by decide) (Nat.le_of_ble_eq_true rfl) dq_FS_isArea_8 ?_
    refine fx_if_eq (tgt := 38) dq_FS_isArea_11 (by decide) (fun hc11 => ?_) (fun hc11 => ?_)
    · -- 11: jump
      refine fx_iconst (v := 0) dq_FS_isArea_38 (by decide) ?_
      exact fx_zreturn rfl (by decide) dq_FS_isArea_39 ⟨by simp [jA, hc4, hc11], rfl⟩
    · -- 11: fall
      refine fx_iload_n 2 dq_FS_isArea_14 rfl rfl ?_
      refine fx_iconst (v := 0) dq_FS_isArea_15 (by decide) ?_
      refine fx_bipush (v := 30) dq_FS_isArea_16 (by decide) ?_
      refine fx_Si3 ok sq_FS_48 (cq_isWithin ok _ _ _ _) (by decide) (Nat.le_of_ble_eq_true rfl) dq_FS_isArea_18 ?_
      refine fx_if_eq (tgt := 38) dq_FS_isArea_21 (by decide) (fun hc21 => ?_) (fun hc21 => ?_)
      · -- 21: jump
        refine fx_iconst (v := 0) dq_FS_isArea_38 (by decide) ?_
        exact fx_zreturn rfl (by decide) dq_FS_isArea_39 ⟨by simp [jA, hc4, hc11, hc21], rfl⟩
      · -- 21: fall
        refine fx_iload_n 3 dq_FS_isArea_24 rfl rfl ?_
        refine fx_iconst (v := 0) dq_FS_isArea_25 (by decide) ?_
        refine fx_bipush (v := 30) dq_FS_isArea_26 (by decide) ?_
        refine fx_Si3 ok sq_FS_48 (cq_isWithin ok _ _ _ _) (by decide) (Nat.le_of_ble_eq_true rfl) dq_FS_isArea_28 ?_
        refine fx_if_eq (tgt := 38) dq_FS_isArea_31 (by decide) (fun hc31 => ?_) (fun hc31 => ?_)
        · -- 31: jump
          refine fx_iconst (v := 0) dq_FS_isArea_38 (by decide) ?_
          exact fx_zreturn rfl (by decide) dq_FS_isArea_39 ⟨by simp [jA, hc4, hc11, hc21, hc31], rfl⟩
        · -- 31: fall
          refine fx_iconst (v := 1) dq_FS_isArea_34 (by decide) ?_
          refine fx_goto (tgt := 39) dq_FS_isArea_35 (by decide) ?_
          exact fx_zreturn rfl (by decide) dq_FS_isArea_39 ⟨by simp [jA, hc4, hc11, hc21, hc31], rfl⟩

def jS (x y : Int32) : Int32 := if jW x 0 19 = 0 ∨ jW y 0 9 = 0 then 0 else 1
set_option maxRecDepth 100000 in
set_option maxHeartbeats 4000000 in
theorem cq_isOnScreen {g : fx_G} (ok : fx_ok g) (h : fx_H) (x y : Int32) : fx_C g mq_FS_isOnScreen [.int x, .int y] h (fx_is (some (jS x y)) (h)) 0 0 := by
  refine fx_body (by decide +kernel) (Nat.le_of_ble_eq_true rfl) ?_
  show fx_X g mq_FS_isOnScreen 0 [(0, .int x), (1, .int y)] [] h _ 0 0
  refine fx_iload_n 0 dq_FS_isOnScreen_0 rfl rfl ?_
  refine fx_iconst (v := 0) dq_FS_isOnScreen_1 (by decide) ?_
  refine fx_bipush (v := 19) dq_FS_isOnScreen_2 (by decide) ?_
  refine fx_Si3 ok sq_FS_48 (cq_isWithin ok _ _ _ _) (by decide) (Nat.le_of_ble_eq_true rfl) dq_FS_isOnScreen_4 ?_
  refine fx_if_eq (tgt := 24) dq_FS_isOnScreen_7 (by decide) (fun hc7 => ?_) (fun hc7 => ?_)
  · -- 7: jump
    refine fx_iconst (v := 0) dq_FS_isOnScreen_24 (by decide) ?_
    exact fx_zreturn rfl (by decide) dq_FS_isOnScreen_25 ⟨by simp [jS, hc7], rfl⟩
  · -- 7: fall
    refine fx_iload_n 1 dq_FS_isOnScreen_10 rfl rfl ?_
    refine fx_iconst (v := 0) dq_FS_isOnScreen_11 (by decide) ?_
    refine fx_bipush (v := 9) dq_FS_isOnScreen_12 (by decide) ?_
    refine fx_Si3 ok sq_FS_48 (cq_isWithin ok _ _ _ _) (by decide) (Nat.le_of_ble_eq_true rfl) dq_FS_isOnScreen_14 ?_
    refine fx_if_eq (tgt := 24) dq_FS_isOnScreen_17 (by decide) (fun hc17 => ?_) (fun hc17 => ?_)
    · -- 17: jump
      refine fx_iconst (v := 0) dq_FS_isOnScreen_24 (by decide) ?_
      exact fx_zreturn rfl (by decide) dq_FS_isOnScreen_25 ⟨by simp [jS, hc7, hc17], rfl⟩
    · -- 17: fall
      refine fx_iconst (v := 1) dq_FS_isOnScreen_20 (by decide) ?_
      refine fx_goto (tgt := 25) dq_FS_isOnScreen_21 (by decide) ?_
      exact fx_zreturn rfl (by decide) dq_FS_isOnScreen_25 ⟨by simp [jS, hc7, hc17], rfl⟩

def jP (o b a : Int32) : Int32 := (a * o + (16 - a) * b) / 16
set_option maxRecDepth 100000 in
set_option maxHeartbeats 4000000 in
theorem cq_mixPart {g : fx_G} (ok : fx_ok g) (h : fx_H) (o b a : Int32) : fx_C g mq_FS_mixPart [.int o, .int b, .int a] h (fx_is (some (jP o b a)) (h)) 0 0 := by
  refine fx_body (by decide +kernel) (Nat.le_of_ble_eq_true rfl) ?_
  show fx_X g mq_FS_mixPart 0 [(0, .int o), (1, .int b), (2, .int a)] [] h _ 0 0
  refine fx_iload_n 2 dq_FS_mixPart_0 rfl rfl ?_
  refine fx_iload_n 0 dq_FS_mixPart_1 rfl rfl ?_
  refine fx_imul dq_FS_mixPart_2 ?_
  refine fx_bipush (v := 16) dq_FS_mixPart_3 (by decide) ?_
  refine fx_iload_n 2 dq_FS_mixPart_5 rfl rfl ?_
  refine fx_isub dq_FS_mixPart_6 ?_
  refine fx_iload_n 1 dq_FS_mixPart_7 rfl rfl ?_
  refine fx_imul dq_FS_mixPart_8 ?_
  refine fx_iadd dq_FS_mixPart_9 ?_
  refine fx_bipush (v := 16) dq_FS_mixPart_10 (by decide) ?_
  refine fx_idiv dq_FS_mixPart_12 (by decide) ?_
  exact fx_ireturn rfl dq_FS_mixPart_13 ⟨rfl, rfl⟩

def jM (o b a : Int32) : Int32 := (jP (o >>> ((11 : Int32) &&& 31)) (b >>> ((11 : Int32) &&& 31)) a <<< ((11 : Int32) &&& 31) ||| jP (o >>> ((5 : Int32) &&& 31) &&& 63) (b >>> ((5 : Int32) &&& 31) &&& 63) a <<< ((5 : Int32) &&& 31)) ||| jP (o &&& 31) (b &&& 31) a
set_option maxRecDepth 100000 in
set_option maxHeartbeats 4000000 in
theorem cq_mix {g : fx_G} (ok : fx_ok g) (h : fx_H) (o b a : Int32) : fx_C g mq_FS_mix [.int o, .int b, .int a] h (fx_is (some (jM o b a)) (h)) 0 0 := by
  refine fx_body (by decide +kernel) (Nat.le_of_ble_eq_true rfl) ?_
  show fx_X g mq_FS_mix 0 [(0, .int o), (1, .int b), (2, .int a)] [] h _ 0 0
  refine fx_iload_n 0 dq_FS_mix_0 rfl rfl ?_
  refine fx_bipush (v := 11) dq_FS_mix_1 (by decide) ?_
  refine fx_ishr dq_FS_mix_3 ?_
  refine fx_iload_n 1 dq_FS_mix_4 rfl rfl ?_
  refine fx_bipush (v := 11) dq_FS_mix_5 (by decide) ?_
  refine fx_ishr dq_FS_mix_7 ?_
  refine fx_iload_n 2 dq_FS_mix_8 rfl rfl ?_
  refine fx_Si3 ok sq_FS_258 (cq_mixPart ok _ _ _ _) (by decide) (Nat.le_of_ble_eq_true rfl) dq_FS_mix_9 ?_
  refine fx_istore_n dq_FS_mix_12 rfl (by decide) rfl ?_
  refine fx_iload_n 1 dq_FS_mix_13 rfl rfl ?_
  refine fx_iconst (v := 5) dq_FS_mix_14 (by decide) ?_
  refine fx_ishr dq_FS_mix_15 ?_
  refine fx_bipush (v := 63) dq_FS_mix_16 (by decide) ?_
  refine fx_iand dq_FS_mix_18 ?_
  refine fx_iload_n 2 dq_FS_mix_19 rfl rfl ?_
  refine fx_iconst (v := 5) dq_FS_mix_20 (by decide) ?_
  refine fx_ishr dq_FS_mix_21 ?_
  refine fx_bipush (v := 63) dq_FS_mix_22 (by decide) ?_
  refine fx_iand dq_FS_mix_24 ?_
  refine fx_iload_n 3 dq_FS_mix_25 rfl rfl ?_
  refine fx_Si3 ok sq_FS_258 (cq_mixPart ok _ _ _ _) (by decide) (Nat.le_of_ble_eq_true rfl) dq_FS_mix_26 ?_
  refine fx_istore dq_FS_mix_29 (by decide) rfl ?_
  refine fx_iload_n 2 dq_FS_mix_31 rfl rfl ?_
  refine fx_bipush (v := 31) dq_FS_mix_32 (by decide) ?_
  refine fx_iand dq_FS_mix_34 ?_
  refine fx_iload_n 3 dq_FS_mix_35 rfl rfl ?_
  refine fx_bipush (v := 31) dq_FS_mix_36 (by decide) ?_
  refine fx_iand dq_FS_mix_38 ?_
  refine fx_iload_n 4 dq_FS_mix_39 rfl rfl ?_
  refine fx_Si3 ok sq_FS_258 (cq_mixPart ok _ _ _ _) (by decide) (Nat.le_of_ble_eq_true rfl) dq_FS_mix_40 ?_
  refine fx_istore dq_FS_mix_43 (by decide) rfl ?_
  refine fx_iload_n 2 dq_FS_mix_45 rfl rfl ?_
  refine fx_bipush (v := 11) dq_FS_mix_46 (by decide) ?_
  refine fx_ishl dq_FS_mix_48 ?_
  refine fx_iload 1 dq_FS_mix_49 rfl ?_
  refine fx_iconst (v := 5) dq_FS_mix_51 (by decide) ?_
  refine fx_ishl dq_FS_mix_52 ?_
  refine fx_ior dq_FS_mix_53 ?_
  refine fx_iload 0 dq_FS_mix_54 rfl ?_
  refine fx_ior dq_FS_mix_56 ?_
  exact fx_ireturn rfl dq_FS_mix_57 ⟨rfl, rfl⟩
end
section
/-! ===== Rectangle ===== -/
/-- the rectangle at a becomes (x, y, c, r) -/
def rset (h : fx_H) (a : Nat) (x y c r : Int32) : fx_H := fx_wi (fx_wi (fx_wi (fx_wi h a 0 x) a 1 y) a 2 c) a 3 r
set_option maxRecDepth 100000 in
set_option maxHeartbeats 4000000 in
theorem cr_init {g : fx_G} (ok : fx_ok g) (h : fx_H) (a : Nat) (ha : fx_s h a = some (.inl 1)) : fx_C g mq_RE_init [.ref a] h (fx_is none (h)) 0 0 := by
  refine fx_body (by decide +kernel) (Nat.le_of_ble_eq_true rfl) ?_
  show fx_X g mq_RE_init 0 [(0, .ref a)] [] h _ 0 0
  refine fx_aload_n 0 dq_RE_init_0 rfl rfl ?_
  refine fx_objInit ok sq_RE_1 kj_obj.1 kj_obj.2 (by decide) (Nat.le_of_ble_eq_true rfl) dq_RE_init_1 ?_
  exact fx_vreturn rfl dq_RE_init_4 ⟨rfl, rfl⟩

set_option maxRecDepth 100000 in
set_option maxHeartbeats 4000000 in
theorem cr_set {g : fx_G} (ok : fx_ok g) (h : fx_H) (a : Nat) (ha : fx_s h a = some (.inl 1)) (x y c r : Int32) : fx_C g mq_RE_set [.ref a, .int x, .int y, .int c, .int r] h (fx_is none (rset h a x y c r)) 0 0 := by
  refine fx_body (by decide +kernel) (Nat.le_of_ble_eq_true rfl) ?_
  show fx_X g mq_RE_set 0 [(0, .ref a), (1, .int x), (2, .int y), (3, .int c), (4, .int r)] [] h _ 0 0
  refine fx_aload_n 0 dq_RE_set_0 rfl rfl ?_
  refine fx_iload_n 1 dq_RE_set_1 rfl rfl ?_
  refine fx_puti ok fp_RE_7 ha (by decide) dq_RE_set_2 (Or.inl (by decide)) ?_
  refine fx_aload_n 0 dq_RE_set_5 rfl rfl ?_
  refine fx_iload_n 2 dq_RE_set_6 rfl rfl ?_
  refine fx_puti ok fp_RE_13 ha (by decide) dq_RE_set_7 (Or.inl (by decide)) ?_
  refine fx_aload_n 0 dq_RE_set_10 rfl rfl ?_
  refine fx_iload_n 3 dq_RE_set_11 rfl rfl ?_
  refine fx_puti ok fp_RE_16 ha (by decide) dq_RE_set_12 (Or.inl (by decide)) ?_
  refine fx_aload_n 0 dq_RE_set_15 rfl rfl ?_
  refine fx_iload 4 dq_RE_set_16 rfl ?_
  refine fx_puti ok fp_RE_19 ha (by decide) dq_RE_set_18 (Or.inl (by decide)) ?_
  exact fx_vreturn rfl dq_RE_set_21 ⟨rfl, rfl⟩

set_option maxRecDepth 100000 in
set_option maxHeartbeats 4000000 in
theorem cr_become {g : fx_G} (ok : fx_ok g) (h : fx_H) (a b : Nat) (ha : fx_s h a = some (.inl 1)) (hb : fx_s h b = some (.inl 1)) : fx_C g mq_RE_become [.ref a, .ref b] h (fx_is none (rset h a (fx_i h b 0) (fx_i h b 1) (fx_i h b 2) (fx_i h b 3))) 0 0 := by
  refine fx_body (by decide +kernel) (Nat.le_of_ble_eq_true rfl) ?_
  show fx_X g mq_RE_become 0 [(0, .ref a), (1, .ref b)] [] h _ 0 0
  refine fx_aload_n 0 dq_RE_become_0 rfl rfl ?_
  refine fx_aload_n 1 dq_RE_become_1 rfl rfl ?_
  refine fx_geti ok fq_RE_7 hb dq_RE_become_2 (by decide) ?_
  refine fx_aload_n 1 dq_RE_become_5 rfl rfl ?_
  refine fx_geti ok fq_RE_13 hb dq_RE_become_6 (by decide) ?_
  refine fx_aload_n 1 dq_RE_become_9 rfl rfl ?_
  refine fx_geti ok fq_RE_16 hb dq_RE_become_10 (by decide) ?_
  refine fx_aload_n 1 dq_RE_become_13 rfl rfl ?_
  refine fx_geti ok fq_RE_19 hb dq_RE_become_14 (by decide) ?_
  refine fx_Vv4 ok sq_RE_22 ha (cr_set ok _ _ ha _ _ _ _) (by decide) (Nat.le_of_ble_eq_true rfl) dq_RE_become_17 ?_
  exact fx_vreturn rfl dq_RE_become_20 ⟨rfl, rfl⟩

def rshift (h : fx_H) (a : Nat) (u v : Int32) : fx_H := fx_wi (fx_wi h a 0 (fx_i h a 0 + u)) a 1 (fx_i h a 1 + v)
set_option maxRecDepth 100000 in
set_option maxHeartbeats 4000000 in
theorem cr_shift {g : fx_G} (ok : fx_ok g) (h : fx_H) (a : Nat) (ha : fx_s h a = some (.inl 1)) (u v : Int32) : fx_C g mq_RE_shift [.ref a, .int u, .int v] h (fx_is none (rshift h a u v)) 0 0 := by
  refine fx_body (by decide +kernel) (Nat.le_of_ble_eq_true rfl) ?_
  show fx_X g mq_RE_shift 0 [(0, .ref a), (1, .int u), (2, .int v)] [] h _ 0 0
  refine fx_aload_n 0 dq_RE_shift_0 rfl rfl ?_
  refine fx_dup dq_RE_shift_1 rfl ?_
  refine fx_geti ok fq_RE_7 ha dq_RE_shift_2 (by decide) ?_
  refine fx_iload_n 1 dq_RE_shift_5 rfl rfl ?_
  refine fx_iadd dq_RE_shift_6 ?_
  refine fx_puti ok fp_RE_7 ha (by decide) dq_RE_shift_7 (Or.inl (by decide)) ?_
  refine fx_aload_n 0 dq_RE_shift_10 rfl rfl ?_
  refine fx_dup dq_RE_shift_11 rfl ?_
  refine fx_geti ok fq_RE_13 ha dq_RE_shift_12 (by decide) ?_
  refine fx_iload_n 2 dq_RE_shift_15 rfl rfl ?_
  refine fx_iadd dq_RE_shift_16 ?_
  refine fx_puti ok fp_RE_13 ha (by decide) dq_RE_shift_17 (Or.inl (by decide)) ?_
  exact fx_vreturn rfl dq_RE_shift_20 ⟨rfl, by simp [fx_i_wi, rshift]⟩

def rcut (h : fx_H) (a : Nat) (w t : Int32) : fx_H := rset h a (jmax (fx_i h a 0) 0) (jmax (fx_i h a 1) 0) (jmax (jmin (fx_i h a 0 + fx_i h a 2) w - jmax (fx_i h a 0) 0) 0) (jmax (jmin (fx_i h a 1 + fx_i h a 3) t - jmax (fx_i h a 1) 0) 0)
set_option maxRecDepth 100000 in
set_option maxHeartbeats 4000000 in
theorem cr_cut {g : fx_G} (ok : fx_ok g) (h : fx_H) (a : Nat) (ha : fx_s h a = some (.inl 1)) (w t : Int32) : fx_C g mq_RE_cut [.ref a, .int w, .int t] h (fx_is none (rcut h a w t)) 0 0 := by
  refine fx_body (by decide +kernel) (Nat.le_of_ble_eq_true rfl) ?_
  show fx_X g mq_RE_cut 0 [(0, .ref a), (1, .int w), (2, .int t)] [] h _ 0 0
  refine fx_aload_n 0 dq_RE_cut_0 rfl rfl ?_
  refine fx_geti ok fq_RE_7 ha dq_RE_cut_1 (by decide) ?_
  refine fx_aload_n 0 dq_RE_cut_4 rfl rfl ?_
  refine fx_geti ok fq_RE_16 ha dq_RE_cut_5 (by decide) ?_
  refine fx_iadd dq_RE_cut_8 ?_
  refine fx_iload_n 1 dq_RE_cut_9 rfl rfl ?_
  refine fx_jmin ok sq_RE_26 kj_min.1 kj_min.2.1 kj_min.2.2 (by decide) (Nat.le_of_ble_eq_true rfl) dq_RE_cut_10 ?_
  refine fx_istore_n dq_RE_cut_13 rfl (by decide) rfl ?_
  refine fx_aload_n 1 dq_RE_cut_14 rfl rfl ?_
  refine fx_geti ok fq_RE_13 ha dq_RE_cut_15 (by decide) ?_
  refine fx_aload_n 1 dq_RE_cut_18 rfl rfl ?_
  refine fx_geti ok fq_RE_19 ha dq_RE_cut_19 (by decide) ?_
  refine fx_iadd dq_RE_cut_22 ?_
  refine fx_iload_n 3 dq_RE_cut_23 rfl rfl ?_
  refine fx_jmin ok sq_RE_26 kj_min.1 kj_min.2.1 kj_min.2.2 (by decide) (Nat.le_of_ble_eq_true rfl) dq_RE_cut_24 ?_
  refine fx_istore dq_RE_cut_27 (by decide) rfl ?_
  refine fx_aload_n 2 dq_RE_cut_29 rfl rfl ?_
  refine fx_aload_n 2 dq_RE_cut_30 rfl rfl ?_
  refine fx_geti ok fq_RE_7 ha dq_RE_cut_31 (by decide) ?_
  refine fx_iconst (v := 0) dq_RE_cut_34 (by decide) ?_
  refine fx_jmax ok sq_RE_32 kj_max.1 kj_max.2.1 kj_max.2.2 (by decide) (Nat.le_of_ble_eq_true rfl) dq_RE_cut_35 ?_
  refine fx_puti ok fp_RE_7 ha (by decide) dq_RE_cut_38 (Or.inl (by decide)) ?_
  refine fx_aload_n 2 dq_RE_cut_41 rfl rfl ?_
  refine fx_aload_n 2 dq_RE_cut_42 rfl rfl ?_
  refine fx_geti ok fq_RE_13 ha dq_RE_cut_43 (by decide) ?_
  refine fx_iconst (v := 0) dq_RE_cut_46 (by decide) ?_
  refine fx_jmax ok sq_RE_32 kj_max.1 kj_max.2.1 kj_max.2.2 (by decide) (Nat.le_of_ble_eq_true rfl) dq_RE_cut_47 ?_
  refine fx_puti ok fp_RE_13 ha (by decide) dq_RE_cut_50 (Or.inl (by decide)) ?_
  refine fx_aload_n 2 dq_RE_cut_53 rfl rfl ?_
  refine fx_iload_n 1 dq_RE_cut_54 rfl rfl ?_
  refine fx_aload_n 2 dq_RE_cut_55 rfl rfl ?_
  refine fx_geti ok fq_RE_7 ha dq_RE_cut_56 (by decide) ?_
  refine fx_isub dq_RE_cut_59 ?_
  refine fx_iconst (v := 0) dq_RE_cut_60 (by decide) ?_
  refine fx_jmax ok sq_RE_32 kj_max.1 kj_max.2.1 kj_max.2.2 (by decide) (Nat.le_of_ble_eq_true rfl) dq_RE_cut_61 ?_
  refine fx_puti ok fp_RE_16 ha (by decide) dq_RE_cut_64 (Or.inl (by decide)) ?_
  refine fx_aload_n 2 dq_RE_cut_67 rfl rfl ?_
  refine fx_iload 0 dq_RE_cut_68 rfl ?_
  refine fx_aload_n 2 dq_RE_cut_70 rfl rfl ?_
  refine fx_geti ok fq_RE_13 ha dq_RE_cut_71 (by decide) ?_
  refine fx_isub dq_RE_cut_74 ?_
  refine fx_iconst (v := 0) dq_RE_cut_75 (by decide) ?_
  refine fx_jmax ok sq_RE_32 kj_max.1 kj_max.2.1 kj_max.2.2 (by decide) (Nat.le_of_ble_eq_true rfl) dq_RE_cut_76 ?_
  refine fx_puti ok fp_RE_19 ha (by decide) dq_RE_cut_79 (Or.inl (by decide)) ?_
  exact fx_vreturn rfl dq_RE_cut_82 ⟨rfl, by simp [fx_i_wi, rcut, rset]⟩

def rE (h : fx_H) (a : Nat) : Int32 := if fx_i h a 2 = 0 ∨ fx_i h a 3 = 0 then 1 else 0
set_option maxRecDepth 100000 in
set_option maxHeartbeats 4000000 in
theorem cr_isEmpty {g : fx_G} (ok : fx_ok g) (h : fx_H) (a : Nat) (ha : fx_s h a = some (.inl 1)) : fx_C g mq_RE_isEmpty [.ref a] h (fx_is (some (rE h a)) (h)) 0 0 := by
  refine fx_body (by decide +kernel) (Nat.le_of_ble_eq_true rfl) ?_
  show fx_X g mq_RE_isEmpty 0 [(0, .ref a)] [] h _ 0 0
  refine fx_aload_n 0 dq_RE_isEmpty_0 rfl rfl ?_
  refine fx_geti ok fq_RE_16 ha dq_RE_isEmpty_1 (by decide) ?_
  refine fx_if_eq (tgt := 14) dq_RE_isEmpty_4 (by decide) (fun hc4 => ?_) (fun hc4 => ?_)
  · -- 4: jump
    refine fx_iconst (v := 1) dq_RE_isEmpty_14 (by decide) ?_
    refine fx_goto (tgt := 19) dq_RE_isEmpty_15 (by decide) ?_
    exact fx_zreturn rfl (by decide) dq_RE_isEmpty_19 ⟨by simp [rE, hc4], rfl⟩
  · -- 4: fall
    refine fx_aload_n 0 dq_RE_isEmpty_7 rfl rfl ?_
    refine fx_geti ok fq_RE_19 ha dq_RE_isEmpty_8 (by decide) ?_
    refine fx_if_ne (tgt := 18) dq_RE_isEmpty_11 (by decide) (fun hc11 => ?_) (fun hc11 => ?_)
    · -- 11: jump
      refine fx_iconst (v := 0) dq_RE_isEmpty_18 (by decide) ?_
      exact fx_zreturn rfl (by decide) dq_RE_isEmpty_19 ⟨by simp [rE, hc4, hc11], rfl⟩
    · -- 11: fall
      refine fx_iconst (v := 1) dq_RE_isEmpty_14 (by decide) ?_
      refine fx_goto (tgt := 19) dq_RE_isEmpty_15 (by decide) ?_
      exact fx_zreturn rfl (by decide) dq_RE_isEmpty_19 ⟨by simp [rE, hc4, hc11], rfl⟩

set_option maxRecDepth 100000 in
set_option maxHeartbeats 4000000 in
theorem cr_pixels {g : fx_G} (ok : fx_ok g) (h : fx_H) (a : Nat) (ha : fx_s h a = some (.inl 1)) : fx_C g mq_RE_pixels [.ref a] h (fx_is (some (fx_i h a 2 * fx_i h a 3)) (h)) 0 0 := by
  refine fx_body (by decide +kernel) (Nat.le_of_ble_eq_true rfl) ?_
  show fx_X g mq_RE_pixels 0 [(0, .ref a)] [] h _ 0 0
  refine fx_aload_n 0 dq_RE_pixels_0 rfl rfl ?_
  refine fx_geti ok fq_RE_16 ha dq_RE_pixels_1 (by decide) ?_
  refine fx_aload_n 0 dq_RE_pixels_4 rfl rfl ?_
  refine fx_geti ok fq_RE_19 ha dq_RE_pixels_5 (by decide) ?_
  refine fx_imul dq_RE_pixels_8 ?_
  exact fx_ireturn rfl dq_RE_pixels_9 ⟨rfl, rfl⟩

def rHas (h : fx_H) (a : Nat) (p q : Int32) : Int32 := if ¬ p < fx_i h a 0 ∧ ¬ fx_i h a 0 + fx_i h a 2 ≤ p ∧ ¬ q < fx_i h a 1 ∧ ¬ fx_i h a 1 + fx_i h a 3 ≤ q then 1 else 0
set_option maxRecDepth 100000 in
set_option maxHeartbeats 4000000 in
theorem cr_has {g : fx_G} (ok : fx_ok g) (h : fx_H) (a : Nat) (ha : fx_s h a = some (.inl 1)) (p q : Int32) : fx_C g mq_RE_has [.ref a, .int p, .int q] h (fx_is (some (rHas h a p q)) (h)) 0 0 := by
  refine fx_body (by decide +kernel) (Nat.le_of_ble_eq_true rfl) ?_
  show fx_X g mq_RE_has 0 [(0, .ref a), (1, .int p), (2, .int q)] [] h _ 0 0
  refine fx_iload_n 1 dq_RE_has_0 rfl rfl ?_
  refine fx_aload_n 0 dq_RE_has_1 rfl rfl ?_
  refine fx_geti ok fq_RE_7 ha dq_RE_has_2 (by decide) ?_
  refine fx_icmp_lt (tgt := 46) dq_RE_has_5 (by decide) (fun hc5 => ?_) (fun hc5 => ?_)
  · -- 5: jump
    refine fx_iconst (v := 0) dq_RE_has_46 (by decide) ?_
    exact fx_zreturn rfl (by decide) dq_RE_has_47 ⟨by simp [rHas, hc5], rfl⟩
  · -- 5: fall
    refine fx_iload_n 1 dq_RE_has_8 rfl rfl ?_
    refine fx_aload_n 0 dq_RE_has_9 rfl rfl ?_
    refine fx_geti ok fq_RE_7 ha dq_RE_has_10 (by decide) ?_
    refine fx_aload_n 0 dq_RE_has_13 rfl rfl ?_
    refine fx_geti ok fq_RE_16 ha dq_RE_has_14 (by decide) ?_
    refine fx_iadd dq_RE_has_17 ?_
    refine fx_icmp_ge (tgt := 46) dq_RE_has_18 (by decide) (fun hc18 => ?_) (fun hc18 => ?_)
    · -- 18: jump
      refine fx_iconst (v := 0) dq_RE_has_46 (by decide) ?_
      exact fx_zreturn rfl (by decide) dq_RE_has_47 ⟨by simp [rHas, hc5, hc18], rfl⟩
    · -- 18: fall
      refine fx_iload_n 2 dq_RE_has_21 rfl rfl ?_
      refine fx_aload_n 0 dq_RE_has_22 rfl rfl ?_
      refine fx_geti ok fq_RE_13 ha dq_RE_has_23 (by decide) ?_
      refine fx_icmp_lt (tgt := 46) dq_RE_has_26 (by decide) (fun hc26 => ?_) (fun hc26 => ?_)
      · -- 26: jump
        refine fx_iconst (v := 0) dq_RE_has_46 (by decide) ?_
        exact fx_zreturn rfl (by decide) dq_RE_has_47 ⟨by simp [rHas, hc5, hc18, hc26], rfl⟩
      · -- 26: fall
        refine fx_iload_n 2 dq_RE_has_29 rfl rfl ?_
        refine fx_aload_n 0 dq_RE_has_30 rfl rfl ?_
        refine fx_geti ok fq_RE_13 ha dq_RE_has_31 (by decide) ?_
        refine fx_aload_n 0 dq_RE_has_34 rfl rfl ?_
        refine fx_geti ok fq_RE_19 ha dq_RE_has_35 (by decide) ?_
        refine fx_iadd dq_RE_has_38 ?_
        refine fx_icmp_ge (tgt := 46) dq_RE_has_39 (by decide) (fun hc39 => ?_) (fun hc39 => ?_)
        · -- 39: jump
          refine fx_iconst (v := 0) dq_RE_has_46 (by decide) ?_
          exact fx_zreturn rfl (by decide) dq_RE_has_47 ⟨by simp [rHas, hc5, hc18, hc26, hc39], rfl⟩
        · -- 39: fall
          refine fx_iconst (v := 1) dq_RE_has_42 (by decide) ?_
          refine fx_goto (tgt := 47) dq_RE_has_43 (by decide) ?_
          exact fx_zreturn rfl (by decide) dq_RE_has_47 ⟨by simp [rHas, hc5, hc18, hc26, hc39], rfl⟩

def rMeets (h : fx_H) (a b : Nat) : Int32 := if ¬ jmin (fx_i h a 0 + fx_i h a 2) (fx_i h b 0 + fx_i h b 2) ≤ jmax (fx_i h a 0) (fx_i h b 0) ∧ ¬ jmin (fx_i h a 1 + fx_i h a 3) (fx_i h b 1 + fx_i h b 3) ≤ jmax (fx_i h a 1) (fx_i h b 1) then 1 else 0
set_option maxRecDepth 100000 in
set_option maxHeartbeats 4000000 in
theorem cr_meets {g : fx_G} (ok : fx_ok g) (h : fx_H) (a b : Nat) (ha : fx_s h a = some (.inl 1)) (hb : fx_s h b = some (.inl 1)) : fx_C g mq_RE_meets [.ref a, .ref b] h (fx_is (some (rMeets h a b)) (h)) 0 0 := by
  refine fx_body (by decide +kernel) (Nat.le_of_ble_eq_true rfl) ?_
  show fx_X g mq_RE_meets 0 [(0, .ref a), (1, .ref b)] [] h _ 0 0
  refine fx_aload_n 0 dq_RE_meets_0 rfl rfl ?_
  refine fx_geti ok fq_RE_7 ha dq_RE_meets_1 (by decide) ?_
  refine fx_aload_n 1 dq_RE_meets_4 rfl rfl ?_
  refine fx_geti ok fq_RE_7 hb dq_RE_meets_5 (by decide) ?_
  refine fx_jmax ok sq_RE_32 kj_max.1 kj_max.2.1 kj_max.2.2 (by decide) (Nat.le_of_ble_eq_true rfl) dq_RE_meets_8 ?_
  refine fx_aload_n 0 dq_RE_meets_11 rfl rfl ?_
  refine fx_geti ok fq_RE_7 ha dq_RE_meets_12 (by decide) ?_
  refine fx_aload_n 0 dq_RE_meets_15 rfl rfl ?_
  refine fx_geti ok fq_RE_16 ha dq_RE_meets_16 (by decide) ?_
  refine fx_iadd dq_RE_meets_19 ?_
  refine fx_aload_n 1 dq_RE_meets_20 rfl rfl ?_
  refine fx_geti ok fq_RE_7 hb dq_RE_meets_21 (by decide) ?_
  refine fx_aload_n 1 dq_RE_meets_24 rfl rfl ?_
  refine fx_geti ok fq_RE_16 hb dq_RE_meets_25 (by decide) ?_
  refine fx_iadd dq_RE_meets_28 ?_
  refine fx_jmin ok sq_RE_26 kj_min.1 kj_min.2.1 kj_min.2.2 (by decide) (Nat.le_of_ble_eq_true rfl) dq_RE_meets_29 ?_
  refine fx_icmp_ge (tgt := 74) dq_RE_meets_32 (by decide) (fun hc32 => ?_) (fun hc32 => ?_)
  · -- 32: jump
    refine fx_iconst (v := 0) dq_RE_meets_74 (by decide) ?_
    exact fx_zreturn rfl (by decide) dq_RE_meets_75 ⟨by simp [rMeets, hc32], rfl⟩
  · -- 32: fall
    refine fx_aload_n 0 dq_RE_meets_35 rfl rfl ?_
    refine fx_geti ok fq_RE_13 ha dq_RE_meets_36 (by decide) ?_
    refine fx_aload_n 1 dq_RE_meets_39 rfl rfl ?_
    refine fx_geti ok fq_RE_13 hb dq_RE_meets_40 (by decide) ?_
    refine fx_jmax ok sq_RE_32 kj_max.1 kj_max.2.1 kj_max.2.2 (by decide) (Nat.le_of_ble_eq_true rfl) dq_RE_meets_43 ?_
    refine fx_aload_n 0 dq_RE_meets_46 rfl rfl ?_
    refine fx_geti ok fq_RE_13 ha dq_RE_meets_47 (by decide) ?_
    refine fx_aload_n 0 dq_RE_meets_50 rfl rfl ?_
    refine fx_geti ok fq_RE_19 ha dq_RE_meets_51 (by decide) ?_
    refine fx_iadd dq_RE_meets_54 ?_
    refine fx_aload_n 1 dq_RE_meets_55 rfl rfl ?_
    refine fx_geti ok fq_RE_13 hb dq_RE_meets_56 (by decide) ?_
    refine fx_aload_n 1 dq_RE_meets_59 rfl rfl ?_
    refine fx_geti ok fq_RE_19 hb dq_RE_meets_60 (by decide) ?_
    refine fx_iadd dq_RE_meets_63 ?_
    refine fx_jmin ok sq_RE_26 kj_min.1 kj_min.2.1 kj_min.2.2 (by decide) (Nat.le_of_ble_eq_true rfl) dq_RE_meets_64 ?_
    refine fx_icmp_ge (tgt := 74) dq_RE_meets_67 (by decide) (fun hc67 => ?_) (fun hc67 => ?_)
    · -- 67: jump
      refine fx_iconst (v := 0) dq_RE_meets_74 (by decide) ?_
      exact fx_zreturn rfl (by decide) dq_RE_meets_75 ⟨by simp [rMeets, hc32, hc67], rfl⟩
    · -- 67: fall
      refine fx_iconst (v := 1) dq_RE_meets_70 (by decide) ?_
      refine fx_goto (tgt := 75) dq_RE_meets_71 (by decide) ?_
      exact fx_zreturn rfl (by decide) dq_RE_meets_75 ⟨by simp [rMeets, hc32, hc67], rfl⟩

def rIn (h : fx_H) (a b : Nat) : Int32 := if ¬ fx_i h b 0 < fx_i h a 0 ∧ ¬ fx_i h a 0 + fx_i h a 2 < fx_i h b 0 + fx_i h b 2 ∧ ¬ fx_i h b 1 < fx_i h a 1 ∧ ¬ fx_i h a 1 + fx_i h a 3 < fx_i h b 1 + fx_i h b 3 then 1 else 0
set_option maxRecDepth 100000 in
set_option maxHeartbeats 4000000 in
theorem cr_contains {g : fx_G} (ok : fx_ok g) (h : fx_H) (a b : Nat) (ha : fx_s h a = some (.inl 1)) (hb : fx_s h b = some (.inl 1)) : fx_C g mq_RE_contains [.ref a, .ref b] h (fx_is (some (rIn h a b)) (h)) 0 0 := by
  refine fx_body (by decide +kernel) (Nat.le_of_ble_eq_true rfl) ?_
  show fx_X g mq_RE_contains 0 [(0, .ref a), (1, .ref b)] [] h _ 0 0
  refine fx_aload_n 1 dq_RE_contains_0 rfl rfl ?_
  refine fx_geti ok fq_RE_7 hb dq_RE_contains_1 (by decide) ?_
  refine fx_aload_n 0 dq_RE_contains_4 rfl rfl ?_
  refine fx_geti ok fq_RE_7 ha dq_RE_contains_5 (by decide) ?_
  refine fx_icmp_lt (tgt := 68) dq_RE_contains_8 (by decide) (fun hc8 => ?_) (fun hc8 => ?_)
  · -- 8: jump
    refine fx_iconst (v := 0) dq_RE_contains_68 (by decide) ?_
    exact fx_zreturn rfl (by decide) dq_RE_contains_69 ⟨by simp [rIn, hc8], rfl⟩
  · -- 8: fall
    refine fx_aload_n 1 dq_RE_contains_11 rfl rfl ?_
    refine fx_geti ok fq_RE_7 hb dq_RE_contains_12 (by decide) ?_
    refine fx_aload_n 1 dq_RE_contains_15 rfl rfl ?_
    refine fx_geti ok fq_RE_16 hb dq_RE_contains_16 (by decide) ?_
    refine fx_iadd dq_RE_contains_19 ?_
    refine fx_aload_n 0 dq_RE_contains_20 rfl rfl ?_
    refine fx_geti ok fq_RE_7 ha dq_RE_contains_21 (by decide) ?_
    refine fx_aload_n 0 dq_RE_contains_24 rfl rfl ?_
    refine fx_geti ok fq_RE_16 ha dq_RE_contains_25 (by decide) ?_
    refine fx_iadd dq_RE_contains_28 ?_
    refine fx_icmp_gt (tgt := 68) dq_RE_contains_29 (by decide) (fun hc29 => ?_) (fun hc29 => ?_)
    · -- 29: jump
      refine fx_iconst (v := 0) dq_RE_contains_68 (by decide) ?_
      exact fx_zreturn rfl (by decide) dq_RE_contains_69 ⟨by simp [rIn, hc8, hc29], rfl⟩
    · -- 29: fall
      refine fx_aload_n 1 dq_RE_contains_32 rfl rfl ?_
      refine fx_geti ok fq_RE_13 hb dq_RE_contains_33 (by decide) ?_
      refine fx_aload_n 0 dq_RE_contains_36 rfl rfl ?_
      refine fx_geti ok fq_RE_13 ha dq_RE_contains_37 (by decide) ?_
      refine fx_icmp_lt (tgt := 68) dq_RE_contains_40 (by decide) (fun hc40 => ?_) (fun hc40 => ?_)
      · -- 40: jump
        refine fx_iconst (v := 0) dq_RE_contains_68 (by decide) ?_
        exact fx_zreturn rfl (by decide) dq_RE_contains_69 ⟨by simp [rIn, hc8, hc29, hc40], rfl⟩
      · -- 40: fall
        refine fx_aload_n 1 dq_RE_contains_43 rfl rfl ?_
        refine fx_geti ok fq_RE_13 hb dq_RE_contains_44 (by decide) ?_
        refine fx_aload_n 1 dq_RE_contains_47 rfl rfl ?_
        refine fx_geti ok fq_RE_19 hb dq_RE_contains_48 (by decide) ?_
        refine fx_iadd dq_RE_contains_51 ?_
        refine fx_aload_n 0 dq_RE_contains_52 rfl rfl ?_
        refine fx_geti ok fq_RE_13 ha dq_RE_contains_53 (by decide) ?_
        refine fx_aload_n 0 dq_RE_contains_56 rfl rfl ?_
        refine fx_geti ok fq_RE_19 ha dq_RE_contains_57 (by decide) ?_
        refine fx_iadd dq_RE_contains_60 ?_
        refine fx_icmp_gt (tgt := 68) dq_RE_contains_61 (by decide) (fun hc61 => ?_) (fun hc61 => ?_)
        · -- 61: jump
          refine fx_iconst (v := 0) dq_RE_contains_68 (by decide) ?_
          exact fx_zreturn rfl (by decide) dq_RE_contains_69 ⟨by simp [rIn, hc8, hc29, hc40, hc61], rfl⟩
        · -- 61: fall
          refine fx_iconst (v := 1) dq_RE_contains_64 (by decide) ?_
          refine fx_goto (tgt := 69) dq_RE_contains_65 (by decide) ?_
          exact fx_zreturn rfl (by decide) dq_RE_contains_69 ⟨by simp [rIn, hc8, hc29, hc40, hc61], rfl⟩

def rWaste (h : fx_H) (a b : Nat) : Int32 := (jmax (fx_i h a 0 + fx_i h a 2) (fx_i h b 0 + fx_i h b 2) - jmin (fx_i h a 0) (fx_i h b 0)) * (jmax (fx_i h a 1 + fx_i h a 3) (fx_i h b 1 + fx_i h b 3) - jmin (fx_i h a 1) (fx_i h b 1)) - fx_i h a 2 * fx_i h a 3 - fx_i h b 2 * fx_i h b 3
set_option maxRecDepth 100000 in
set_option maxHeartbeats 4000000 in
theorem cr_wasteWith {g : fx_G} (ok : fx_ok g) (h : fx_H) (a b : Nat) (ha : fx_s h a = some (.inl 1)) (hb : fx_s h b = some (.inl 1)) : fx_C g mq_RE_wasteWith [.ref a, .ref b] h (fx_is (some (rWaste h a b)) (h)) 0 0 := by
  refine fx_body (by decide +kernel) (Nat.le_of_ble_eq_true rfl) ?_
  show fx_X g mq_RE_wasteWith 0 [(0, .ref a), (1, .ref b)] [] h _ 0 0
  refine fx_aload_n 0 dq_RE_wasteWith_0 rfl rfl ?_
  refine fx_geti ok fq_RE_7 ha dq_RE_wasteWith_1 (by decide) ?_
  refine fx_aload_n 0 dq_RE_wasteWith_4 rfl rfl ?_
  refine fx_geti ok fq_RE_16 ha dq_RE_wasteWith_5 (by decide) ?_
  refine fx_iadd dq_RE_wasteWith_8 ?_
  refine fx_aload_n 1 dq_RE_wasteWith_9 rfl rfl ?_
  refine fx_geti ok fq_RE_7 hb dq_RE_wasteWith_10 (by decide) ?_
  refine fx_aload_n 1 dq_RE_wasteWith_13 rfl rfl ?_
  refine fx_geti ok fq_RE_16 hb dq_RE_wasteWith_14 (by decide) ?_
  refine fx_iadd dq_RE_wasteWith_17 ?_
  refine fx_jmax ok sq_RE_32 kj_max.1 kj_max.2.1 kj_max.2.2 (by decide) (Nat.le_of_ble_eq_true rfl) dq_RE_wasteWith_18 ?_
  refine fx_aload_n 0 dq_RE_wasteWith_21 rfl rfl ?_
  refine fx_geti ok fq_RE_7 ha dq_RE_wasteWith_22 (by decide) ?_
  refine fx_aload_n 1 dq_RE_wasteWith_25 rfl rfl ?_
  refine fx_geti ok fq_RE_7 hb dq_RE_wasteWith_26 (by decide) ?_
  refine fx_jmin ok sq_RE_26 kj_min.1 kj_min.2.1 kj_min.2.2 (by decide) (Nat.le_of_ble_eq_true rfl) dq_RE_wasteWith_29 ?_
  refine fx_isub dq_RE_wasteWith_32 ?_
  refine fx_istore_n dq_RE_wasteWith_33 rfl (by decide) rfl ?_
  refine fx_aload_n 1 dq_RE_wasteWith_34 rfl rfl ?_
  refine fx_geti ok fq_RE_13 ha dq_RE_wasteWith_35 (by decide) ?_
  refine fx_aload_n 1 dq_RE_wasteWith_38 rfl rfl ?_
  refine fx_geti ok fq_RE_19 ha dq_RE_wasteWith_39 (by decide) ?_
  refine fx_iadd dq_RE_wasteWith_42 ?_
  refine fx_aload_n 2 dq_RE_wasteWith_43 rfl rfl ?_
  refine fx_geti ok fq_RE_13 hb dq_RE_wasteWith_44 (by decide) ?_
  refine fx_aload_n 2 dq_RE_wasteWith_47 rfl rfl ?_
  refine fx_geti ok fq_RE_19 hb dq_RE_wasteWith_48 (by decide) ?_
  refine fx_iadd dq_RE_wasteWith_51 ?_
  refine fx_jmax ok sq_RE_32 kj_max.1 kj_max.2.1 kj_max.2.2 (by decide) (Nat.le_of_ble_eq_true rfl) dq_RE_wasteWith_52 ?_
  refine fx_aload_n 1 dq_RE_wasteWith_55 rfl rfl ?_
  refine fx_geti ok fq_RE_13 ha dq_RE_wasteWith_56 (by decide) ?_
  refine fx_aload_n 2 dq_RE_wasteWith_59 rfl rfl ?_
  refine fx_geti ok fq_RE_13 hb dq_RE_wasteWith_60 (by decide) ?_
  refine fx_jmin ok sq_RE_26 kj_min.1 kj_min.2.1 kj_min.2.2 (by decide) (Nat.le_of_ble_eq_true rfl) dq_RE_wasteWith_63 ?_
  refine fx_isub dq_RE_wasteWith_66 ?_
  refine fx_istore_n dq_RE_wasteWith_67 rfl (by decide) rfl ?_
  refine fx_iload_n 1 dq_RE_wasteWith_68 rfl rfl ?_
  refine fx_iload_n 0 dq_RE_wasteWith_69 rfl rfl ?_
  refine fx_imul dq_RE_wasteWith_70 ?_
  refine fx_aload_n 2 dq_RE_wasteWith_71 rfl rfl ?_
  refine fx_geti ok fq_RE_16 ha dq_RE_wasteWith_72 (by decide) ?_
  refine fx_aload_n 2 dq_RE_wasteWith_75 rfl rfl ?_
  refine fx_geti ok fq_RE_19 ha dq_RE_wasteWith_76 (by decide) ?_
  refine fx_imul dq_RE_wasteWith_79 ?_
  refine fx_isub dq_RE_wasteWith_80 ?_
  refine fx_aload_n 3 dq_RE_wasteWith_81 rfl rfl ?_
  refine fx_geti ok fq_RE_16 hb dq_RE_wasteWith_82 (by decide) ?_
  refine fx_aload_n 3 dq_RE_wasteWith_85 rfl rfl ?_
  refine fx_geti ok fq_RE_19 hb dq_RE_wasteWith_86 (by decide) ?_
  refine fx_imul dq_RE_wasteWith_89 ?_
  refine fx_isub dq_RE_wasteWith_90 ?_
  exact fx_ireturn rfl dq_RE_wasteWith_91 ⟨rfl, rfl⟩

def rGrow (h : fx_H) (a b : Nat) : fx_H := rset h a (jmin (fx_i h a 0) (fx_i h b 0)) (jmin (fx_i h a 1) (fx_i h b 1)) (jmax (fx_i h a 0 + fx_i h a 2) (fx_i h b 0 + fx_i h b 2) - jmin (fx_i h a 0) (fx_i h b 0)) (jmax (fx_i h a 1 + fx_i h a 3) (fx_i h b 1 + fx_i h b 3) - jmin (fx_i h a 1) (fx_i h b 1))
set_option maxRecDepth 100000 in
set_option maxHeartbeats 4000000 in
theorem cr_growOver {g : fx_G} (ok : fx_ok g) (h : fx_H) (a b : Nat) (ha : fx_s h a = some (.inl 1)) (hb : fx_s h b = some (.inl 1)) (hab : a ≠ b) : fx_C g mq_RE_growOver [.ref a, .ref b] h (fx_is none (rGrow h a b)) 0 0 := by
  refine fx_body (by decide +kernel) (Nat.le_of_ble_eq_true rfl) ?_
  show fx_X g mq_RE_growOver 0 [(0, .ref a), (1, .ref b)] [] h _ 0 0
  refine fx_aload_n 0 dq_RE_growOver_0 rfl rfl ?_
  refine fx_geti ok fq_RE_7 ha dq_RE_growOver_1 (by decide) ?_
  refine fx_aload_n 0 dq_RE_growOver_4 rfl rfl ?_
  refine fx_geti ok fq_RE_16 ha dq_RE_growOver_5 (by decide) ?_
  refine fx_iadd dq_RE_growOver_8 ?_
  refine fx_aload_n 1 dq_RE_growOver_9 rfl rfl ?_
  refine fx_geti ok fq_RE_7 hb dq_RE_growOver_10 (by decide) ?_
  refine fx_aload_n 1 dq_RE_growOver_13 rfl rfl ?_
  refine fx_geti ok fq_RE_16 hb dq_RE_growOver_14 (by decide) ?_
  refine fx_iadd dq_RE_growOver_17 ?_
  refine fx_jmax ok sq_RE_32 kj_max.1 kj_max.2.1 kj_max.2.2 (by decide) (Nat.le_of_ble_eq_true rfl) dq_RE_growOver_18 ?_
  refine fx_istore_n dq_RE_growOver_21 rfl (by decide) rfl ?_
  refine fx_aload_n 1 dq_RE_growOver_22 rfl rfl ?_
  refine fx_geti ok fq_RE_13 ha dq_RE_growOver_23 (by decide) ?_
  refine fx_aload_n 1 dq_RE_growOver_26 rfl rfl ?_
  refine fx_geti ok fq_RE_19 ha dq_RE_growOver_27 (by decide) ?_
  refine fx_iadd dq_RE_growOver_30 ?_
  refine fx_aload_n 2 dq_RE_growOver_31 rfl rfl ?_
  refine fx_geti ok fq_RE_13 hb dq_RE_growOver_32 (by decide) ?_
  refine fx_aload_n 2 dq_RE_growOver_35 rfl rfl ?_
  refine fx_geti ok fq_RE_19 hb dq_RE_growOver_36 (by decide) ?_
  refine fx_iadd dq_RE_growOver_39 ?_
  refine fx_jmax ok sq_RE_32 kj_max.1 kj_max.2.1 kj_max.2.2 (by decide) (Nat.le_of_ble_eq_true rfl) dq_RE_growOver_40 ?_
  refine fx_istore_n dq_RE_growOver_43 rfl (by decide) rfl ?_
  refine fx_aload_n 2 dq_RE_growOver_44 rfl rfl ?_
  refine fx_aload_n 2 dq_RE_growOver_45 rfl rfl ?_
  refine fx_geti ok fq_RE_7 ha dq_RE_growOver_46 (by decide) ?_
  refine fx_aload_n 3 dq_RE_growOver_49 rfl rfl ?_
  refine fx_geti ok fq_RE_7 hb dq_RE_growOver_50 (by decide) ?_
  refine fx_jmin ok sq_RE_26 kj_min.1 kj_min.2.1 kj_min.2.2 (by decide) (Nat.le_of_ble_eq_true rfl) dq_RE_growOver_53 ?_
  refine fx_puti ok fp_RE_7 ha (by decide) dq_RE_growOver_56 (Or.inl (by decide)) ?_
  refine fx_aload_n 2 dq_RE_growOver_59 rfl rfl ?_
  refine fx_aload_n 2 dq_RE_growOver_60 rfl rfl ?_
  refine fx_geti ok fq_RE_13 ha dq_RE_growOver_61 (by decide) ?_
  refine fx_aload_n 3 dq_RE_growOver_64 rfl rfl ?_
  refine fx_geti ok fq_RE_13 hb dq_RE_growOver_65 (by decide) ?_
  refine fx_jmin ok sq_RE_26 kj_min.1 kj_min.2.1 kj_min.2.2 (by decide) (Nat.le_of_ble_eq_true rfl) dq_RE_growOver_68 ?_
  refine fx_puti ok fp_RE_13 ha (by decide) dq_RE_growOver_71 (Or.inl (by decide)) ?_
  refine fx_aload_n 2 dq_RE_growOver_74 rfl rfl ?_
  refine fx_iload_n 1 dq_RE_growOver_75 rfl rfl ?_
  refine fx_aload_n 2 dq_RE_growOver_76 rfl rfl ?_
  refine fx_geti ok fq_RE_7 ha dq_RE_growOver_77 (by decide) ?_
  refine fx_isub dq_RE_growOver_80 ?_
  refine fx_puti ok fp_RE_16 ha (by decide) dq_RE_growOver_81 (Or.inl (by decide)) ?_
  refine fx_aload_n 2 dq_RE_growOver_84 rfl rfl ?_
  refine fx_iload_n 0 dq_RE_growOver_85 rfl rfl ?_
  refine fx_aload_n 2 dq_RE_growOver_86 rfl rfl ?_
  refine fx_geti ok fq_RE_13 ha dq_RE_growOver_87 (by decide) ?_
  refine fx_isub dq_RE_growOver_90 ?_
  refine fx_puti ok fp_RE_19 ha (by decide) dq_RE_growOver_91 (Or.inl (by decide)) ?_
  exact fx_vreturn rfl dq_RE_growOver_94 ⟨rfl, by simp [fx_i_wi, rGrow, rset, hab, Ne.symm hab]⟩
end
