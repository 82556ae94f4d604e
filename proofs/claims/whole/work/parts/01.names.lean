/-! ===== classes and their fields ===== -/
def Rq_FS : String := "FrameSwapper"
def Tq_FS : u_T := fun k => match k with
  | 0 => ("FrameSwapper", "desk", "LFrameSwapper$Desk;", true)
  | 1 => ("FrameSwapper", "composer", "LFrameSwapper$Composer;", true)
  | 2 => ("FrameSwapper", "beam", "LFrameSwapper$Beam;", true)
  | 3 => ("FrameSwapper", "area", "LFrameSwapper$Rectangle;", true)
  | _ => ("FrameSwapper", "carried", "LFrameSwapper$Picture;", true)
def tq_FS : Nat → FieldType := fun k => match k with
  | 0 => .object "FrameSwapper$Desk"
  | 1 => .object "FrameSwapper$Composer"
  | 2 => .object "FrameSwapper$Beam"
  | 3 => .object "FrameSwapper$Rectangle"
  | _ => .object "FrameSwapper$Picture"
theorem nq_FS : ∀ a, a < 5 → ∀ b, b < 5 → a ≠ b → (Tq_FS a).2.1 ≠ (Tq_FS b).2.1 := by decide +kernel
theorem tq_FS_ok : ∀ k, k < 5 → parseFieldDescriptor (Tq_FS k).2.2.1 = some (tq_FS k) := by decide +kernel
def Rq_RE : String := "FrameSwapper$Rectangle"
def Tq_RE : u_T := fun k => match k with
  | 0 => ("FrameSwapper$Rectangle", "x", "I", false)
  | 1 => ("FrameSwapper$Rectangle", "y", "I", false)
  | 2 => ("FrameSwapper$Rectangle", "columns", "I", false)
  | _ => ("FrameSwapper$Rectangle", "rows", "I", false)
def tq_RE : Nat → FieldType := fun k => match k with
  | 0 => .int
  | 1 => .int
  | 2 => .int
  | _ => .int
theorem nq_RE : ∀ a, a < 4 → ∀ b, b < 4 → a ≠ b → (Tq_RE a).2.1 ≠ (Tq_RE b).2.1 := by decide +kernel
theorem tq_RE_ok : ∀ k, k < 4 → parseFieldDescriptor (Tq_RE k).2.2.1 = some (tq_RE k) := by decide +kernel
def Rq_PI : String := "FrameSwapper$Picture"
def Tq_PI : u_T := fun k => match k with
  | 0 => ("FrameSwapper$Picture", "isThere", "Z", false)
  | 1 => ("FrameSwapper$Picture", "columns", "I", false)
  | 2 => ("FrameSwapper$Picture", "rows", "I", false)
  | 3 => ("FrameSwapper$Picture", "x", "I", false)
  | 4 => ("FrameSwapper$Picture", "y", "I", false)
  | 5 => ("FrameSwapper$Picture", "order", "I", false)
  | 6 => ("FrameSwapper$Picture", "alpha", "I", false)
  | 7 => ("FrameSwapper$Picture", "visible", "Z", false)
  | 8 => ("FrameSwapper$Picture", "pixels", "[I", true)
  | 9 => ("FrameSwapper$Picture", "clip", "LFrameSwapper$Rectangle;", true)
  | _ => ("FrameSwapper$Picture", "shown", "LFrameSwapper$Rectangle;", true)
def tq_PI : Nat → FieldType := fun k => match k with
  | 0 => .boolean
  | 1 => .int
  | 2 => .int
  | 3 => .int
  | 4 => .int
  | 5 => .int
  | 6 => .int
  | 7 => .boolean
  | 8 => .array .int
  | 9 => .object "FrameSwapper$Rectangle"
  | _ => .object "FrameSwapper$Rectangle"
theorem nq_PI : ∀ a, a < 11 → ∀ b, b < 11 → a ≠ b → (Tq_PI a).2.1 ≠ (Tq_PI b).2.1 := by decide +kernel
theorem tq_PI_ok : ∀ k, k < 11 → parseFieldDescriptor (Tq_PI k).2.2.1 = some (tq_PI k) := by decide +kernel
def Rq_PL : String := "FrameSwapper$Pile"
def Tq_PL : u_T := fun k => match k with
  | 0 => ("FrameSwapper$Pile", "pictures", "[LFrameSwapper$Picture;", true)
  | 1 => ("FrameSwapper$Pile", "upward", "[I", true)
  | _ => ("FrameSwapper$Pile", "height", "I", false)
def tq_PL : Nat → FieldType := fun k => match k with
  | 0 => .array (.object "FrameSwapper$Picture")
  | 1 => .array .int
  | _ => .int
theorem nq_PL : ∀ a, a < 3 → ∀ b, b < 3 → a ≠ b → (Tq_PL a).2.1 ≠ (Tq_PL b).2.1 := by decide +kernel
theorem tq_PL_ok : ∀ k, k < 3 → parseFieldDescriptor (Tq_PL k).2.2.1 = some (tq_PL k) := by decide +kernel
def Rq_DE : String := "FrameSwapper$Desk"
def Tq_DE : u_T := fun k => match k with
  | 0 => ("FrameSwapper$Desk", "drafts", "[LFrameSwapper$Picture;", true)
  | 1 => ("FrameSwapper$Desk", "committed", "LFrameSwapper$Pile;", true)
  | 2 => ("FrameSwapper$Desk", "clients", "[I", true)
  | 3 => ("FrameSwapper$Desk", "leaving", "[Z", true)
  | 4 => ("FrameSwapper$Desk", "waiting", "[Z", true)
  | 5 => ("FrameSwapper$Desk", "commits", "I", false)
  | _ => ("FrameSwapper$Desk", "freePixels", "I", false)
def tq_DE : Nat → FieldType := fun k => match k with
  | 0 => .array (.object "FrameSwapper$Picture")
  | 1 => .object "FrameSwapper$Pile"
  | 2 => .array .int
  | 3 => .array .boolean
  | 4 => .array .boolean
  | 5 => .int
  | _ => .int
theorem nq_DE : ∀ a, a < 7 → ∀ b, b < 7 → a ≠ b → (Tq_DE a).2.1 ≠ (Tq_DE b).2.1 := by decide +kernel
theorem tq_DE_ok : ∀ k, k < 7 → parseFieldDescriptor (Tq_DE k).2.2.1 = some (tq_DE k) := by decide +kernel
def Rq_MI : String := "FrameSwapper$Misses"
def Tq_MI : u_T := fun k => match k with
  | 0 => ("FrameSwapper$Misses", "list", "[LFrameSwapper$Rectangle;", true)
  | _ => ("FrameSwapper$Misses", "size", "I", false)
def tq_MI : Nat → FieldType := fun k => match k with
  | 0 => .array (.object "FrameSwapper$Rectangle")
  | _ => .int
theorem nq_MI : ∀ a, a < 2 → ∀ b, b < 2 → a ≠ b → (Tq_MI a).2.1 ≠ (Tq_MI b).2.1 := by decide +kernel
theorem tq_MI_ok : ∀ k, k < 2 → parseFieldDescriptor (Tq_MI k).2.2.1 = some (tq_MI k) := by decide +kernel
def Rq_ME : String := "FrameSwapper$Memory"
def Tq_ME : u_T := fun k => match k with
  | 0 => ("FrameSwapper$Memory", "pixels", "[I", true)
  | _ => ("FrameSwapper$Memory", "misses", "LFrameSwapper$Misses;", true)
def tq_ME : Nat → FieldType := fun k => match k with
  | 0 => .array .int
  | _ => .object "FrameSwapper$Misses"
theorem nq_ME : ∀ a, a < 2 → ∀ b, b < 2 → a ≠ b → (Tq_ME a).2.1 ≠ (Tq_ME b).2.1 := by decide +kernel
theorem tq_ME_ok : ∀ k, k < 2 → parseFieldDescriptor (Tq_ME k).2.2.1 = some (tq_ME k) := by decide +kernel
def Rq_PN : String := "FrameSwapper$Planes"
def Tq_PN : u_T := fun k => match k with
  | 0 => ("FrameSwapper$Planes", "numbers", "[I", true)
  | 1 => ("FrameSwapper$Planes", "shown", "[LFrameSwapper$Rectangle;", true)
  | _ => ("FrameSwapper$Planes", "colors", "[[I", true)
def tq_PN : Nat → FieldType := fun k => match k with
  | 0 => .array .int
  | 1 => .array (.object "FrameSwapper$Rectangle")
  | _ => .array (.array .int)
theorem nq_PN : ∀ a, a < 3 → ∀ b, b < 3 → a ≠ b → (Tq_PN a).2.1 ≠ (Tq_PN b).2.1 := by decide +kernel
theorem tq_PN_ok : ∀ k, k < 3 → parseFieldDescriptor (Tq_PN k).2.2.1 = some (tq_PN k) := by decide +kernel
def Rq_CO : String := "FrameSwapper$Composer"
def Tq_CO : u_T := fun k => match k with
  | 0 => ("FrameSwapper$Composer", "taken", "LFrameSwapper$Pile;", true)
  | 1 => ("FrameSwapper$Composer", "chosen", "LFrameSwapper$Planes;", true)
  | 2 => ("FrameSwapper$Composer", "wasInPlane", "[Z", true)
  | 3 => ("FrameSwapper$Composer", "shownBefore", "[LFrameSwapper$Rectangle;", true)
  | 4 => ("FrameSwapper$Composer", "front", "LFrameSwapper$Memory;", false)
  | 5 => ("FrameSwapper$Composer", "back", "LFrameSwapper$Memory;", false)
  | 6 => ("FrameSwapper$Composer", "state", "I", false)
  | 7 => ("FrameSwapper$Composer", "takenCommit", "I", false)
  | 8 => ("FrameSwapper$Composer", "frontCommit", "I", false)
  | 9 => ("FrameSwapper$Composer", "hole", "I", false)
  | _ => ("FrameSwapper$Composer", "level", "I", false)
def tq_CO : Nat → FieldType := fun k => match k with
  | 0 => .object "FrameSwapper$Pile"
  | 1 => .object "FrameSwapper$Planes"
  | 2 => .array .boolean
  | 3 => .array (.object "FrameSwapper$Rectangle")
  | 4 => .object "FrameSwapper$Memory"
  | 5 => .object "FrameSwapper$Memory"
  | 6 => .int
  | 7 => .int
  | 8 => .int
  | 9 => .int
  | _ => .int
theorem nq_CO : ∀ a, a < 11 → ∀ b, b < 11 → a ≠ b → (Tq_CO a).2.1 ≠ (Tq_CO b).2.1 := by decide +kernel
theorem tq_CO_ok : ∀ k, k < 11 → parseFieldDescriptor (Tq_CO k).2.2.1 = some (tq_CO k) := by decide +kernel
def Rq_BE : String := "FrameSwapper$Beam"
def Tq_BE : u_T := fun k => match k with
  | 0 => ("FrameSwapper$Beam", "planes", "LFrameSwapper$Planes;", true)
  | 1 => ("FrameSwapper$Beam", "scanned", "[I", true)
  | 2 => ("FrameSwapper$Beam", "seen", "[I", true)
  | 3 => ("FrameSwapper$Beam", "row", "I", false)
  | 4 => ("FrameSwapper$Beam", "frames", "I", false)
  | _ => ("FrameSwapper$Beam", "seenCommit", "I", false)
def tq_BE : Nat → FieldType := fun k => match k with
  | 0 => .object "FrameSwapper$Planes"
  | 1 => .array .int
  | 2 => .array .int
  | 3 => .int
  | 4 => .int
  | _ => .int
theorem nq_BE : ∀ a, a < 6 → ∀ b, b < 6 → a ≠ b → (Tq_BE a).2.1 ≠ (Tq_BE b).2.1 := by decide +kernel
theorem tq_BE_ok : ∀ k, k < 6 → parseFieldDescriptor (Tq_BE k).2.2.1 = some (tq_BE k) := by decide +kernel
def Rq_MO : String := "FrameSwapperModel"
def Tq_MO : u_T := fun k => match k with
  | 0 => ("FrameSwapperModel", "code", "I", false)
  | 1 => ("FrameSwapperModel", "used", "[Z", true)
  | 2 => ("FrameSwapperModel", "client", "[I", true)
  | 3 => ("FrameSwapperModel", "columns", "[I", true)
  | 4 => ("FrameSwapperModel", "rows", "[I", true)
  | 5 => ("FrameSwapperModel", "destroyed", "[Z", true)
  | 6 => ("FrameSwapperModel", "gone", "[Z", true)
  | 7 => ("FrameSwapperModel", "there", "[Z", true)
  | 8 => ("FrameSwapperModel", "px", "[I", true)
  | 9 => ("FrameSwapperModel", "py", "[I", true)
  | 10 => ("FrameSwapperModel", "order", "[I", true)
  | 11 => ("FrameSwapperModel", "alpha", "[I", true)
  | 12 => ("FrameSwapperModel", "visible", "[Z", true)
  | 13 => ("FrameSwapperModel", "cx", "[I", true)
  | 14 => ("FrameSwapperModel", "cy", "[I", true)
  | 15 => ("FrameSwapperModel", "cw", "[I", true)
  | 16 => ("FrameSwapperModel", "ch", "[I", true)
  | 17 => ("FrameSwapperModel", "pixels", "[I", true)
  | 18 => ("FrameSwapperModel", "copied", "[I", true)
  | 19 => ("FrameSwapperModel", "commits", "I", false)
  | 20 => ("FrameSwapperModel", "taken", "I", false)
  | 21 => ("FrameSwapperModel", "committed", "[Z", true)
  | 22 => ("FrameSwapperModel", "state", "I", false)
  | 23 => ("FrameSwapperModel", "back", "I", false)
  | 24 => ("FrameSwapperModel", "memory", "[I", true)
  | 25 => ("FrameSwapperModel", "misses", "[I", true)
  | 26 => ("FrameSwapperModel", "mx", "[I", true)
  | 27 => ("FrameSwapperModel", "my", "[I", true)
  | 28 => ("FrameSwapperModel", "mw", "[I", true)
  | 29 => ("FrameSwapperModel", "mh", "[I", true)
  | 30 => ("FrameSwapperModel", "planes", "[I", true)
  | 31 => ("FrameSwapperModel", "at", "I", false)
  | 32 => ("FrameSwapperModel", "step", "I", false)
  | 33 => ("FrameSwapperModel", "wasX", "[I", true)
  | 34 => ("FrameSwapperModel", "wasY", "[I", true)
  | 35 => ("FrameSwapperModel", "wasW", "[I", true)
  | 36 => ("FrameSwapperModel", "wasH", "[I", true)
  | 37 => ("FrameSwapperModel", "wasPlane", "[Z", true)
  | 38 => ("FrameSwapperModel", "x", "I", false)
  | 39 => ("FrameSwapperModel", "y", "I", false)
  | 40 => ("FrameSwapperModel", "w", "I", false)
  | 41 => ("FrameSwapperModel", "h", "I", false)
  | 42 => ("FrameSwapperModel", "row", "I", false)
  | 43 => ("FrameSwapperModel", "frames", "I", false)
  | 44 => ("FrameSwapperModel", "set", "I", false)
  | 45 => ("FrameSwapperModel", "shows", "I", false)
  | 46 => ("FrameSwapperModel", "setX", "[I", true)
  | 47 => ("FrameSwapperModel", "setY", "[I", true)
  | 48 => ("FrameSwapperModel", "setW", "[I", true)
  | 49 => ("FrameSwapperModel", "setH", "[I", true)
  | 50 => ("FrameSwapperModel", "setPixels", "[I", true)
  | _ => ("FrameSwapperModel", "seen", "[I", true)
def tq_MO : Nat → FieldType := fun k => match k with
  | 0 => .int
  | 1 => .array .boolean
  | 2 => .array .int
  | 3 => .array .int
  | 4 => .array .int
  | 5 => .array .boolean
  | 6 => .array .boolean
  | 7 => .array .boolean
  | 8 => .array .int
  | 9 => .array .int
  | 10 => .array .int
  | 11 => .array .int
  | 12 => .array .boolean
  | 13 => .array .int
  | 14 => .array .int
  | 15 => .array .int
  | 16 => .array .int
  | 17 => .array .int
  | 18 => .array .int
  | 19 => .int
  | 20 => .int
  | 21 => .array .boolean
  | 22 => .int
  | 23 => .int
  | 24 => .array .int
  | 25 => .array .int
  | 26 => .array .int
  | 27 => .array .int
  | 28 => .array .int
  | 29 => .array .int
  | 30 => .array .int
  | 31 => .int
  | 32 => .int
  | 33 => .array .int
  | 34 => .array .int
  | 35 => .array .int
  | 36 => .array .int
  | 37 => .array .boolean
  | 38 => .int
  | 39 => .int
  | 40 => .int
  | 41 => .int
  | 42 => .int
  | 43 => .int
  | 44 => .int
  | 45 => .int
  | 46 => .array .int
  | 47 => .array .int
  | 48 => .array .int
  | 49 => .array .int
  | 50 => .array .int
  | _ => .array .int
theorem nq_MO : ∀ a, a < 52 → ∀ b, b < 52 → a ≠ b → (Tq_MO a).2.1 ≠ (Tq_MO b).2.1 := by decide +kernel
theorem tq_MO_ok : ∀ k, k < 52 → parseFieldDescriptor (Tq_MO k).2.2.1 = some (tq_MO k) := by decide +kernel
def fx_cl : List vw_C := [(Rq_FS, Tq_FS, 5), (Rq_RE, Tq_RE, 4), (Rq_PI, Tq_PI, 11), (Rq_PL, Tq_PL, 3), (Rq_DE, Tq_DE, 7), (Rq_MI, Tq_MI, 2), (Rq_ME, Tq_ME, 2), (Rq_PN, Tq_PN, 3), (Rq_CO, Tq_CO, 11), (Rq_BE, Tq_BE, 6), (Rq_MO, Tq_MO, 52)]
def fx_fkl : List (List Nat) := [[2, 2, 2, 2, 2], [0, 0, 0, 0], [1, 0, 0, 0, 0, 0, 0, 1, 2, 2, 2], [2, 2, 0], [2, 2, 2, 2, 2, 0, 0], [2, 0], [2, 2], [2, 2, 2], [2, 2, 2, 2, 2, 2, 0, 0, 0, 0, 0], [2, 2, 2, 0, 0, 0], [0, 2, 2, 2, 2, 2, 2, 2, 2, 2, 2, 2, 2, 2, 2, 2, 2, 2, 2, 0, 0, 2, 0, 0, 2, 2, 2, 2, 2, 2, 2, 0, 0, 2, 2, 2, 2, 2, 0, 0, 0, 0, 0, 0, 0, 0, 2, 2, 2, 2, 2, 2]]
/-- what the field k of the class ci holds: an int, a boolean, a reference -/
def fx_fk (ci k : Nat) : Nat := ((fx_fkl[ci]?).getD [])[k]?.getD 0
/-- the kinds of arrays: what they hold -/
def fx_tys : List FieldType := [.int, .boolean, .long, .object "FrameSwapper$Picture", .object "FrameSwapper$Rectangle", .array .int]
/-- words that the narrowing premise holds: statics that throwing reads, classes that are not castable -/
def fx_ex : List Cond := [.isRef (.static "java/lang/Throwable" "UNASSIGNED_STACK" "[Ljava/lang/StackTraceElement;"), .isRef (.static "java/lang/Throwable" "SUPPRESSED_SENTINEL" "Ljava/util/List;"), .not (.castable "java/lang/IllegalStateException" "java/lang/IllegalArgumentException"), .not (.castable "java/lang/IndexOutOfBoundsException" "java/lang/IllegalArgumentException")]
def fx_tb : List Cond := lw_tbl ++ fx_ex
