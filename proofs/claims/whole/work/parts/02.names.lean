def R_M : String := "SnapshotDeskModel"
def R_D : String := "SnapshotDesk"
def R_G : String := "SnapshotDesk$Given"
def R_T : String := "SnapshotDesk$Transaction"
def R_L : String := "java/util/ArrayList"
def R_AL : String := "java/util/AbstractList"
def R_AC : String := "java/util/AbstractCollection"
def R_O : String := "java/util/Objects"
def R_P : String := "jdk/internal/util/Preconditions"
def R_AS : String := "jdk/internal/util/ArraysSupport"
def R_AR : String := "java/util/Arrays"
def R_W : String := "SnapshotDeskLaw"
def F_M : u_T := fun k => match k with
  | 0 => ("SnapshotDeskModel", "given", "I", false)
  | 1 => ("SnapshotDeskModel", "commits", "I", false)
  | 2 => ("SnapshotDeskModel", "states", "[I", true)
  | 3 => ("SnapshotDeskModel", "belongs", "[I", true)
  | 4 => ("SnapshotDeskModel", "roots", "[I", true)
  | 5 => ("SnapshotDeskModel", "places", "[I", true)
  | 6 => ("SnapshotDeskModel", "has", "[Z", true)
  | 7 => ("SnapshotDeskModel", "modes", "[I", true)
  | 8 => ("SnapshotDeskModel", "commands", "[I", true)
  | 9 => ("SnapshotDeskModel", "tops", "[I", true)
  | 10 => ("SnapshotDeskModel", "snaps", "[I", true)
  | _ => ("SnapshotDeskModel", "levels", "[I", true)
def ty_M : Nat → FieldType := fun k => match k with
  | 0 => .int
  | 1 => .int
  | 2 => .array .int
  | 3 => .array .int
  | 4 => .array .int
  | 5 => .array .int
  | 6 => .array .boolean
  | 7 => .array .int
  | 8 => .array .int
  | 9 => .array .int
  | 10 => .array .int
  | _ => .array .int
theorem nm_M : ∀ a, a < 12 → ∀ b, b < 12 → a ≠ b → (F_M a).2.1 ≠ (F_M b).2.1 := by decide +kernel
theorem tk_M : ∀ k, k < 12 → parseFieldDescriptor (F_M k).2.2.1 = some (ty_M k) := by decide +kernel
def F_D : u_T := fun k => match k with
  | 0 => ("SnapshotDesk", "sessions", "[LSnapshotDesk$Transaction;", true)
  | 1 => ("SnapshotDesk", "given", "Ljava/util/ArrayList;", true)
  | _ => ("SnapshotDesk", "commits", "I", false)
def ty_D : Nat → FieldType := fun k => match k with
  | 0 => .array (.object "SnapshotDesk$Transaction")
  | 1 => .object "java/util/ArrayList"
  | _ => .int
theorem nm_D : ∀ a, a < 3 → ∀ b, b < 3 → a ≠ b → (F_D a).2.1 ≠ (F_D b).2.1 := by decide +kernel
theorem tk_D : ∀ k, k < 3 → parseFieldDescriptor (F_D k).2.2.1 = some (ty_D k) := by decide +kernel
def F_G : u_T := fun k => match k with
  | 0 => ("SnapshotDesk$Given", "rootNumber", "I", true)
  | 1 => ("SnapshotDesk$Given", "level", "I", false)
  | 2 => ("SnapshotDesk$Given", "condition", "I", false)
  | _ => ("SnapshotDesk$Given", "commitPlace", "I", false)
def ty_G : Nat → FieldType := fun k => match k with
  | 0 => .int
  | 1 => .int
  | 2 => .int
  | _ => .int
theorem nm_G : ∀ a, a < 4 → ∀ b, b < 4 → a ≠ b → (F_G a).2.1 ≠ (F_G b).2.1 := by decide +kernel
theorem tk_G : ∀ k, k < 4 → parseFieldDescriptor (F_G k).2.2.1 = some (ty_G k) := by decide +kernel
def F_T : u_T := fun k => match k with
  | 0 => ("SnapshotDesk$Transaction", "mode", "I", true)
  | 1 => ("SnapshotDesk$Transaction", "numbers", "[I", true)
  | 2 => ("SnapshotDesk$Transaction", "top", "I", false)
  | 3 => ("SnapshotDesk$Transaction", "command", "I", false)
  | _ => ("SnapshotDesk$Transaction", "snapshot", "I", false)
def ty_T : Nat → FieldType := fun k => match k with
  | 0 => .int
  | 1 => .array .int
  | 2 => .int
  | 3 => .int
  | _ => .int
theorem nm_T : ∀ a, a < 5 → ∀ b, b < 5 → a ≠ b → (F_T a).2.1 ≠ (F_T b).2.1 := by decide +kernel
theorem tk_T : ∀ k, k < 5 → parseFieldDescriptor (F_T k).2.2.1 = some (ty_T k) := by decide +kernel
def F_L : u_T := fun k => match k with
  | 0 => ("java/util/AbstractList", "modCount", "I", false)
  | 1 => ("java/util/ArrayList", "elementData", "[Ljava/lang/Object;", false)
  | _ => ("java/util/ArrayList", "size", "I", false)
def ty_L : Nat → FieldType := fun k => match k with
  | 0 => .int
  | 1 => .array (.object "java/lang/Object")
  | _ => .int
theorem nm_L : ∀ a, a < 3 → ∀ b, b < 3 → a ≠ b → (F_L a).2.1 ≠ (F_L b).2.1 := by decide +kernel
theorem tk_L : ∀ k, k < 3 → parseFieldDescriptor (F_L k).2.2.1 = some (ty_L k) := by decide +kernel
abbrev cls : List vw_C := [(R_M, F_M, 12), (R_D, F_D, 3), (R_G, F_G, 4), (R_T, F_T, 5), (R_L, F_L, 3)]
abbrev gk (κ : Nat → ClassId) : List (ClassId × FieldType) := [(κ 0, .int), (κ 1, .boolean), (κ 2, .object "SnapshotDesk$Transaction"), (κ 3, .object "java/lang/Object")]
def mw (κ : Nat → ClassId) (a : Nat → Nat) (g cm : Int32) (st be ro pl ha mo co to sn le : Nat → Int32) : va_W := [(a 0, .inr (0, [.int g, .int cm, .ref (a 1), .ref (a 2), .ref (a 3), .ref (a 4), .ref (a 5), .ref (a 6), .ref (a 7), .ref (a 8), .ref (a 9), .ref (a 10)])), (a 1, .inl (κ 0, 4001, .inl st)), (a 2, .inl (κ 0, 4001, .inl be)), (a 3, .inl (κ 0, 4001, .inl ro)), (a 4, .inl (κ 0, 4001, .inl pl)), (a 5, .inl (κ 1, 6, .inl ha)), (a 6, .inl (κ 0, 6, .inl mo)), (a 7, .inl (κ 0, 6, .inl co)), (a 8, .inl (κ 0, 6, .inl to)), (a 9, .inl (κ 0, 6, .inl sn)), (a 10, .inl (κ 0, 48, .inl le))]
/-! What stays as it was from the start: the list's empty array (z.1), the mirror of the array of objects (z.2), the words that no call carries along by itself. -/
def zf (z : Nat × Nat) (A : Nat → Prop) (U : State) (H : Heap) : Prop := va_Z "java/util/ArrayList" "DEFAULTCAPACITY_EMPTY_ELEMENTDATA" "[Ljava/lang/Object;" (.ref z.1) A U H ∧ va_T (.object "java/lang/Object") z.1 0 (fun _ => .null) A U H ∧ va_Mi "[Ljava/lang/Object;" z.2 U ∧ va_Nw (.castable R_G "java/lang/Object") U ∧ va_AO "SnapshotDesk$Transaction" U ∧ va_AO "java/lang/Object" U ∧ va_Dc U
theorem cast_moved {C T : String} {u U : State} (hvm : u.vm.Alike U.vm) (h : va_Nw (.castable C T) u) : va_Nw (.castable C T) U := va_tabs rfl (rfl : (u.setVm U.vm).vm = U.vm) (by rw [Cond.castable_setVm hvm]; exact h)
theorem zf.moved {z : Nat × Nat} {A : Nat → Prop} {u U : State} {H : Heap} (hvm : u.vm.Alike U.vm) (h : zf z A u H) : zf z A U H := ⟨h.1.moved hvm, h.2.1.moved hvm, h.2.2.1.moved hvm, cast_moved hvm h.2.2.2.1, h.2.2.2.2.1.moved hvm, h.2.2.2.2.2.1.moved hvm, h.2.2.2.2.2.2.moved hvm⟩
theorem zf.kept {z : Nat × Nat} {A : Nat → Prop} {U : State} {H H1 : Heap} (h : zf z A U H) (hq : ∀ a : Nat, a < H.size → ¬ A a → H1[a]? = H[a]?) : zf z A U H1 := ⟨h.1.kept hq, h.2.1.kept hq, h.2.2⟩
theorem zf.narrow {z : Nat × Nat} {A B : Nat → Prop} {U : State} {H : Heap} (h : zf z A U H) (hAB : ∀ q, B q → A q) : zf z B U H := ⟨h.1.narrow hAB, h.2.1.narrow hAB, h.2.2⟩
